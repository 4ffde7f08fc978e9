/-! ints that are numbers; loops that go up -/
theorem kv_ti {a : Nat} (h : a < 2147483648) : (Int32.ofNat a).toInt = (a : Int) := Int32.toInt_ofNat_of_lt h
theorem kv_tn {a : Nat} (h : a < 2147483648) : (Int32.ofNat a).toNatClampNeg = a := by
  show (Int32.ofNat a).toInt.toNat = a
  rw [kv_ti h, Int.toNat_natCast]
theorem kv_nle {a b : Nat} (ha : a < 2147483648) (hb : b < 2147483648) : (Int32.ofNat a ≤ Int32.ofNat b) = (a ≤ b) := by
  rw [Int32.le_iff_toInt_le, kv_ti ha, kv_ti hb]
  exact propext (by omega)
theorem kv_nlt {a b : Nat} (ha : a < 2147483648) (hb : b < 2147483648) : (Int32.ofNat a < Int32.ofNat b) = (a < b) := by
  rw [Int32.lt_iff_toInt_lt, kv_ti ha, kv_ti hb]
  exact propext (by omega)
theorem kv_neq {a b : Nat} (ha : a < 2147483648) (hb : b < 2147483648) : (Int32.ofNat a = Int32.ofNat b) = (a = b) := by
  rw [← Int32.toInt_inj, kv_ti ha, kv_ti hb]
  exact propext (by omega)
theorem kv_nge0 {a : Nat} (ha : a < 2147483648) : ¬ (Int32.ofNat a < 0) := by
  show ¬ (Int32.ofNat a < Int32.ofNat 0)
  rw [kv_nlt ha (by omega)]
  omega
theorem kv_suc (k : Nat) : Int32.ofNat k + 1 = Int32.ofNat (k + 1) := (Int32.ofNat_add k 1).symm
theorem kv_nat {x : Int32} (h : 0 ≤ x) : ∃ n : Nat, n < 2147483648 ∧ x = Int32.ofNat n := by
  refine ⟨x.toNatClampNeg, ?_, (Int32.ofNat_toNatClampNeg x h).symm⟩
  have h1 := Int32.toInt_lt x
  show x.toInt.toNat < _
  omega
theorem kv_nn0 {x : Int32} (h : ¬ x < 0) : 0 ≤ x := Int32.not_lt.mp h
theorem kv_in_ {x : Int32} {n : Nat} (hn : n < 2147483648) (h1 : ¬ x < 0) (h2 : ¬ Int32.ofNat n ≤ x) : ¬ (x < 0 ∨ n ≤ x.toNatClampNeg) := by
  obtain ⟨m, hm, rfl⟩ := kv_nat (kv_nn0 h1)
  rw [kv_nle hn hm] at h2
  rw [kv_tn hm]
  rintro (h | h)
  · exact h1 h
  · exact h2 h
/-- what holds at the end of a loop that counts up holds at its head -/
theorem kv_up (P : Nat → Prop) (n : Nat) (he : P n) (hs : ∀ k, k < n → P (k + 1) → P k) : P 0 := by
  have h : ∀ m k, k + m = n → P k := by
    intro m
    induction m with
    | zero => intro k e; exact (show k = n by omega) ▸ he
    | succ m ih => intro k e; exact hs k (by omega) (ih (k + 1) (by omega))
  exact h n 0 (by omega)
theorem kv_upk (P : Nat → Prop) (n : Nat) (he : P n) (hs : ∀ k, k < n → P (k + 1) → P k) : ∀ k, k ≤ n → P k := by
  have h : ∀ m k, k + m = n → P k := by
    intro m
    induction m with
    | zero => intro k e; exact (show k = n by omega) ▸ he
    | succ m ih => intro k e; exact hs k (by omega) (ih (k + 1) (by omega))
  exact fun k hk => h (n - k) k (by omega)
def kv_sm : Nat → (Nat → Int32) → Int32
  | 0, _ => 0
  | n + 1, f => kv_sm n f + f n
def kv_bs : Nat → (Nat → Bool) → Int32
  | 0, _ => 0
  | n + 1, p => if p n then kv_bs n p ||| ((1 : Int32) <<< (Int32.ofNat n &&& 31)) else kv_bs n p
def kv_fa : Nat → Nat → (Nat → Bool) → Bool
  | 0, _, _ => false
  | m + 1, k, p => p k || kv_fa m (k + 1) p
theorem kv_i01 {c : Prop} {dc : Decidable c} : ((@ite Int32 c dc 0 1) = 0) = c := by
  cases dc with
  | isTrue h => exact propext ⟨fun _ => h, fun _ => rfl⟩
  | isFalse h => exact propext ⟨fun q => absurd q (show ¬ ((1 : Int32) = 0) from by decide), fun q => absurd q h⟩
theorem kv_i10 {c : Prop} {dc : Decidable c} : ((@ite Int32 c dc 1 0) = 0) = ¬ c := by
  cases dc with
  | isTrue h => exact propext ⟨fun q => absurd q (show ¬ ((1 : Int32) = 0) from by decide), fun q => absurd h q⟩
  | isFalse h => exact propext ⟨fun _ => h, fun _ => rfl⟩
theorem kv_nb01 {c : Prop} {dc : Decidable c} : kv_nb (@ite _ c dc 0 1) := by cases dc <;> first | exact kv_nb0 | exact kv_nb1
theorem kv_le8 {k : Nat} (h : k < 8) : ((8 : Int32) ≤ Int32.ofNat k) = False := by
  rw [show (8 : Int32) = Int32.ofNat 8 from rfl, kv_nle (by omega) (by omega)]
  exact propext ⟨fun q => by omega, fun q => q.elim⟩
theorem kv_le88 : ((8 : Int32) ≤ Int32.ofNat 8) = True := by decide
/-- a kite's cell, by numbers -/
def kc (z : Nat → Nat → Int32) (a k w : Nat) : Int32 := if k < 8 ∧ w < 13 then z (a + 1) (13 * k + w) else 0
def kv_pt (c : Nat → Nat → Int32) (k w : Nat) (v : Int32) : Nat → Nat → Int32 := fun k' w' => if k' = k ∧ w' = w then v else c k' w'
theorem kv_Ci (x : Int32) : kv_c2 (some (.int x)) = false := id rfl
theorem kv_Cr (x : Nat) : kv_c2 (some (.ref x)) = false := id rfl
theorem kv_Cn : kv_c2 none = false := id rfl
theorem kv_Cu : kv_c2 (some .null) = false := id rfl
theorem kv_C0 : kv_cat [] = 0 := id rfl
theorem kv_gCi (x : Int32) : (Value.int x).category = 1 := id rfl
theorem kv_gCl (x : Int64) : (Value.long x).category = 2 := id rfl
theorem kv_gCr (x : Nat) : (Value.ref x).category = 1 := id rfl
theorem kv_ib {x : Int32} {n : Nat} (hn : n < 2147483648) (h1 : ¬ x < 0) (h2 : ¬ Int32.ofNat n ≤ x) : (n ≤ x.toNatClampNeg) = False := propext ⟨fun h => kv_in_ hn h1 h2 (Or.inr h), False.elim⟩
theorem kv_bs_s (n : Nat) (p : Nat → Bool) : kv_bs (n + 1) p = if p n then kv_bs n p ||| ((1 : Int32) <<< (Int32.ofNat n &&& 31)) else kv_bs n p := rfl
theorem kv_sm_s (n : Nat) (f : Nat → Int32) : kv_sm (n + 1) f = kv_sm n f + f n := rfl
theorem kv_fa_s (m k : Nat) (p : Nat → Bool) : kv_fa (m + 1) k p = (p k || kv_fa m (k + 1) p) := rfl
theorem kv_o10 : ((1 : Int32) = 0) = False := by decide
