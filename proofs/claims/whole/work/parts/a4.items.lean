/-! fields as texts: one reader for both, told in numbers -/
section
variable {d L a : Nat} {e : List kv_E} {t : Nat → Int32} {z : Nat → Nat → Int32} {zl : Nat → Nat → Int64}
theorem kx_31 : ∀ p : Fin 31, (Int32.ofNat p.val &&& 31).toBitVec.smod 32#32 = BitVec.ofNat 32 p.val := by decide +kernel
theorem kx_bt {h p : Nat} (hh : h < 2147483648) (hp : p < 31) : ((Int32.ofNat h >>> (Int32.ofNat p &&& 31)) &&& 1) = if h.testBit p = true then 1 else 0 := by
  have e1 : (Int32.ofNat h >>> (Int32.ofNat p &&& 31)).toBitVec = (BitVec.ofNat 32 h).sshiftRight p := by
    have : (Int32.ofNat h >>> (Int32.ofNat p &&& 31)).toBitVec = (BitVec.ofNat 32 h).sshiftRight' ((Int32.ofNat p &&& 31).toBitVec.smod 32#32) := rfl
    rw [this, kx_31 ⟨p, hp⟩, BitVec.sshiftRight_eq', BitVec.toNat_ofNat, Nat.mod_eq_of_lt (by omega)]
  have hm : (BitVec.ofNat 32 h).msb = false := by
    rw [BitVec.msb_eq_decide, BitVec.toNat_ofNat, Nat.mod_eq_of_lt (by omega)]
    exact decide_eq_false (by omega)
  have e2 : ((Int32.ofNat h >>> (Int32.ofNat p &&& 31)) &&& 1).toBitVec.toNat = h / 2 ^ p % 2 := by
    show ((Int32.ofNat h >>> (Int32.ofNat p &&& 31)).toBitVec &&& 1#32).toNat = _
    rw [e1, BitVec.sshiftRight_eq_of_msb_false hm, BitVec.toNat_and, BitVec.toNat_ushiftRight, BitVec.toNat_ofNat, Nat.mod_eq_of_lt (show h < 2 ^ 32 by omega), Nat.shiftRight_eq_div_pow]
    exact Nat.and_one_is_mod _
  rw [Nat.testBit_eq_decide_div_mod_eq]
  apply Int32.toBitVec_inj.mp
  apply BitVec.eq_of_toNat_eq
  rw [e2]
  by_cases q : h / 2 ^ p % 2 = 1
  · rw [if_pos (decide_eq_true q), q]
    rfl
  · rw [if_neg (by rw [decide_eq_true_eq]; exact q)]
    show h / 2 ^ p % 2 = 0
    omega
theorem kx_bs {h p : Nat} (hh : h < 2147483648) (hp : p < 31) : Int32.ofNat h ||| ((1 : Int32) <<< (Int32.ofNat p &&& 31)) = Int32.ofNat (h ||| 2 ^ p) := by
  apply Int32.toBitVec_inj.mp
  apply BitVec.eq_of_toNat_eq
  have hlt : 2 ^ p < 2 ^ 31 := Nat.pow_lt_pow_right (by decide) hp
  have e1 : ((1 : Int32) <<< (Int32.ofNat p &&& 31)).toBitVec = 1#32 <<< p := by
    have : ((1 : Int32) <<< (Int32.ofNat p &&& 31)).toBitVec = 1#32 <<< ((Int32.ofNat p &&& 31).toBitVec.smod 32#32) := rfl
    rw [this, kx_31 ⟨p, hp⟩, BitVec.shiftLeft_eq', BitVec.toNat_ofNat, Nat.mod_eq_of_lt (by omega)]
  have hor : h ||| 2 ^ p < 2 ^ 32 := Nat.or_lt_two_pow (by omega) (by omega)
  show ((BitVec.ofNat 32 h) ||| ((1 : Int32) <<< (Int32.ofNat p &&& 31)).toBitVec).toNat = (BitVec.ofNat 32 (h ||| 2 ^ p)).toNat
  rw [e1, BitVec.toNat_or, BitVec.toNat_shiftLeft, BitVec.toNat_ofNat, BitVec.toNat_ofNat, BitVec.toNat_ofNat, Nat.mod_eq_of_lt (show h < 2 ^ 32 by omega), Nat.shiftLeft_eq, Nat.mod_eq_of_lt hor, Nat.mod_eq_of_lt (show 1 < 2 ^ 32 by omega), Nat.one_mul, Nat.mod_eq_of_lt (show 2 ^ p < 2 ^ 32 by omega)]
/-- how many, which letter, from, to, as long as nothing is told -/
def kx_ct (g : Nat) : Nat := if g = 0 then 4 else if g = 1 then 8 else 3
def kx_ix (g : Nat) (c : Int32) : Int32 :=
  if g = 0 then (if c = 119 then 0 else if c = 98 then 1 else if c = 109 then 2 else if c = 114 then 3 else -1)
  else if g = 1 then (if c = 112 then 0 else if c = 119 then 1 else if c = 108 then 2 else if c = 104 then 3 else if c = 111 then 4 else if c = 120 then 5 else if c = 103 then 6 else if c = 109 then 7 else -1)
  else (if c = 102 then 0 else if c = 110 then 1 else if c = 115 then 2 else -1)
def kx_lo (g i : Nat) : Int32 := (kv_SA.getD (2 * g) []).getD i 0
def kx_hi (g i : Nat) : Int32 := (kv_SA.getD (2 * g + 1) []).getD i 0
def kx_us (g : Nat) (kite : Nat) (i : Nat) : Int32 :=
  if g = 0 then (if i = 0 then 20 else if i = 1 then 20 else if i = 2 then 50 else if i = 3 then 5 else 0)
  else if g = 1 then (if i = 0 then Int32.ofNat kite else if i = 1 then 3 else if i = 2 then 40 else 0)
  else (if i = 2 then 4 else 0)
theorem kx_ix_0 : ∀ k : Fin 256, kx_fi (kv_SB.getD 0 []) (Int32.ofNat k.val) 4 0 = kx_ix 0 (Int32.ofNat k.val) := by decide +kernel
theorem kx_ix_1 : ∀ k : Fin 256, kx_fi (kv_SB.getD 1 []) (Int32.ofNat k.val) 8 0 = kx_ix 1 (Int32.ofNat k.val) := by decide +kernel
theorem kx_ix_2 : ∀ k : Fin 256, kx_fi (kv_SB.getD 2 []) (Int32.ofNat k.val) 3 0 = kx_ix 2 (Int32.ofNat k.val) := by decide +kernel
theorem kx_ix_r (g : Nat) (hg : g < 3) (c : Int32) : kx_ix g c = -1 ∨ ∃ i, i < kx_ct g ∧ kx_ix g c = Int32.ofNat i := by
  unfold kx_ix kx_ct
  match g, hg with
  | 0, _ =>
    simp only [if_true]
    by_cases q0 : c = 119
    · exact Or.inr ⟨0, by omega, if_pos q0⟩
    rw [if_neg q0]
    by_cases q1 : c = 98
    · exact Or.inr ⟨1, by omega, if_pos q1⟩
    rw [if_neg q1]
    by_cases q2 : c = 109
    · exact Or.inr ⟨2, by omega, if_pos q2⟩
    rw [if_neg q2]
    by_cases q3 : c = 114
    · exact Or.inr ⟨3, by omega, if_pos q3⟩
    exact Or.inl (if_neg q3)
  | 1, _ =>
    simp only [if_true, show ((1 : Nat) = 0) = False from by decide, if_false]
    by_cases q0 : c = 112
    · exact Or.inr ⟨0, by omega, if_pos q0⟩
    rw [if_neg q0]
    by_cases q1 : c = 119
    · exact Or.inr ⟨1, by omega, if_pos q1⟩
    rw [if_neg q1]
    by_cases q2 : c = 108
    · exact Or.inr ⟨2, by omega, if_pos q2⟩
    rw [if_neg q2]
    by_cases q3 : c = 104
    · exact Or.inr ⟨3, by omega, if_pos q3⟩
    rw [if_neg q3]
    by_cases q4 : c = 111
    · exact Or.inr ⟨4, by omega, if_pos q4⟩
    rw [if_neg q4]
    by_cases q5 : c = 120
    · exact Or.inr ⟨5, by omega, if_pos q5⟩
    rw [if_neg q5]
    by_cases q6 : c = 103
    · exact Or.inr ⟨6, by omega, if_pos q6⟩
    rw [if_neg q6]
    by_cases q7 : c = 109
    · exact Or.inr ⟨7, by omega, if_pos q7⟩
    exact Or.inl (if_neg q7)
  | 2, _ =>
    simp only [show ((2 : Nat) = 0) = False from by decide, show ((2 : Nat) = 1) = False from by decide, if_false]
    by_cases q0 : c = 102
    · exact Or.inr ⟨0, by omega, if_pos q0⟩
    rw [if_neg q0]
    by_cases q1 : c = 110
    · exact Or.inr ⟨1, by omega, if_pos q1⟩
    rw [if_neg q1]
    by_cases q2 : c = 115
    · exact Or.inr ⟨2, by omega, if_pos q2⟩
    exact Or.inl (if_neg q2)
theorem kx_ix_m1 (g : Nat) (hg : g < 3) : kx_ix g (-1) = -1 ∧ kx_ix g 59 = -1 := by
  match g, hg with
  | 0, _ => decide
  | 1, _ => decide
  | 2, _ => decide
/-- a number of two figures, within -/
noncomputable def kx_nw (t : Nat → Int32) (L : Nat) (lo hi : Int32) (a : Nat) : Bool × Nat × Int32 :=
  if (kw_nu t L 2 a).1 = true then (if lo ≤ Int32.ofNat (kw_nu t L 2 a).2.2 ∧ Int32.ofNat (kw_nu t L 2 a).2.2 ≤ hi then (true, (kw_nu t L 2 a).2.1, Int32.ofNat (kw_nu t L 2 a).2.2) else (false, (kw_nu t L 2 a).2.1 - 1, 0)) else (false, (kw_nu t L 2 a).2.1, 0)
/-- 0: all well, 1: no letter that can stand here, 2: no number -/
abbrev kx_QI : Type := Nat × Nat × (Nat → Int32)
noncomputable def kx_it (t : Nat → Int32) (L g : Nat) : Nat → Nat → Nat → (Nat → Int32) → kx_QI
  | 0, a, _, vs => (0, a, vs)
  | f + 1, a, s, vs => if kx_ix g (kx_sg t L (kw_nx t L a)) = -1 then ((if kx_sg t L (kw_nx t L a) = -1 ∨ kx_sg t L (kw_nx t L a) = 59 then 0 else 1), kw_nx t L a, vs)
    else if s.testBit (kx_ix g (kx_sg t L (kw_nx t L a))).toNatClampNeg = true then (1, kw_nx t L a, vs)
    else if (kx_nw t L (kx_lo g (kx_ix g (kx_sg t L (kw_nx t L a))).toNatClampNeg) (kx_hi g (kx_ix g (kx_sg t L (kw_nx t L a))).toNatClampNeg) (kw_nx t L a + 1)).1 = true then kx_it t L g f (kx_nw t L (kx_lo g (kx_ix g (kx_sg t L (kw_nx t L a))).toNatClampNeg) (kx_hi g (kx_ix g (kx_sg t L (kw_nx t L a))).toNatClampNeg) (kw_nx t L a + 1)).2.1 (s ||| 2 ^ (kx_ix g (kx_sg t L (kw_nx t L a))).toNatClampNeg) (upd vs (kx_ix g (kx_sg t L (kw_nx t L a))).toNatClampNeg (kx_nw t L (kx_lo g (kx_ix g (kx_sg t L (kw_nx t L a))).toNatClampNeg) (kx_hi g (kx_ix g (kx_sg t L (kw_nx t L a))).toNatClampNeg) (kw_nx t L a + 1)).2.2)
    else (2, (kx_nw t L (kx_lo g (kx_ix g (kx_sg t L (kw_nx t L a))).toNatClampNeg) (kx_hi g (kx_ix g (kx_sg t L (kw_nx t L a))).toNatClampNeg) (kw_nx t L a + 1)).2.1, vs)
theorem kx_it_1 {g f s : Nat} {vs : Nat → Int32} (h : kx_ix g (kx_sg t L (kw_nx t L a)) = -1) : kx_it t L g (f + 1) a s vs = ((if kx_sg t L (kw_nx t L a) = -1 ∨ kx_sg t L (kw_nx t L a) = 59 then 0 else 1), kw_nx t L a, vs) := if_pos h
theorem kx_it_i {g f s i : Nat} {vs : Nat → Int32} (hi : i < 8) (h : kx_ix g (kx_sg t L (kw_nx t L a)) = Int32.ofNat i) : kx_it t L g (f + 1) a s vs = if s.testBit i = true then (1, kw_nx t L a, vs) else if (kx_nw t L (kx_lo g i) (kx_hi g i) (kw_nx t L a + 1)).1 = true then kx_it t L g f (kx_nw t L (kx_lo g i) (kx_hi g i) (kw_nx t L a + 1)).2.1 (s ||| 2 ^ i) (upd vs i (kx_nw t L (kx_lo g i) (kx_hi g i) (kw_nx t L a + 1)).2.2) else (2, (kx_nw t L (kx_lo g i) (kx_hi g i) (kw_nx t L a + 1)).2.1, vs) := by
  refine (if_neg ?_).trans ?_
  · rw [h, kw_of_m1 (by omega)]
    exact fun s => s
  · rw [h, kv_tn (by omega)]
/-- what isn't told yet -/
def kx_un (m s : Nat) : Nat := ((List.range m).filter (fun i => !s.testBit i)).length
theorem kx_un_4 : ∀ s : Fin 16, ∀ i : Fin 4, s.val.testBit i.val = false → kx_un 4 (s.val ||| 2 ^ i.val) + 1 = kx_un 4 s.val ∧ s.val ||| 2 ^ i.val < 16 := by decide +kernel
theorem kx_un_8 : ∀ s : Fin 256, ∀ i : Fin 8, s.val.testBit i.val = false → kx_un 8 (s.val ||| 2 ^ i.val) + 1 = kx_un 8 s.val ∧ s.val ||| 2 ^ i.val < 256 := by decide +kernel
theorem kx_un_3 : ∀ s : Fin 8, ∀ i : Fin 3, s.val.testBit i.val = false → kx_un 3 (s.val ||| 2 ^ i.val) + 1 = kx_un 3 s.val ∧ s.val ||| 2 ^ i.val < 8 := by decide +kernel
theorem kx_un_g (g : Nat) (hg : g < 3) {s i : Nat} (hs : s < 2 ^ kx_ct g) (hi : i < kx_ct g) (h : ¬ s.testBit i = true) : kx_un (kx_ct g) (s ||| 2 ^ i) + 1 = kx_un (kx_ct g) s ∧ s ||| 2 ^ i < 2 ^ kx_ct g := by
  have h := Bool.eq_false_iff.mpr h
  match g, hg with
  | 0, _ => exact kx_un_4 ⟨s, hs⟩ ⟨i, hi⟩ h
  | 1, _ => exact kx_un_8 ⟨s, hs⟩ ⟨i, hi⟩ h
  | 2, _ => exact kx_un_3 ⟨s, hs⟩ ⟨i, hi⟩ h
theorem kx_nu_1 {k : Nat} (q : kw_isd (kx_sg t L (kw_nx t L a))) : kw_nu t L k a = (!(@decide (kw_isd (kx_sg t L (kw_nm t L k (kw_nx t L a) 0).1)) (Classical.propDecidable _)), kw_nm t L k (kw_nx t L a) 0) := if_pos q
theorem kx_nu_0 {k : Nat} (q : ¬ kw_isd (kx_sg t L (kw_nx t L a))) : kw_nu t L k a = (false, kw_nx t L a, 0) := if_neg q
theorem kx_nu_W (ha : a ≤ L) : (a ≤ (kw_nu t L 2 a).2.1 ∧ (kw_nu t L 2 a).2.1 ≤ L) ∧ ((kw_nu t L 2 a).1 = true → a < (kw_nu t L 2 a).2.1) := by
  have n1 := kw_nx_le t L a
  have n2 := kw_nx_L (t := t) ha
  by_cases q : kw_isd (kx_sg t L (kw_nx t L a))
  · rw [kx_nu_1 q]
    obtain ⟨⟨m1, m2⟩, m3⟩ := kw_nm_p (t := t) (L := L) 1 (kw_nx t L a + 1) (0 * 10 + kw_dgv (kx_sg t L (kw_nx t L a)))
    have hlt := kw_isd_lt q
    have e4 : kw_nm t L 2 (kw_nx t L a) 0 = kw_nm t L 1 (kw_nx t L a + 1) (0 * 10 + kw_dgv (kx_sg t L (kw_nx t L a))) := kw_nm_1 q
    have m3 := m3 (by omega)
    rw [e4]
    exact ⟨⟨by dsimp only; omega, m3⟩, fun _ => by dsimp only; omega⟩
  · rw [kx_nu_0 q]
    exact ⟨⟨n1, n2⟩, fun s => absurd s (by simp)⟩
theorem kx_nw_1 {lo hi : Int32} (h : (kw_nu t L 2 a).1 = true) (g : lo ≤ Int32.ofNat (kw_nu t L 2 a).2.2 ∧ Int32.ofNat (kw_nu t L 2 a).2.2 ≤ hi) : kx_nw t L lo hi a = (true, (kw_nu t L 2 a).2.1, Int32.ofNat (kw_nu t L 2 a).2.2) := (if_pos h).trans (if_pos g)
theorem kx_nw_2 {lo hi : Int32} (h : (kw_nu t L 2 a).1 = true) (g : ¬ (lo ≤ Int32.ofNat (kw_nu t L 2 a).2.2 ∧ Int32.ofNat (kw_nu t L 2 a).2.2 ≤ hi)) : kx_nw t L lo hi a = (false, (kw_nu t L 2 a).2.1 - 1, 0) := (if_pos h).trans (if_neg g)
theorem kx_nw_0 {lo hi : Int32} (h : ¬ (kw_nu t L 2 a).1 = true) : kx_nw t L lo hi a = (false, (kw_nu t L 2 a).2.1, 0) := if_neg h
theorem kx_nw_W {lo hi : Int32} (ha : a ≤ L) : (a ≤ (kx_nw t L lo hi a).2.1 ∧ (kx_nw t L lo hi a).2.1 ≤ L) ∧ ((kx_nw t L lo hi a).1 = true → a < (kx_nw t L lo hi a).2.1) := by
  obtain ⟨⟨h1, h2⟩, h3⟩ := kx_nu_W (t := t) ha
  by_cases q : (kw_nu t L 2 a).1 = true
  · have h3 := h3 q
    by_cases g : lo ≤ Int32.ofNat (kw_nu t L 2 a).2.2 ∧ Int32.ofNat (kw_nu t L 2 a).2.2 ≤ hi
    · rw [kx_nw_1 q g]
      exact ⟨⟨h1, h2⟩, fun _ => h3⟩
    · rw [kx_nw_2 q g]
      exact ⟨⟨by dsimp only; omega, by dsimp only; omega⟩, fun s => absurd s (by simp)⟩
  · rw [kx_nw_0 q]
    exact ⟨⟨h1, h2⟩, fun s => absurd s (by simp)⟩
theorem kx_it_W {g : Nat} (hg : g < 3) : ∀ f a s vs, a ≤ L → a ≤ (kx_it t L g f a s vs).2.1 ∧ (kx_it t L g f a s vs).2.1 ≤ L := by
  intro f
  induction f with
  | zero => intro a s vs ha; exact ⟨Nat.le_refl _, ha⟩
  | succ f ih =>
    intro a s vs ha
    have n1 := kw_nx_le t L a
    have n2 := kw_nx_L (t := t) ha
    rcases kx_ix_r g hg (kx_sg t L (kw_nx t L a)) with h | ⟨i, hi, h⟩
    · rw [kx_it_1 h]
      exact ⟨n1, n2⟩
    · have hi8 : i < 8 := by
        have : kx_ct g ≤ 8 := by
          match g, hg with
          | 0, _ => decide
          | 1, _ => decide
          | 2, _ => decide
        omega
      have hlt := kx_sg_ne (t := t) (L := L) (a := kw_nx t L a) (fun s => by rw [s, (kx_ix_m1 g hg).1, eq_comm, kw_of_m1 (by omega)] at h; exact h)
      obtain ⟨⟨w1, w2⟩, w3⟩ := kx_nw_W (t := t) (lo := kx_lo g i) (hi := kx_hi g i) (show kw_nx t L a + 1 ≤ L by omega)
      rw [kx_it_i hi8 h]
      by_cases q : s.testBit i = true
      · rw [if_pos q]
        exact ⟨n1, n2⟩
      · rw [if_neg q]
        by_cases q2 : (kx_nw t L (kx_lo g i) (kx_hi g i) (kw_nx t L a + 1)).1 = true
        · rw [if_pos q2]
          obtain ⟨i1, i2⟩ := ih (kx_nw t L (kx_lo g i) (kx_hi g i) (kw_nx t L a + 1)).2.1 (s ||| 2 ^ i) (upd vs i (kx_nw t L (kx_lo g i) (kx_hi g i) (kw_nx t L a + 1)).2.2) w2
          exact ⟨by omega, i2⟩
        · rw [if_neg q2]
          exact ⟨by dsimp only; omega, w2⟩
end
