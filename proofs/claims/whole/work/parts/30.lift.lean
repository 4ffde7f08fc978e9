/-! lifts and wears -/
section
variable {d a b : Nat} {e : List kv_E} {z : Nat → Nat → Int32} {zl : Nat → Nat → Int64}
theorem kw_t1 : (1 : Int32).toNatClampNeg = 1 := id rfl
theorem kw_t2 : (2 : Int32).toNatClampNeg = 2 := id rfl
theorem kw_t3 : (3 : Int32).toNatClampNeg = 3 := id rfl
theorem kw_t4 : (4 : Int32).toNatClampNeg = 4 := id rfl
theorem kw_t5 : (5 : Int32).toNatClampNeg = 5 := id rfl
theorem kw_t6 : (6 : Int32).toNatClampNeg = 6 := id rfl
theorem kw_t7 : (7 : Int32).toNatClampNeg = 7 := id rfl
theorem kw_p1 : ((1 : Int32) < 0) = False := by decide
theorem kw_p2 : ((2 : Int32) < 0) = False := by decide
theorem kw_p3 : ((3 : Int32) < 0) = False := by decide
theorem kw_p4 : ((4 : Int32) < 0) = False := by decide
theorem kw_p5 : ((5 : Int32) < 0) = False := by decide
theorem kw_p6 : ((6 : Int32) < 0) = False := by decide
theorem kw_p7 : ((7 : Int32) < 0) = False := by decide
theorem kw_at (x : Int32) : kv_Rn d 51 0 [some (.ref 7), some (.int x)] [] (kv_h e z zl) = if x < 0 ∨ z 7 1 ≤ x ∨ 6 ≤ x then some (some .null, kv_h e z zl) else some (some (.ref (9 + 2 * x.toNatClampNeg)), kv_h e z zl) := by
  simp only [kv_e51_0, kv_e51_1, kv_e51_4, kv_e51_5, kv_e51_6, kv_e51_9, kv_e51_12, kv_e51_13, kv_e51_14, kv_e51_17, kv_e51_18, kv_e51_21, kv_e51_22, kv_e51_25, kv_e51_26, kv_e51_27, kv_e51_30, kv_e51_31, kv_e51_31n, kv_o10, not_false_eq_true, not_true, if_true, if_false, kv_then_s, kv_then_v, kv_then_n, List.cons_append, List.nil_append, kv_Ci, kv_Cr, kv_Cn, kv_Cu, kv_C0, kv_catc, kv_gCi, kv_gCl, kv_gCr, kv_nb0, kv_nb1, kv_nbi, kv_nb01, Nat.reduceAdd, Nat.reduceLeDiff]
  by_cases c1 : x < 0
  · simp only [c1, true_or, if_true]
  · by_cases c2 : z 7 1 ≤ x
    · simp only [c1, c2, true_or, or_true, if_true, if_false]
    · by_cases c3 : 6 ≤ x
      · simp only [c1, c2, c3, or_true, if_true, if_false]
      · simp only [c1, c2, c3, or_self, if_false, kv_ib (n := 6) (by omega) c1 c3]
theorem kw_isLn {n : Nat} (h : n < 6) : kv_isL e (9 + 2 * n) := by
  match n, h with
  | 0, _ => exact kv_isL9 e
  | 1, _ => exact kv_isL11 e
  | 2, _ => exact kv_isL13 e
  | 3, _ => exact kv_isL15 e
  | 4, _ => exact kv_isL17 e
  | 5, _ => exact kv_isL19 e
def kw_lt (a0 a1 a2 a3 a4 a5 a6 a7 : Int32) : Nat → Int32
  | 0 => a0
  | 1 => a1
  | 2 => a2
  | 3 => a3
  | 4 => a4
  | 5 => a5
  | 6 => a6
  | 7 => a7
  | _ => 0
theorem kw_we_lt {S : Nat → Int32} {L : Int32} {lt lt' : Nat → Int32} (h : ∀ i, i < 8 → lt i = lt' i) : ∀ (f i : Nat) (s : List Int32), kw_we S L lt f i s = kw_we S L lt' f i s := by
  intro f
  induction f with
  | zero => intro i s; rfl
  | succ f ih =>
    intro i s
    unfold kw_we
    simp only [ih]
    have h2 : ¬ 8 ≤ (S i &&& 65535) → lt (S i &&& 65535).toNatClampNeg = lt' (S i &&& 65535).toNatClampNeg := by
      intro c
      obtain ⟨m, hm, e⟩ := kv_nat (kw_and16 (S i)).1
      rw [e] at c ⊢
      rw [kv_tn hm]
      refine h m ?_
      rw [show (8 : Int32) = Int32.ofNat 8 from rfl, kv_nle (by omega) hm] at c
      omega
    by_cases c : 8 ≤ (S i &&& 65535)
    · simp only [c, if_true]
    · simp only [c, if_false, h2 c]
def kw_lf (z : Nat → Nat → Int32) (x : Int32) : Option ((Nat → Int32) → Int32) := if x < 0 ∨ z 7 1 ≤ x ∨ 6 ≤ x then none else some (fun lt => kw_we (z (9 + 2 * x.toNatClampNeg + 1)) (z (9 + 2 * x.toNatClampNeg) 1) lt 257 0 [])
def kw_lift (lf : Option ((Nat → Int32) → Int32)) (wd : Int32 → Int32 → Int32) (r : Nat → Int32) (m : Int32) : Int32 := match lf with
  | none => kv_wi (wd (r 4) m - r 1) (-9) 9
  | some f => kv_wi (f (kw_lt (wd (r 4) m) (r 1) (r 4) (r 3) 0 0 0 m)) (-9) 9
def kw_wear (lf : Option ((Nat → Int32) → Int32)) (r s : Nat → Int32) (m : Int32) : Int32 := match lf with
  | none => if r 4 - s 4 ≤ -10 then 0 else if 10 ≤ r 4 - s 4 then 0 else kv_wi (1 + s 6 - r 6) 0 9
  | some f => kv_wi (f (kw_lt 0 (r 1) (r 4) (r 3) (r 6) (s 6) (r 4 - s 4) m)) 0 9
def kw_win (z : Nat → Nat → Int32) : Int32 → Int32 → Int32 := fun h m => kv_wd (z 3 5).toNatClampNeg (z 4) (z 5) (z 6) h m
def kw_air (z : Nat → Nat → Int32) : Prop := ∃ n, n ≤ 6 ∧ z 3 5 = Int32.ofNat n
theorem kw_wind (h9 : kw_air z) (h m : Int32) : kv_Rn d 10 0 [some (.ref 3), some (.int h), some (.int m), none] [] (kv_h e z zl) = some (some (.int (kw_win z h m)), kv_h e z zl) := by
  obtain ⟨n, h6, hn⟩ := h9
  rw [kv_windAt (kv_isF3 e) hn h6]
  unfold kw_win
  rw [hn, kv_tn (by omega)]
theorem kw_letters (hS : kv_isS e a) (i : Int32) : ∃ l, kv_Rn (d + 1) 29 0 [some (.ref 33), some (.ref a), some (.int i)] [] (kv_h e z zl) = some (none, kv_h e (kv_z z 34 l) zl) ∧ l 1 = kv_gt z a i 1 ∧ l 2 = kv_gt z a i 4 ∧ l 3 = kv_gt z a i 3 ∧ l 7 = z a 3 := by
  have ha : a ≠ 34 ∧ a + 1 ≠ 34 := by
    constructor
    · intro q
      subst q
      have h1 := hS.1.1
      rw [kv_k_get e (i := 34) (x := .inl 8) rfl] at h1
      cases h1
    · intro q
      have h1 := hS.1.2.1
      rw [q, kv_k_get e (i := 34) (x := .inl 8) rfl] at h1
      cases h1
  have gg : ∀ (l : Nat → Int32) (w : Int32), kv_gt (kv_z z 34 l) a i w = kv_gt z a i w := by
    intro l w
    unfold kv_gt
    rw [kv_zne _ _ ha.2]
  have g2 : ∀ (l : Nat → Int32), kv_z z 34 l a = z a := fun l => kv_zne _ _ ha.1
  refine ⟨upd (upd (upd (upd (z 34) 1 (kv_gt z a i 1)) 2 (kv_gt z a i 4)) 3 (kv_gt z a i 3)) 7 (z a 3), ?_, rfl, rfl, rfl, rfl⟩
  simp only [kv_e29_0, kv_e29_1, kv_e29_4, kv_e29_5, kv_e29_6, kv_e29_7, kv_e29_8, kv_e29_11, kv_e29_12, kv_e29_13, kv_e29_16, kv_e29_17, kv_e29_18, kv_e29_19, kv_e29_20, kv_e29_23, kv_e29_24, kv_e29_25, kv_e29_28, kv_e29_29, kv_e29_30, kv_e29_31, kv_e29_32, kv_e29_35, kv_e29_36, kv_e29_37, kv_e29_40, kv_e29_42, kv_e29_43, kv_e29_46, kv_e29_47, kv_o10, not_false_eq_true, not_true, if_true, if_false, kv_then_s, kv_then_v, kv_then_n, List.cons_append, List.nil_append, kv_Ci, kv_Cr, kv_Cn, kv_Cu, kv_C0, kv_catc, kv_gCi, kv_gCl, kv_gCr, kv_nb0, kv_nb1, kv_nbi, kv_nb01, Nat.reduceAdd, Nat.reduceLeDiff, hS, kv_get, kv_aw34, kw_p1, kw_p2, kw_p3, kw_p7, kw_t1, kw_t2, kw_t3, kw_t7, or_self, if_false, kv_zs, kw_zz, gg, g2]
end
