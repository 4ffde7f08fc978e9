/-! air, majority, a law's worth -/
section
variable {d a b : Nat} {e : List kv_E} {z : Nat → Nat → Int32} {zl : Nat → Nat → Int64}
def kv_wd : Nat → (Nat → Int32) → (Nat → Int32) → (Nat → Int32) → Int32 → Int32 → Int32
  | 0, _, _, _, _, _ => 0
  | n + 1, f, s, t, h, m => if f n ≤ h ∧ s n ≤ m then t n else kv_wd n f s t h m
theorem kv_pre (n : Nat) : Int32.ofNat (n + 1) - 1 = Int32.ofNat n := by
  rw [Int32.ofNat_add]
  exact Int32.add_sub_cancel _ _
theorem kv_m1 (x : Int32) : x + (-1) = x - 1 := (Int32.sub_eq_add_neg x 1).symm
theorem kw_n0 {n : Nat} (h : n < 2147483648) : (Int32.ofNat n < 0) = False := propext ⟨fun q => kv_nge0 h q, False.elim⟩
theorem kv_ln_ {n m : Nat} (h : n < m) (hm : m < 2147483648) : (Int32.ofNat m ≤ Int32.ofNat n) = False := by
  rw [kv_nle hm (by omega)]
  exact propext ⟨fun q => by omega, False.elim⟩
theorem kv_lN {n m : Nat} (h : n < m) : (m ≤ n) = False := propext ⟨fun q => by omega, False.elim⟩
theorem kv_windAt (hF : kv_isF e a) {n : Nat} (hn : z a 5 = Int32.ofNat n) (h6 : n ≤ 6) (h m : Int32) : kv_Rn d 10 0 [some (.ref a), some (.int h), some (.int m), none] [] (kv_h e z zl) = some (some (.int (kv_wd n (z (a + 1)) (z (a + 2)) (z (a + 3)) h m)), kv_h e z zl) := by
  have h1 : a + 1 < 300 := by have := hF.2; omega
  have h2 : a + 2 < 300 := by have := hF.2; omega
  have h3 : a + 3 < 300 := by have := hF.2; omega
  have hl : ∀ n, n ≤ 6 → kv_Rn d 10 7 [some (.ref a), some (.int h), some (.int m), some (.int (Int32.ofNat n - 1))] [] (kv_h e z zl) = some (some (.int (kv_wd n (z (a + 1)) (z (a + 2)) (z (a + 3)) h m)), kv_h e z zl) := by
    intro n
    induction n with
    | zero =>
      intro _
      rw [kv_e10_7]
      have h9 : (Int32.ofNat 0 - 1 < 0) = True := by decide
      simp only [kv_e10_0, kv_e10_1, kv_e10_4, kv_e10_5, kv_e10_6, kv_e10_8, kv_e10_11, kv_e10_12, kv_e10_14, kv_e10_17, kv_e10_18, kv_e10_21, kv_e10_22, kv_e10_23, kv_e10_24, kv_e10_27, kv_e10_28, kv_e10_31, kv_e10_32, kv_e10_33, kv_e10_34, kv_e10_37, kv_e10_38, kv_e10_41, kv_e10_42, kv_e10_43, kv_e10_44, kv_e10_47, kv_e10_50, kv_e10_51, kv_o10, not_false_eq_true, not_true, if_true, if_false, kv_then_s, kv_then_v, kv_then_n, List.cons_append, List.nil_append, kv_Ci, kv_Cr, kv_Cn, kv_Cu, kv_C0, kv_catc, kv_gCi, kv_gCl, kv_gCr, kv_nb0, kv_nb1, kv_nbi, kv_nb01, Nat.reduceAdd, Nat.reduceLeDiff, h9, if_true]
      rfl
    | succ n ih =>
      intro hn
      have ih := ih (by omega)
      rw [kv_e10_7, kv_pre]
      have h5 : ((6 : Int32) ≤ Int32.ofNat n) = False := kv_ln_ (m := 6) (by omega) (by omega)
      simp only [kv_e10_0, kv_e10_1, kv_e10_4, kv_e10_5, kv_e10_6, kv_e10_8, kv_e10_11, kv_e10_12, kv_e10_14, kv_e10_17, kv_e10_18, kv_e10_21, kv_e10_22, kv_e10_23, kv_e10_24, kv_e10_27, kv_e10_28, kv_e10_31, kv_e10_32, kv_e10_33, kv_e10_34, kv_e10_37, kv_e10_38, kv_e10_41, kv_e10_42, kv_e10_43, kv_e10_44, kv_e10_47, kv_e10_50, kv_e10_51, kv_o10, not_false_eq_true, not_true, if_true, if_false, kv_then_s, kv_then_v, kv_then_n, List.cons_append, List.nil_append, kv_Ci, kv_Cr, kv_Cn, kv_Cu, kv_C0, kv_catc, kv_gCi, kv_gCl, kv_gCr, kv_nb0, kv_nb1, kv_nbi, kv_nb01, Nat.reduceAdd, Nat.reduceLeDiff, kw_n0 (show n < 2147483648 by omega), h5, if_false, hF, kv_ar_lt h1, kv_ar_lt h2, kv_ar_lt h3, kv_rd_lt h1, kv_rd_lt h2, kv_rd_lt h3, (kv_isF_aw hF).1, (kv_isF_aw hF).2.1, (kv_isF_aw hF).2.2, kv_tn (show n < 2147483648 by omega), kv_lN (show n < 6 by omega), or_self, kv_m1]
      unfold kv_wd
      by_cases c1 : h < z (a + 1) n
      · rw [if_pos c1, if_neg (fun q => Int32.not_le.mpr c1 q.1)]
        exact ih
      · rw [if_neg c1]
        by_cases c2 : m < z (a + 2) n
        · rw [if_pos c2, if_neg (fun q => Int32.not_le.mpr c2 q.2)]
          exact ih
        · rw [if_neg c2, if_pos ⟨Int32.not_lt.mp c1, Int32.not_lt.mp c2⟩]
  simp only [kv_e10_0, kv_e10_1, kv_e10_4, kv_e10_5, kv_e10_6, kv_e10_8, kv_e10_11, kv_e10_12, kv_e10_14, kv_e10_17, kv_e10_18, kv_e10_21, kv_e10_22, kv_e10_23, kv_e10_24, kv_e10_27, kv_e10_28, kv_e10_31, kv_e10_32, kv_e10_33, kv_e10_34, kv_e10_37, kv_e10_38, kv_e10_41, kv_e10_42, kv_e10_43, kv_e10_44, kv_e10_47, kv_e10_50, kv_e10_51, kv_o10, not_false_eq_true, not_true, if_true, if_false, kv_then_s, kv_then_v, kv_then_n, List.cons_append, List.nil_append, kv_Ci, kv_Cr, kv_Cn, kv_Cu, kv_C0, kv_catc, kv_gCi, kv_gCl, kv_gCr, kv_nb0, kv_nb1, kv_nbi, kv_nb01, Nat.reduceAdd, Nat.reduceLeDiff, hF, hn]
  exact hl n h6
theorem kv_isMajority (hF : kv_isF e a) (x y : Int32) : kv_Rn d 11 0 [some (.ref a), some (.int x), some (.int y)] [] (kv_h e z zl) = some (some (.int (if z a 2 * y < x * 100 then 1 else 0)), kv_h e z zl) := by
  simp only [kv_e11_0, kv_e11_1, kv_e11_3, kv_e11_4, kv_e11_5, kv_e11_8, kv_e11_9, kv_e11_10, kv_e11_13, kv_e11_14, kv_e11_17, kv_e11_18, kv_o10, not_false_eq_true, not_true, if_true, if_false, kv_then_s, kv_then_v, kv_then_n, List.cons_append, List.nil_append, kv_Ci, kv_Cr, kv_Cn, kv_Cu, kv_C0, kv_catc, kv_gCi, kv_gCl, kv_gCr, kv_nb0, kv_nb1, kv_nbi, kv_nb01, Nat.reduceAdd, Nat.reduceLeDiff, hF]
  by_cases c : z a 2 * y < x * 100
  · have c2 : ¬ x * 100 ≤ z a 2 * y := Int32.not_le.mpr c
    simp only [c, c2, if_true, if_false]
  · have c2 : x * 100 ≤ z a 2 * y := Int32.not_lt.mp c
    simp only [c, c2, if_true, if_false]
def kv_rs (mj : Int32) (c : Nat → Nat → Int32) : Int32 := if kv_ff c 5 1 + kv_ff c 5 0 = 0 then 2 else if mj * (kv_ff c 5 1 + kv_ff c 5 0) < kv_ff c 5 1 * 100 then 1 else 0
theorem kv_resultOf (hS : kv_isS e a) : kv_Rn (d + 3) 30 0 [some (.ref 33), some (.ref a), none, none] [] (kv_h e z zl) = some (some (.int (kv_rs (z 3 2) (kc z a))), kv_h e z zl) := by
  simp only [kv_e30_0, kv_e30_1, kv_e30_2, kv_e30_5, kv_e30_6, kv_e30_7, kv_e30_8, kv_e30_9, kv_e30_12, kv_e30_13, kv_e30_14, kv_e30_15, kv_e30_18, kv_e30_19, kv_e30_20, kv_e30_21, kv_e30_24, kv_e30_25, kv_e30_26, kv_e30_29, kv_e30_32, kv_e30_33, kv_e30_36, kv_e30_37, kv_o10, not_false_eq_true, not_true, if_true, if_false, kv_then_s, kv_then_v, kv_then_n, List.cons_append, List.nil_append, kv_Ci, kv_Cr, kv_Cn, kv_Cu, kv_C0, kv_catc, kv_gCi, kv_gCl, kv_gCr, kv_nb0, kv_nb1, kv_nbi, kv_nb01, Nat.reduceAdd, Nat.reduceLeDiff, hS, kv_feetFor, kv_isF3, kv_isMajority, kv_i10]
  unfold kv_rs
  by_cases c1 : kv_ff (kc z a) 5 1 + kv_ff (kc z a) 5 0 = 0
  · simp only [c1, not_true, if_true, if_false]
  · by_cases c2 : z 3 2 * (kv_ff (kc z a) 5 1 + kv_ff (kc z a) 5 0) < kv_ff (kc z a) 5 1 * 100
    · simp only [c1, c2, not_true, not_false_eq_true, if_true, if_false]
    · simp only [c1, c2, not_true, not_false_eq_true, if_true, if_false]
theorem kv_isUp (hS : kv_isS e a) (i : Int32) : kv_Rn (d + 2) 26 0 [some (.ref a), some (.int i)] [] (kv_h e z zl) = some (some (.int (if ¬ kv_gt z a i 11 = 0 ∧ 0 < kv_gt z a i 4 then 1 else 0)), kv_h e z zl) := by
  simp only [kv_e26_0, kv_e26_1, kv_e26_2, kv_e26_5, kv_e26_8, kv_e26_9, kv_e26_10, kv_e26_11, kv_e26_14, kv_e26_17, kv_e26_18, kv_e26_21, kv_e26_22, kv_o10, not_false_eq_true, not_true, if_true, if_false, kv_then_s, kv_then_v, kv_then_n, List.cons_append, List.nil_append, kv_Ci, kv_Cr, kv_Cn, kv_Cu, kv_C0, kv_catc, kv_gCi, kv_gCl, kv_gCr, kv_nb0, kv_nb1, kv_nbi, kv_nb01, Nat.reduceAdd, Nat.reduceLeDiff, hS, kv_flies, kv_get, kv_i01]
  by_cases c1 : kv_gt z a i 11 = 0
  · simp only [c1, not_true, false_and, if_true, if_false]
  · by_cases c2 : 0 < kv_gt z a i 4
    · have c3 : ¬ kv_gt z a i 4 ≤ 0 := Int32.not_le.mpr c2
      simp only [c1, c2, c3, not_false_eq_true, and_self, if_true, if_false]
    · have c3 : kv_gt z a i 4 ≤ 0 := Int32.not_lt.mp c2
      simp only [c1, c2, c3, and_false, if_true, if_false]
def kv_wi (v lo hi : Int32) : Int32 := if v < lo then lo else if hi < v then hi else v
theorem kv_within (v lo hi : Int32) {h : kv_H} : kv_Rn d 148 0 [some (.int v), some (.int lo), some (.int hi)] [] h = some (some (.int (kv_wi v lo hi)), h) := by
  simp only [kv_e148_0, kv_e148_1, kv_e148_2, kv_e148_5, kv_e148_6, kv_e148_7, kv_e148_8, kv_e148_9, kv_e148_12, kv_e148_13, kv_e148_16, kv_e148_17, kv_o10, not_false_eq_true, not_true, if_true, if_false, kv_then_s, kv_then_v, kv_then_n, List.cons_append, List.nil_append, kv_Ci, kv_Cr, kv_Cn, kv_Cu, kv_C0, kv_catc, kv_gCi, kv_gCl, kv_gCr, kv_nb0, kv_nb1, kv_nbi, kv_nb01, Nat.reduceAdd, Nat.reduceLeDiff]
  unfold kv_wi
  by_cases c1 : v < lo
  · have c3 : ¬ lo ≤ v := Int32.not_le.mpr c1
    simp only [c1, c3, if_true, if_false]
  · have c3 : lo ≤ v := Int32.not_lt.mp c1
    by_cases c2 : hi < v
    · have c4 : ¬ v ≤ hi := Int32.not_le.mpr c2
      simp only [c1, c2, c3, c4, if_true, if_false]
    · have c4 : v ≤ hi := Int32.not_lt.mp c2
      simp only [c1, c2, c3, c4, if_true, if_false]
end
