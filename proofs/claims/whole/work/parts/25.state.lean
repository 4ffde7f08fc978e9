/-! a State's methods -/
section
variable {d a b : Nat} {e : List kv_E} {z : Nat → Nat → Int32} {zl : Nat → Nat → Int64}
def kv_gt (z : Nat → Nat → Int32) (a : Nat) (i w : Int32) : Int32 := if i * 13 + w < 0 then 0 else if 104 ≤ i * 13 + w then 0 else z (a + 1) (i * 13 + w).toNatClampNeg
def kv_su (z : Nat → Nat → Int32) (a : Nat) (i w v : Int32) : Nat → Nat → Int32 := if i * 13 + w < 0 then z else if 104 ≤ i * 13 + w then z else kv_z z (a + 1) (upd (z (a + 1)) (i * 13 + w).toNatClampNeg v)
theorem kv_get (hS : kv_isS e a) (i w : Int32) : kv_Rn d 59 0 [some (.ref a), some (.int i), some (.int w), none] [] (kv_h e z zl) = some (some (.int (kv_gt z a i w)), kv_h e z zl) := by
  have h1 : a + 1 < 300 := by have := hS.2; omega
  have h2 : kv_ia (kv_shK ++ e) (a + 1) := ⟨h1, 104, hS.1.2.1⟩
  have h4 : (Int32.ofNat 104 : Int32) = 104 := rfl
  simp only [kv_e59_0, kv_e59_1, kv_e59_3, kv_e59_4, kv_e59_5, kv_e59_6, kv_e59_7, kv_e59_8, kv_e59_11, kv_e59_12, kv_e59_13, kv_e59_16, kv_e59_17, kv_e59_20, kv_e59_21, kv_e59_24, kv_e59_25, kv_e59_26, kv_e59_29, kv_e59_30, kv_then_s, kv_then_v, kv_then_n, List.cons_append, List.nil_append, kv_c2i, kv_c2r, kv_c2n, kv_c2u, kv_cat0, kv_catc, kv_cgi, kv_cgl, kv_cgr, kv_nb0, kv_nb1, kv_nbi, Nat.reduceAdd, Nat.reduceLeDiff, hS, h2, true_or, kv_ar_lt h1, kv_rd_lt h1, (kv_isS_aw hS).1]
  generalize i * 13 + w = n
  unfold kv_gt
  by_cases h5 : n < 0
  · simp only [h5, if_true]
  · by_cases h6 : (104 : Int32) ≤ n
    · simp only [h5, if_false, h4, h6, if_true]
    · simp only [h5, if_false, h4, h6, kv_in_ (n := 104) (by omega) h5 h6]
theorem kv_set (hS : kv_isS e a) (i w v : Int32) : kv_Rn d 60 0 [some (.ref a), some (.int i), some (.int w), some (.int v), none] [] (kv_h e z zl) = some (none, kv_h e (kv_su z a i w v) zl) := by
  have h1 : a + 1 < 300 := by have := hS.2; omega
  have h2 : kv_ia (kv_shK ++ e) (a + 1) := ⟨h1, 104, hS.1.2.1⟩
  have h4 : (Int32.ofNat 104 : Int32) = 104 := rfl
  simp only [kv_e60_0, kv_e60_1, kv_e60_3, kv_e60_4, kv_e60_5, kv_e60_6, kv_e60_8, kv_e60_10, kv_e60_13, kv_e60_15, kv_e60_16, kv_e60_19, kv_e60_20, kv_e60_23, kv_e60_24, kv_e60_27, kv_e60_29, kv_e60_30, kv_e60_31, kv_then_s, kv_then_v, kv_then_n, List.cons_append, List.nil_append, kv_c2i, kv_c2r, kv_c2n, kv_c2u, kv_cat0, kv_catc, kv_cgi, kv_cgl, kv_cgr, kv_nb0, kv_nb1, kv_nbi, Nat.reduceAdd, Nat.reduceLeDiff, hS, h2, true_or, kv_ar_lt h1, kv_rd_lt h1, (kv_isS_aw hS).1]
  generalize i * 13 + w = n
  unfold kv_su
  by_cases h5 : n < 0
  · simp only [h5, if_true]
  · by_cases h6 : (104 : Int32) ≤ n
    · simp only [h5, if_false, h4, h6, if_true]
    · simp only [h5, if_false, h4, h6, kv_in_ (n := 104) (by omega) h5 h6]
theorem kv_flies (hS : kv_isS e a) (i : Int32) : kv_Rn (d + 1) 61 0 [some (.ref a), some (.int i)] [] (kv_h e z zl) = some (some (.int (if kv_gt z a i 11 = 0 then 0 else 1)), kv_h e z zl) := by
  simp only [kv_e61_0, kv_e61_1, kv_e61_2, kv_e61_4, kv_e61_7, kv_e61_10, kv_e61_11, kv_e61_14, kv_e61_15, kv_then_s, kv_then_v, kv_then_n, List.cons_append, List.nil_append, kv_c2i, kv_c2r, kv_c2n, kv_c2u, kv_cat0, kv_catc, kv_cgi, kv_cgl, kv_cgr, kv_nb0, kv_nb1, kv_nbi, Nat.reduceAdd, Nat.reduceLeDiff, hS, kv_get]
  by_cases h : kv_gt z a i 11 = 0 <;> simp only [h, if_true, if_false]
theorem kv_gt_of (z : Nat → Nat → Int32) (a : Nat) {k w : Nat} {x : Int32} (hk : k < 8) (hw : w < 13) (hx : x = Int32.ofNat w) : kv_gt z a (Int32.ofNat k) x = kc z a k w := by
  subst hx
  unfold kv_gt kc
  rw [show (13 : Int32) = Int32.ofNat 13 from rfl, ← Int32.ofNat_mul, ← Int32.ofNat_add, if_neg (kv_nge0 (by omega)), if_pos ⟨hk, hw⟩, show (104 : Int32) = Int32.ofNat 104 from rfl, kv_nle (by omega) (by omega), if_neg (by omega), kv_tn (by omega), Nat.mul_comm]
theorem kv_flyers (hS : kv_isS e a) : kv_Rn (d + 2) 62 0 [some (.ref a), none, none] [] (kv_h e z zl) = some (some (.int (kv_bs 8 (fun k => decide (¬ kc z a k 11 = 0)))), kv_h e z zl) := by
  have hl := kv_up (fun k => kv_Rn (d + 2) 62 4 [some (.ref a), some (.int (kv_bs k (fun k => decide (¬ kc z a k 11 = 0)))), some (.int (Int32.ofNat k))] [] (kv_h e z zl) = some (some (.int (kv_bs 8 (fun k => decide (¬ kc z a k 11 = 0)))), kv_h e z zl)) 8 ?_ ?_
  · simp only [kv_e62_0, kv_e62_1, kv_e62_2, kv_e62_3, kv_e62_5, kv_e62_7, kv_e62_10, kv_e62_11, kv_e62_12, kv_e62_15, kv_e62_18, kv_e62_19, kv_e62_20, kv_e62_21, kv_e62_22, kv_e62_23, kv_e62_24, kv_e62_27, kv_e62_30, kv_e62_31, kv_then_s, kv_then_v, kv_then_n, List.cons_append, List.nil_append, kv_c2i, kv_c2r, kv_c2n, kv_c2u, kv_cat0, kv_catc, kv_cgi, kv_cgl, kv_cgr, kv_nb0, kv_nb1, kv_nbi, Nat.reduceAdd, Nat.reduceLeDiff]
    exact hl
  · rw [kv_e62_4]
    simp only [kv_e62_0, kv_e62_1, kv_e62_2, kv_e62_3, kv_e62_5, kv_e62_7, kv_e62_10, kv_e62_11, kv_e62_12, kv_e62_15, kv_e62_18, kv_e62_19, kv_e62_20, kv_e62_21, kv_e62_22, kv_e62_23, kv_e62_24, kv_e62_27, kv_e62_30, kv_e62_31, kv_then_s, kv_then_v, kv_then_n, List.cons_append, List.nil_append, kv_c2i, kv_c2r, kv_c2n, kv_c2u, kv_cat0, kv_catc, kv_cgi, kv_cgl, kv_cgr, kv_nb0, kv_nb1, kv_nbi, Nat.reduceAdd, Nat.reduceLeDiff, kv_le88, if_true]
  · intro k hk ih
    rw [kv_e62_4]
    simp only [kv_e62_0, kv_e62_1, kv_e62_2, kv_e62_3, kv_e62_5, kv_e62_7, kv_e62_10, kv_e62_11, kv_e62_12, kv_e62_15, kv_e62_18, kv_e62_19, kv_e62_20, kv_e62_21, kv_e62_22, kv_e62_23, kv_e62_24, kv_e62_27, kv_e62_30, kv_e62_31, kv_then_s, kv_then_v, kv_then_n, List.cons_append, List.nil_append, kv_c2i, kv_c2r, kv_c2n, kv_c2u, kv_cat0, kv_catc, kv_cgi, kv_cgl, kv_cgr, kv_nb0, kv_nb1, kv_nbi, Nat.reduceAdd, Nat.reduceLeDiff, kv_le8 hk, if_false, hS, kv_flies, kv_gt_of z a hk (show 11 < 13 by omega) rfl, kv_i01, kv_suc]
    simp only [kv_bs] at ih
    by_cases hc : kc z a k 11 = 0
    · simp only [hc, if_true, not_true, decide_false, Bool.false_eq_true, if_false] at ih ⊢
      exact ih
    · simp only [hc, if_false, not_false_eq_true, decide_true, if_true] at ih ⊢
      exact ih
end
