/-! a State's methods -/
section
variable {d a b : Nat} {e : List kv_E} {z : Nat → Nat → Int32} {zl : Nat → Nat → Int64}
def kv_gt (z : Nat → Nat → Int32) (a : Nat) (i w : Int32) : Int32 := if i * 13 + w < 0 then 0 else if 104 ≤ i * 13 + w then 0 else z (a + 1) (i * 13 + w).toNatClampNeg
def kv_su (z : Nat → Nat → Int32) (a : Nat) (i w v : Int32) : Nat → Nat → Int32 := if i * 13 + w < 0 then z else if 104 ≤ i * 13 + w then z else kv_z z (a + 1) (upd (z (a + 1)) (i * 13 + w).toNatClampNeg v)
theorem kv_get (hS : kv_isS e a) (i w : Int32) : kv_Rn d 59 0 [some (.ref a), some (.int i), some (.int w), none] [] (kv_h e z zl) = some (some (.int (kv_gt z a i w)), kv_h e z zl) := by
  have h1 : a + 1 < 300 := by have := hS.2; omega
  have h2 : kv_ia (kv_shK ++ e) (a + 1) := ⟨h1, 104, hS.1.2.1⟩
  have h4 : (Int32.ofNat 104 : Int32) = 104 := rfl
  simp only [kv_e59_0, kv_e59_1, kv_e59_3, kv_e59_4, kv_e59_5, kv_e59_6, kv_e59_7, kv_e59_8, kv_e59_11, kv_e59_12, kv_e59_13, kv_e59_16, kv_e59_17, kv_e59_20, kv_e59_21, kv_e59_24, kv_e59_25, kv_e59_26, kv_e59_29, kv_e59_30, kv_o10, not_false_eq_true, not_true, if_true, if_false, kv_then_s, kv_then_v, kv_then_n, List.cons_append, List.nil_append, kv_Ci, kv_Cr, kv_Cn, kv_Cu, kv_C0, kv_catc, kv_gCi, kv_gCl, kv_gCr, kv_nb0, kv_nb1, kv_nbi, kv_nb01, Nat.reduceAdd, Nat.reduceLeDiff, hS, h2, true_or, kv_ar_lt h1, kv_rd_lt h1, (kv_isS_aw hS).1]
  unfold kv_gt
  generalize i * 13 + w = n
  by_cases h5 : n < 0
  · simp only [h5, if_true]
  · by_cases h6 : (104 : Int32) ≤ n
    · simp only [h5, if_false, h4, h6, if_true]
    · simp only [h5, if_false, h4, h6, kv_ib (n := 104) (by omega) h5 h6, or_self]
theorem kv_set (hS : kv_isS e a) (i w v : Int32) : kv_Rn d 60 0 [some (.ref a), some (.int i), some (.int w), some (.int v), none] [] (kv_h e z zl) = some (none, kv_h e (kv_su z a i w v) zl) := by
  have h1 : a + 1 < 300 := by have := hS.2; omega
  have h2 : kv_ia (kv_shK ++ e) (a + 1) := ⟨h1, 104, hS.1.2.1⟩
  have h4 : (Int32.ofNat 104 : Int32) = 104 := rfl
  simp only [kv_e60_0, kv_e60_1, kv_e60_3, kv_e60_4, kv_e60_5, kv_e60_6, kv_e60_8, kv_e60_10, kv_e60_13, kv_e60_15, kv_e60_16, kv_e60_19, kv_e60_20, kv_e60_23, kv_e60_24, kv_e60_27, kv_e60_29, kv_e60_30, kv_e60_31, kv_o10, not_false_eq_true, not_true, if_true, if_false, kv_then_s, kv_then_v, kv_then_n, List.cons_append, List.nil_append, kv_Ci, kv_Cr, kv_Cn, kv_Cu, kv_C0, kv_catc, kv_gCi, kv_gCl, kv_gCr, kv_nb0, kv_nb1, kv_nbi, kv_nb01, Nat.reduceAdd, Nat.reduceLeDiff, hS, h2, true_or, kv_ar_lt h1, kv_rd_lt h1, (kv_isS_aw hS).1]
  unfold kv_su
  generalize i * 13 + w = n
  by_cases h5 : n < 0
  · simp only [h5, if_true]
  · by_cases h6 : (104 : Int32) ≤ n
    · simp only [h5, if_false, h4, h6, if_true]
    · simp only [h5, if_false, h4, h6, kv_ib (n := 104) (by omega) h5 h6, or_self]
theorem kv_flies (hS : kv_isS e a) (i : Int32) : kv_Rn (d + 1) 61 0 [some (.ref a), some (.int i)] [] (kv_h e z zl) = some (some (.int (if kv_gt z a i 11 = 0 then 0 else 1)), kv_h e z zl) := by
  simp only [kv_e61_0, kv_e61_1, kv_e61_2, kv_e61_4, kv_e61_7, kv_e61_10, kv_e61_11, kv_e61_14, kv_e61_15, kv_o10, not_false_eq_true, not_true, if_true, if_false, kv_then_s, kv_then_v, kv_then_n, List.cons_append, List.nil_append, kv_Ci, kv_Cr, kv_Cn, kv_Cu, kv_C0, kv_catc, kv_gCi, kv_gCl, kv_gCr, kv_nb0, kv_nb1, kv_nbi, kv_nb01, Nat.reduceAdd, Nat.reduceLeDiff, hS, kv_get]
  by_cases h : kv_gt z a i 11 = 0 <;> simp only [h, if_true, if_false]
theorem kv_gt_of (z : Nat → Nat → Int32) (a : Nat) {k w : Nat} {x : Int32} (hk : k < 8) (hw : w < 13) (hx : x = Int32.ofNat w) : kv_gt z a (Int32.ofNat k) x = kc z a k w := by
  subst hx
  have h1 : Int32.ofNat k * 13 + Int32.ofNat w = Int32.ofNat (13 * k + w) := by
    rw [show (13 : Int32) = Int32.ofNat 13 from rfl, ← Int32.ofNat_mul, ← Int32.ofNat_add, Nat.mul_comm]
  unfold kv_gt kc
  rw [h1, if_neg (kv_nge0 (by omega)), if_neg (show ¬ ((104 : Int32) ≤ Int32.ofNat (13 * k + w)) from by rw [show (104 : Int32) = Int32.ofNat 104 from rfl, kv_nle (by omega) (by omega)]; omega), kv_tn (by omega)]
  exact (if_pos ⟨hk, hw⟩).symm
theorem kv_g0 (z : Nat → Nat → Int32) (a : Nat) {k : Nat} (hk : k < 8) : kv_gt z a (Int32.ofNat k) 0 = kc z a k 0 := kv_gt_of z a hk (by omega) rfl
theorem kv_g1 (z : Nat → Nat → Int32) (a : Nat) {k : Nat} (hk : k < 8) : kv_gt z a (Int32.ofNat k) 1 = kc z a k 1 := kv_gt_of z a hk (by omega) rfl
theorem kv_g2 (z : Nat → Nat → Int32) (a : Nat) {k : Nat} (hk : k < 8) : kv_gt z a (Int32.ofNat k) 2 = kc z a k 2 := kv_gt_of z a hk (by omega) rfl
theorem kv_g3 (z : Nat → Nat → Int32) (a : Nat) {k : Nat} (hk : k < 8) : kv_gt z a (Int32.ofNat k) 3 = kc z a k 3 := kv_gt_of z a hk (by omega) rfl
theorem kv_g4 (z : Nat → Nat → Int32) (a : Nat) {k : Nat} (hk : k < 8) : kv_gt z a (Int32.ofNat k) 4 = kc z a k 4 := kv_gt_of z a hk (by omega) rfl
theorem kv_g5 (z : Nat → Nat → Int32) (a : Nat) {k : Nat} (hk : k < 8) : kv_gt z a (Int32.ofNat k) 5 = kc z a k 5 := kv_gt_of z a hk (by omega) rfl
theorem kv_g6 (z : Nat → Nat → Int32) (a : Nat) {k : Nat} (hk : k < 8) : kv_gt z a (Int32.ofNat k) 6 = kc z a k 6 := kv_gt_of z a hk (by omega) rfl
theorem kv_g7 (z : Nat → Nat → Int32) (a : Nat) {k : Nat} (hk : k < 8) : kv_gt z a (Int32.ofNat k) 7 = kc z a k 7 := kv_gt_of z a hk (by omega) rfl
theorem kv_g8 (z : Nat → Nat → Int32) (a : Nat) {k : Nat} (hk : k < 8) : kv_gt z a (Int32.ofNat k) 8 = kc z a k 8 := kv_gt_of z a hk (by omega) rfl
theorem kv_g9 (z : Nat → Nat → Int32) (a : Nat) {k : Nat} (hk : k < 8) : kv_gt z a (Int32.ofNat k) 9 = kc z a k 9 := kv_gt_of z a hk (by omega) rfl
theorem kv_g10 (z : Nat → Nat → Int32) (a : Nat) {k : Nat} (hk : k < 8) : kv_gt z a (Int32.ofNat k) 10 = kc z a k 10 := kv_gt_of z a hk (by omega) rfl
theorem kv_g11 (z : Nat → Nat → Int32) (a : Nat) {k : Nat} (hk : k < 8) : kv_gt z a (Int32.ofNat k) 11 = kc z a k 11 := kv_gt_of z a hk (by omega) rfl
theorem kv_g12 (z : Nat → Nat → Int32) (a : Nat) {k : Nat} (hk : k < 8) : kv_gt z a (Int32.ofNat k) 12 = kc z a k 12 := kv_gt_of z a hk (by omega) rfl
theorem kv_flyers (hS : kv_isS e a) : kv_Rn (d + 2) 62 0 [some (.ref a), none, none] [] (kv_h e z zl) = some (some (.int (kv_bs 8 (fun k => decide (¬ kc z a k 11 = 0)))), kv_h e z zl) := by
  have hl := kv_up (fun k => kv_Rn (d + 2) 62 4 [some (.ref a), some (.int (kv_bs k (fun k => decide (¬ kc z a k 11 = 0)))), some (.int (Int32.ofNat k))] [] (kv_h e z zl) = some (some (.int (kv_bs 8 (fun k => decide (¬ kc z a k 11 = 0)))), kv_h e z zl)) 8 ?_ ?_
  · simp only [kv_e62_0, kv_e62_1, kv_e62_2, kv_e62_3, kv_e62_5, kv_e62_7, kv_e62_10, kv_e62_11, kv_e62_12, kv_e62_15, kv_e62_18, kv_e62_19, kv_e62_20, kv_e62_21, kv_e62_22, kv_e62_23, kv_e62_24, kv_e62_27, kv_e62_30, kv_e62_31, kv_o10, not_false_eq_true, not_true, if_true, if_false, kv_then_s, kv_then_v, kv_then_n, List.cons_append, List.nil_append, kv_Ci, kv_Cr, kv_Cn, kv_Cu, kv_C0, kv_catc, kv_gCi, kv_gCl, kv_gCr, kv_nb0, kv_nb1, kv_nbi, kv_nb01, Nat.reduceAdd, Nat.reduceLeDiff]
    exact hl
  · rw [kv_e62_4]
    simp only [kv_e62_0, kv_e62_1, kv_e62_2, kv_e62_3, kv_e62_5, kv_e62_7, kv_e62_10, kv_e62_11, kv_e62_12, kv_e62_15, kv_e62_18, kv_e62_19, kv_e62_20, kv_e62_21, kv_e62_22, kv_e62_23, kv_e62_24, kv_e62_27, kv_e62_30, kv_e62_31, kv_o10, not_false_eq_true, not_true, if_true, if_false, kv_then_s, kv_then_v, kv_then_n, List.cons_append, List.nil_append, kv_Ci, kv_Cr, kv_Cn, kv_Cu, kv_C0, kv_catc, kv_gCi, kv_gCl, kv_gCr, kv_nb0, kv_nb1, kv_nbi, kv_nb01, Nat.reduceAdd, Nat.reduceLeDiff, kv_le88, if_true]
  · intro k hk ih
    rw [kv_e62_4]
    simp only [kv_e62_0, kv_e62_1, kv_e62_2, kv_e62_3, kv_e62_5, kv_e62_7, kv_e62_10, kv_e62_11, kv_e62_12, kv_e62_15, kv_e62_18, kv_e62_19, kv_e62_20, kv_e62_21, kv_e62_22, kv_e62_23, kv_e62_24, kv_e62_27, kv_e62_30, kv_e62_31, kv_o10, not_false_eq_true, not_true, if_true, if_false, kv_then_s, kv_then_v, kv_then_n, List.cons_append, List.nil_append, kv_Ci, kv_Cr, kv_Cn, kv_Cu, kv_C0, kv_catc, kv_gCi, kv_gCl, kv_gCr, kv_nb0, kv_nb1, kv_nbi, kv_nb01, Nat.reduceAdd, Nat.reduceLeDiff, kv_le8 hk, if_false, hS, kv_flies, kv_g11 z a hk, kv_i01, kv_suc]
    rw [kv_bs_s k] at ih
    by_cases hc : kc z a k 11 = 0
    · simp only [hc, if_true, not_true, decide_false, Bool.false_eq_true, if_false] at ih ⊢
      exact ih
    · simp only [hc, if_false, not_false_eq_true, decide_true, if_true] at ih ⊢
      exact ih
theorem kv_ground (hS : kv_isS e a) (i : Int32) : kv_Rn (d + 1) 63 0 [some (.ref a), some (.int i)] [] (kv_h e z zl) = some (none, kv_h e (kv_su (kv_su (kv_su z a i 11 0) a i 4 0) a i 3 0) zl) := by
  simp only [kv_e63_0, kv_e63_1, kv_e63_2, kv_e63_4, kv_e63_5, kv_e63_8, kv_e63_9, kv_e63_10, kv_e63_11, kv_e63_12, kv_e63_15, kv_e63_16, kv_e63_17, kv_e63_18, kv_e63_19, kv_e63_22, kv_o10, not_false_eq_true, not_true, if_true, if_false, kv_then_s, kv_then_v, kv_then_n, List.cons_append, List.nil_append, kv_Ci, kv_Cr, kv_Cn, kv_Cu, kv_C0, kv_catc, kv_gCi, kv_gCl, kv_gCr, kv_nb0, kv_nb1, kv_nbi, kv_nb01, Nat.reduceAdd, Nat.reduceLeDiff, hS, kv_set]
theorem kv_isHeld (hS : kv_isS e a) (p : Int32) : kv_Rn (d + 2) 64 0 [some (.ref a), some (.int p), none] [] (kv_h e z zl) = some (some (.int (if kv_fa 8 0 (fun k => decide (¬ kc z a k 11 = 0 ∧ kc z a k 0 = p)) = true then 1 else 0)), kv_h e z zl) := by
  have hl := kv_up (fun k => kv_Rn (d + 2) 64 2 [some (.ref a), some (.int p), some (.int (Int32.ofNat k))] [] (kv_h e z zl) = some (some (.int (if kv_fa (8 - k) k (fun k => decide (¬ kc z a k 11 = 0 ∧ kc z a k 0 = p)) = true then 1 else 0)), kv_h e z zl)) 8 ?_ ?_
  · simp only [kv_e64_0, kv_e64_1, kv_e64_3, kv_e64_5, kv_e64_8, kv_e64_9, kv_e64_10, kv_e64_13, kv_e64_16, kv_e64_17, kv_e64_18, kv_e64_19, kv_e64_22, kv_e64_23, kv_e64_26, kv_e64_27, kv_e64_28, kv_e64_31, kv_e64_34, kv_e64_35, kv_o10, not_false_eq_true, not_true, if_true, if_false, kv_then_s, kv_then_v, kv_then_n, List.cons_append, List.nil_append, kv_Ci, kv_Cr, kv_Cn, kv_Cu, kv_C0, kv_catc, kv_gCi, kv_gCl, kv_gCr, kv_nb0, kv_nb1, kv_nbi, kv_nb01, Nat.reduceAdd, Nat.reduceLeDiff]
    exact hl
  · rw [kv_e64_2]
    simp only [kv_e64_0, kv_e64_1, kv_e64_3, kv_e64_5, kv_e64_8, kv_e64_9, kv_e64_10, kv_e64_13, kv_e64_16, kv_e64_17, kv_e64_18, kv_e64_19, kv_e64_22, kv_e64_23, kv_e64_26, kv_e64_27, kv_e64_28, kv_e64_31, kv_e64_34, kv_e64_35, kv_o10, not_false_eq_true, not_true, if_true, if_false, kv_then_s, kv_then_v, kv_then_n, List.cons_append, List.nil_append, kv_Ci, kv_Cr, kv_Cn, kv_Cu, kv_C0, kv_catc, kv_gCi, kv_gCl, kv_gCr, kv_nb0, kv_nb1, kv_nbi, kv_nb01, Nat.reduceAdd, Nat.reduceLeDiff, kv_le88, if_true]
    rfl
  · intro k hk ih
    rw [kv_e64_2]
    simp only [kv_e64_0, kv_e64_1, kv_e64_3, kv_e64_5, kv_e64_8, kv_e64_9, kv_e64_10, kv_e64_13, kv_e64_16, kv_e64_17, kv_e64_18, kv_e64_19, kv_e64_22, kv_e64_23, kv_e64_26, kv_e64_27, kv_e64_28, kv_e64_31, kv_e64_34, kv_e64_35, kv_o10, not_false_eq_true, not_true, if_true, if_false, kv_then_s, kv_then_v, kv_then_n, List.cons_append, List.nil_append, kv_Ci, kv_Cr, kv_Cn, kv_Cu, kv_C0, kv_catc, kv_gCi, kv_gCl, kv_gCr, kv_nb0, kv_nb1, kv_nbi, kv_nb01, Nat.reduceAdd, Nat.reduceLeDiff, kv_le8 hk, if_false, hS, kv_get, kv_flies, kv_g11 z a hk, kv_g0 z a hk, kv_i01, kv_suc]
    rw [show 8 - k = (8 - (k + 1)) + 1 from by omega, kv_fa_s]
    by_cases hc : kc z a k 11 = 0
    · simp only [hc, if_true, not_true, false_and, decide_false, Bool.false_or] at ih ⊢
      exact ih
    · by_cases h0 : kc z a k 0 = p
      · simp only [hc, h0, if_false, not_false_eq_true, not_true, and_self, decide_true, Bool.true_or, if_true]
      · simp only [hc, h0, if_false, not_false_eq_true, if_true, and_false, decide_false, Bool.false_or] at ih ⊢
        exact ih
theorem kv_unpaid (hS : kv_isS e a) (i : Int32) : kv_Rn (d + 1) 65 0 [some (.ref a), some (.int i)] [] (kv_h e z zl) = some (some (.int (kv_gt z a i 2 - kv_gt z a i 3)), kv_h e z zl) := by
  simp only [kv_e65_0, kv_e65_1, kv_e65_2, kv_e65_3, kv_e65_6, kv_e65_7, kv_e65_8, kv_e65_9, kv_e65_12, kv_e65_13, kv_o10, not_false_eq_true, not_true, if_true, if_false, kv_then_s, kv_then_v, kv_then_n, List.cons_append, List.nil_append, kv_Ci, kv_Cr, kv_Cn, kv_Cu, kv_C0, kv_catc, kv_gCi, kv_gCl, kv_gCr, kv_nb0, kv_nb1, kv_nbi, kv_nb01, Nat.reduceAdd, Nat.reduceLeDiff, hS, kv_get]
theorem kv_bears (hS : kv_isS e a) (i : Int32) : kv_Rn (d + 1) 66 0 [some (.ref a), some (.int i)] [] (kv_h e z zl) = some (some (.int (kv_mx 1 (10 - 3 * kv_gt z a i 10))), kv_h e z zl) := by
  simp only [kv_e66_0, kv_e66_1, kv_e66_3, kv_e66_4, kv_e66_5, kv_e66_6, kv_e66_8, kv_e66_11, kv_e66_12, kv_e66_13, kv_e66_16, kv_o10, not_false_eq_true, not_true, if_true, if_false, kv_then_s, kv_then_v, kv_then_n, List.cons_append, List.nil_append, kv_Ci, kv_Cr, kv_Cn, kv_Cu, kv_C0, kv_catc, kv_gCi, kv_gCl, kv_gCr, kv_nb0, kv_nb1, kv_nbi, kv_nb01, Nat.reduceAdd, Nat.reduceLeDiff, hS, kv_get]
def kv_bt (s : Int32) (k : Nat) : Bool := decide (¬ (s >>> (Int32.ofNat k &&& 31)) &&& 1 = 0)
def kv_hf (c : Nat → Nat → Int32) (s : Int32) : Int32 := kv_sm 8 (fun k => if kv_bt s k = true then c k 4 else 0)
theorem kv_heightOf (hS : kv_isS e a) (s : Int32) : kv_Rn (d + 1) 67 0 [some (.ref a), some (.int s), none, none] [] (kv_h e z zl) = some (some (.int (kv_hf (kc z a) s)), kv_h e z zl) := by
  have hl := kv_up (fun k => kv_Rn (d + 1) 67 4 [some (.ref a), some (.int s), some (.int (kv_sm k (fun k => if kv_bt s k = true then kc z a k 4 else 0))), some (.int (Int32.ofNat k))] [] (kv_h e z zl) = some (some (.int (kv_hf (kc z a) s)), kv_h e z zl)) 8 ?_ ?_
  · simp only [kv_e67_0, kv_e67_1, kv_e67_2, kv_e67_3, kv_e67_5, kv_e67_7, kv_e67_10, kv_e67_11, kv_e67_12, kv_e67_13, kv_e67_14, kv_e67_15, kv_e67_18, kv_e67_19, kv_e67_20, kv_e67_21, kv_e67_22, kv_e67_25, kv_e67_26, kv_e67_27, kv_e67_30, kv_e67_33, kv_e67_34, kv_o10, not_false_eq_true, not_true, if_true, if_false, kv_then_s, kv_then_v, kv_then_n, List.cons_append, List.nil_append, kv_Ci, kv_Cr, kv_Cn, kv_Cu, kv_C0, kv_catc, kv_gCi, kv_gCl, kv_gCr, kv_nb0, kv_nb1, kv_nbi, kv_nb01, Nat.reduceAdd, Nat.reduceLeDiff]
    exact hl
  · rw [kv_e67_4]
    simp only [kv_e67_0, kv_e67_1, kv_e67_2, kv_e67_3, kv_e67_5, kv_e67_7, kv_e67_10, kv_e67_11, kv_e67_12, kv_e67_13, kv_e67_14, kv_e67_15, kv_e67_18, kv_e67_19, kv_e67_20, kv_e67_21, kv_e67_22, kv_e67_25, kv_e67_26, kv_e67_27, kv_e67_30, kv_e67_33, kv_e67_34, kv_o10, not_false_eq_true, not_true, if_true, if_false, kv_then_s, kv_then_v, kv_then_n, List.cons_append, List.nil_append, kv_Ci, kv_Cr, kv_Cn, kv_Cu, kv_C0, kv_catc, kv_gCi, kv_gCl, kv_gCr, kv_nb0, kv_nb1, kv_nbi, kv_nb01, Nat.reduceAdd, Nat.reduceLeDiff, kv_le88, if_true]
    rfl
  · intro k hk ih
    rw [kv_e67_4]
    simp only [kv_e67_0, kv_e67_1, kv_e67_2, kv_e67_3, kv_e67_5, kv_e67_7, kv_e67_10, kv_e67_11, kv_e67_12, kv_e67_13, kv_e67_14, kv_e67_15, kv_e67_18, kv_e67_19, kv_e67_20, kv_e67_21, kv_e67_22, kv_e67_25, kv_e67_26, kv_e67_27, kv_e67_30, kv_e67_33, kv_e67_34, kv_o10, not_false_eq_true, not_true, if_true, if_false, kv_then_s, kv_then_v, kv_then_n, List.cons_append, List.nil_append, kv_Ci, kv_Cr, kv_Cn, kv_Cu, kv_C0, kv_catc, kv_gCi, kv_gCl, kv_gCr, kv_nb0, kv_nb1, kv_nbi, kv_nb01, Nat.reduceAdd, Nat.reduceLeDiff, kv_le8 hk, if_false, hS, kv_get, kv_g4 z a hk, kv_suc]
    rw [kv_sm_s k] at ih
    unfold kv_bt at ih ⊢
    by_cases hc : (s >>> (Int32.ofNat k &&& 31)) &&& 1 = 0
    · simp only [hc, if_true, not_true, decide_false, Bool.false_eq_true, if_false, Int32.add_zero] at ih ⊢
      exact ih
    · simp only [hc, if_false, not_false_eq_true, decide_true, if_true] at ih ⊢
      exact ih
theorem kv_isLow (hS : kv_isS e a) : kv_Rn (d + 3) 68 0 [some (.ref a)] [] (kv_h e z zl) = some (some (.int (if kv_hf (kc z a) (kv_bs 8 (fun k => decide (¬ kc z a k 11 = 0))) = 0 then 1 else 0)), kv_h e z zl) := by
  simp only [kv_e68_0, kv_e68_1, kv_e68_2, kv_e68_5, kv_e68_8, kv_e68_11, kv_e68_12, kv_e68_15, kv_e68_16, kv_o10, not_false_eq_true, not_true, if_true, if_false, kv_then_s, kv_then_v, kv_then_n, List.cons_append, List.nil_append, kv_Ci, kv_Cr, kv_Cn, kv_Cu, kv_C0, kv_catc, kv_gCi, kv_gCl, kv_gCr, kv_nb0, kv_nb1, kv_nbi, kv_nb01, Nat.reduceAdd, Nat.reduceLeDiff, hS, kv_flyers, kv_heightOf]
  by_cases h : kv_hf (kc z a) (kv_bs 8 (fun k => decide (¬ kc z a k 11 = 0))) = 0 <;> simp only [h, not_true, not_false_eq_true, if_true, if_false]
def kv_ff (c : Nat → Nat → Int32) (w : Nat) (o : Int32) : Int32 := kv_sm 8 (fun k => if ¬ c k 11 = 0 ∧ c k w = o then 3 * c k 4 else 0)
theorem kv_feetFor (hS : kv_isS e a) (o : Int32) : kv_Rn (d + 2) 69 0 [some (.ref a), some (.int o), none, none] [] (kv_h e z zl) = some (some (.int (kv_ff (kc z a) 5 o)), kv_h e z zl) := by
  have hl := kv_up (fun k => kv_Rn (d + 2) 69 4 [some (.ref a), some (.int o), some (.int (kv_sm k (fun k => if ¬ kc z a k 11 = 0 ∧ kc z a k 5 = o then 3 * kc z a k 4 else 0))), some (.int (Int32.ofNat k))] [] (kv_h e z zl) = some (some (.int (kv_ff (kc z a) 5 o)), kv_h e z zl)) 8 ?_ ?_
  · simp only [kv_e69_0, kv_e69_1, kv_e69_2, kv_e69_3, kv_e69_5, kv_e69_7, kv_e69_10, kv_e69_11, kv_e69_12, kv_e69_15, kv_e69_18, kv_e69_19, kv_e69_20, kv_e69_21, kv_e69_24, kv_e69_25, kv_e69_28, kv_e69_29, kv_e69_30, kv_e69_31, kv_e69_32, kv_e69_33, kv_e69_36, kv_e69_37, kv_e69_38, kv_e69_39, kv_e69_42, kv_e69_45, kv_e69_46, kv_o10, not_false_eq_true, not_true, if_true, if_false, kv_then_s, kv_then_v, kv_then_n, List.cons_append, List.nil_append, kv_Ci, kv_Cr, kv_Cn, kv_Cu, kv_C0, kv_catc, kv_gCi, kv_gCl, kv_gCr, kv_nb0, kv_nb1, kv_nbi, kv_nb01, Nat.reduceAdd, Nat.reduceLeDiff]
    exact hl
  · rw [kv_e69_4]
    simp only [kv_e69_0, kv_e69_1, kv_e69_2, kv_e69_3, kv_e69_5, kv_e69_7, kv_e69_10, kv_e69_11, kv_e69_12, kv_e69_15, kv_e69_18, kv_e69_19, kv_e69_20, kv_e69_21, kv_e69_24, kv_e69_25, kv_e69_28, kv_e69_29, kv_e69_30, kv_e69_31, kv_e69_32, kv_e69_33, kv_e69_36, kv_e69_37, kv_e69_38, kv_e69_39, kv_e69_42, kv_e69_45, kv_e69_46, kv_o10, not_false_eq_true, not_true, if_true, if_false, kv_then_s, kv_then_v, kv_then_n, List.cons_append, List.nil_append, kv_Ci, kv_Cr, kv_Cn, kv_Cu, kv_C0, kv_catc, kv_gCi, kv_gCl, kv_gCr, kv_nb0, kv_nb1, kv_nbi, kv_nb01, Nat.reduceAdd, Nat.reduceLeDiff, kv_le88, if_true]
    rfl
  · intro k hk ih
    rw [kv_e69_4]
    simp only [kv_e69_0, kv_e69_1, kv_e69_2, kv_e69_3, kv_e69_5, kv_e69_7, kv_e69_10, kv_e69_11, kv_e69_12, kv_e69_15, kv_e69_18, kv_e69_19, kv_e69_20, kv_e69_21, kv_e69_24, kv_e69_25, kv_e69_28, kv_e69_29, kv_e69_30, kv_e69_31, kv_e69_32, kv_e69_33, kv_e69_36, kv_e69_37, kv_e69_38, kv_e69_39, kv_e69_42, kv_e69_45, kv_e69_46, kv_o10, not_false_eq_true, not_true, if_true, if_false, kv_then_s, kv_then_v, kv_then_n, List.cons_append, List.nil_append, kv_Ci, kv_Cr, kv_Cn, kv_Cu, kv_C0, kv_catc, kv_gCi, kv_gCl, kv_gCr, kv_nb0, kv_nb1, kv_nbi, kv_nb01, Nat.reduceAdd, Nat.reduceLeDiff, kv_le8 hk, if_false, hS, kv_get, kv_flies, kv_g11 z a hk, kv_g5 z a hk, kv_g4 z a hk, kv_i01, kv_suc]
    rw [kv_sm_s k] at ih
    by_cases hc : kc z a k 11 = 0
    · simp only [hc, if_true, not_true, false_and, if_false, Int32.add_zero] at ih ⊢
      exact ih
    · by_cases h0 : kc z a k 5 = o
      · simp only [hc, h0, if_false, not_false_eq_true, not_true, and_self, if_true] at ih ⊢
        exact ih
      · simp only [hc, h0, if_false, not_false_eq_true, if_true, and_false, Int32.add_zero] at ih ⊢
        exact ih
theorem kv_feetOfClan (hS : kv_isS e a) (o : Int32) : kv_Rn (d + 2) 70 0 [some (.ref a), some (.int o), none, none] [] (kv_h e z zl) = some (some (.int (kv_ff (kc z a) 7 o)), kv_h e z zl) := by
  have hl := kv_up (fun k => kv_Rn (d + 2) 70 4 [some (.ref a), some (.int o), some (.int (kv_sm k (fun k => if ¬ kc z a k 11 = 0 ∧ kc z a k 7 = o then 3 * kc z a k 4 else 0))), some (.int (Int32.ofNat k))] [] (kv_h e z zl) = some (some (.int (kv_ff (kc z a) 7 o)), kv_h e z zl)) 8 ?_ ?_
  · simp only [kv_e70_0, kv_e70_1, kv_e70_2, kv_e70_3, kv_e70_5, kv_e70_7, kv_e70_10, kv_e70_11, kv_e70_12, kv_e70_15, kv_e70_18, kv_e70_19, kv_e70_20, kv_e70_22, kv_e70_25, kv_e70_26, kv_e70_29, kv_e70_30, kv_e70_31, kv_e70_32, kv_e70_33, kv_e70_34, kv_e70_37, kv_e70_38, kv_e70_39, kv_e70_40, kv_e70_43, kv_e70_46, kv_e70_47, kv_o10, not_false_eq_true, not_true, if_true, if_false, kv_then_s, kv_then_v, kv_then_n, List.cons_append, List.nil_append, kv_Ci, kv_Cr, kv_Cn, kv_Cu, kv_C0, kv_catc, kv_gCi, kv_gCl, kv_gCr, kv_nb0, kv_nb1, kv_nbi, kv_nb01, Nat.reduceAdd, Nat.reduceLeDiff]
    exact hl
  · rw [kv_e70_4]
    simp only [kv_e70_0, kv_e70_1, kv_e70_2, kv_e70_3, kv_e70_5, kv_e70_7, kv_e70_10, kv_e70_11, kv_e70_12, kv_e70_15, kv_e70_18, kv_e70_19, kv_e70_20, kv_e70_22, kv_e70_25, kv_e70_26, kv_e70_29, kv_e70_30, kv_e70_31, kv_e70_32, kv_e70_33, kv_e70_34, kv_e70_37, kv_e70_38, kv_e70_39, kv_e70_40, kv_e70_43, kv_e70_46, kv_e70_47, kv_o10, not_false_eq_true, not_true, if_true, if_false, kv_then_s, kv_then_v, kv_then_n, List.cons_append, List.nil_append, kv_Ci, kv_Cr, kv_Cn, kv_Cu, kv_C0, kv_catc, kv_gCi, kv_gCl, kv_gCr, kv_nb0, kv_nb1, kv_nbi, kv_nb01, Nat.reduceAdd, Nat.reduceLeDiff, kv_le88, if_true]
    rfl
  · intro k hk ih
    rw [kv_e70_4]
    simp only [kv_e70_0, kv_e70_1, kv_e70_2, kv_e70_3, kv_e70_5, kv_e70_7, kv_e70_10, kv_e70_11, kv_e70_12, kv_e70_15, kv_e70_18, kv_e70_19, kv_e70_20, kv_e70_22, kv_e70_25, kv_e70_26, kv_e70_29, kv_e70_30, kv_e70_31, kv_e70_32, kv_e70_33, kv_e70_34, kv_e70_37, kv_e70_38, kv_e70_39, kv_e70_40, kv_e70_43, kv_e70_46, kv_e70_47, kv_o10, not_false_eq_true, not_true, if_true, if_false, kv_then_s, kv_then_v, kv_then_n, List.cons_append, List.nil_append, kv_Ci, kv_Cr, kv_Cn, kv_Cu, kv_C0, kv_catc, kv_gCi, kv_gCl, kv_gCr, kv_nb0, kv_nb1, kv_nbi, kv_nb01, Nat.reduceAdd, Nat.reduceLeDiff, kv_le8 hk, if_false, hS, kv_get, kv_flies, kv_g11 z a hk, kv_g7 z a hk, kv_g4 z a hk, kv_i01, kv_suc]
    rw [kv_sm_s k] at ih
    by_cases hc : kc z a k 11 = 0
    · simp only [hc, if_true, not_true, false_and, if_false, Int32.add_zero] at ih ⊢
      exact ih
    · by_cases h0 : kc z a k 7 = o
      · simp only [hc, h0, if_false, not_false_eq_true, not_true, and_self, if_true] at ih ⊢
        exact ih
      · simp only [hc, h0, if_false, not_false_eq_true, if_true, and_false, Int32.add_zero] at ih ⊢
        exact ih
end
