/-! splice, gust, holds, end, see -/
section
variable {d n B W : Nat} {z zK zM zK' zM' : Nat → Nat → Int32} {zl zlM : Nat → Nat → Int64}
theorem kw_R_0 (h : kw_R n B W zK zM) (k : ∀ c, c ≠ 0 → zK' c = zK c) (m : ∀ c, c ≠ 0 → zM' c = zM c) (k9 : zK' 0 9 = zK 0 9) (mj : zM' 0 2 = zM 0 2 ∧ zM' 0 24 = zM 0 24 ∧ zM' 0 25 = zM 0 25 ∧ zM' 0 13 = zM 0 13 ∧ zM' 0 27 = zM 0 27 ∧ zM' 0 28 = zM 0 28 ∧ zM' 0 42 = zM 0 42 ∧ zM' 0 33 = zM 0 33 ∧ zM' 0 40 = zM 0 40) (g : kw_RG zK' zM') : kw_R n B W zK' zM' := by
  obtain ⟨⟨hT, hA, hF, hL⟩, ⟨hN, hI, hC⟩, hE, hG⟩ := h
  obtain ⟨a1, a2, a3, a4, a5, a6, a7, a8, a9⟩ := mj
  exact ⟨⟨kw_RT_fr hT (k 1 (by omega)) (k 2 (by omega)) a1 (m 1 (by omega)), kw_RA_fr hA (fun c a b => k c (by omega)) a3 (m 15 (by omega)), kw_RF_fr hF (k 3 (by omega)) a2 (m 14 (by omega)), kw_RL_fr hL (fun c a b => k c (by omega)) ⟨a4, a5, a6⟩ (fun c a b => m c (by omega))⟩, ⟨kw_RN_fr hN (fun c a b => k c (by omega)) (m 16 (by omega)), kw_RI_fr hI k9 (fun c a b => k c (by omega)) a7 (m 25 (by omega)), kw_RC_fr hC (fun c a b => k c (by omega)) a8 (m 19 (by omega))⟩, kw_RE_fr hE (fun c a b => k c (by omega)) a9 (fun c a b => m c (by omega)), g⟩
theorem kw_f_gust (h : kw_R n B W zK zM) (v : Int32) : kw_A (d + 12) 101 229 [some (.ref 0), some (.int v)] [some (.ref 0), some (.int v)] zK zM zl zlM := by
  have hG : zK 0 13 = zM 0 29 := h.2.2.2
  by_cases c1 : 0 ≤ v ∧ v ≤ 99
  · by_cases c2 : v = zM 0 29
    · refine kw_A0 (r := 0) h ?_ ?_
      · simp only [kv_e101_0, kv_e101_1, kv_e101_3, kv_e101_6, kv_e101_9, kv_e101_10, kv_e101_11, kv_e101_14, kv_e101_17, kv_e101_18, kv_e101_19, kv_e101_20, kv_e101_21, kv_e101_24, kv_e101_25, kv_o10, not_false_eq_true, not_true, if_true, if_false, kv_then_s, kv_then_v, kv_then_n, List.cons_append, List.nil_append, kv_Ci, kv_Cr, kv_Cn, kv_Cu, kv_C0, kv_catc, kv_gCi, kv_gCl, kv_gCr, kv_nb0, kv_nb1, kv_nbi, kv_nb01, Nat.reduceAdd, Nat.reduceLeDiff, kw_isOut, c1, and_self, hG, eq_self, ← c2]
      · simp only [kv_e229_0, kv_e229_1, kv_e229_2, kv_e229_4, kv_e229_7, kv_e229_10, kv_e229_11, kv_e229_12, kv_e229_15, kv_e229_18, kv_e229_19, kv_e229_20, kv_e229_21, kv_e229_22, kv_e229_25, kv_e229_26, kv_o10, not_false_eq_true, not_true, if_true, if_false, kv_then_s, kv_then_v, kv_then_n, List.cons_append, List.nil_append, kv_Ci, kv_Cr, kv_Cn, kv_Cu, kv_C0, kv_catc, kv_gCi, kv_gCl, kv_gCr, kv_nb0, kv_nb1, kv_nbi, kv_nb01, Nat.reduceAdd, Nat.reduceLeDiff, kw_in, c1, and_self, eq_self, ← c2]
    · refine kw_A1 (r := 1) (zK' := kv_z zK 0 (upd (zK 0) 13 v)) (zM' := kv_z zM 0 (upd (zM 0) 29 v)) (kw_R_0 h (fun c hc => kv_zne _ _ hc) (fun c hc => kv_zne _ _ hc) rfl ⟨rfl, rfl, rfl, rfl, rfl, rfl, rfl, rfl, rfl⟩ rfl) ?_ ?_
      · simp only [kv_e101_0, kv_e101_1, kv_e101_3, kv_e101_6, kv_e101_9, kv_e101_10, kv_e101_11, kv_e101_14, kv_e101_17, kv_e101_18, kv_e101_19, kv_e101_20, kv_e101_21, kv_e101_24, kv_e101_25, kv_o10, not_false_eq_true, not_true, if_true, if_false, kv_then_s, kv_then_v, kv_then_n, List.cons_append, List.nil_append, kv_Ci, kv_Cr, kv_Cn, kv_Cu, kv_C0, kv_catc, kv_gCi, kv_gCl, kv_gCr, kv_nb0, kv_nb1, kv_nbi, kv_nb01, Nat.reduceAdd, Nat.reduceLeDiff, kw_isOut, c1, and_self, hG, c2, eq_self]
      · simp only [kv_e229_0, kv_e229_1, kv_e229_2, kv_e229_4, kv_e229_7, kv_e229_10, kv_e229_11, kv_e229_12, kv_e229_15, kv_e229_18, kv_e229_19, kv_e229_20, kv_e229_21, kv_e229_22, kv_e229_25, kv_e229_26, kv_o10, not_false_eq_true, not_true, if_true, if_false, kv_then_s, kv_then_v, kv_then_n, List.cons_append, List.nil_append, kv_Ci, kv_Cr, kv_Cn, kv_Cu, kv_C0, kv_catc, kv_gCi, kv_gCl, kv_gCr, kv_nb0, kv_nb1, kv_nbi, kv_nb01, Nat.reduceAdd, Nat.reduceLeDiff, kw_in, c1, and_self, c2]
  · refine kw_A0 (r := 0) h ?_ ?_
    · simp only [kv_e101_0, kv_e101_1, kv_e101_3, kv_e101_6, kv_e101_9, kv_e101_10, kv_e101_11, kv_e101_14, kv_e101_17, kv_e101_18, kv_e101_19, kv_e101_20, kv_e101_21, kv_e101_24, kv_e101_25, kv_o10, not_false_eq_true, not_true, if_true, if_false, kv_then_s, kv_then_v, kv_then_n, List.cons_append, List.nil_append, kv_Ci, kv_Cr, kv_Cn, kv_Cu, kv_C0, kv_catc, kv_gCi, kv_gCl, kv_gCr, kv_nb0, kv_nb1, kv_nbi, kv_nb01, Nat.reduceAdd, Nat.reduceLeDiff, kw_isOut, c1, eq_self]
    · simp only [kv_e229_0, kv_e229_1, kv_e229_2, kv_e229_4, kv_e229_7, kv_e229_10, kv_e229_11, kv_e229_12, kv_e229_15, kv_e229_18, kv_e229_19, kv_e229_20, kv_e229_21, kv_e229_22, kv_e229_25, kv_e229_26, kv_o10, not_false_eq_true, not_true, if_true, if_false, kv_then_s, kv_then_v, kv_then_n, List.cons_append, List.nil_append, kv_Ci, kv_Cr, kv_Cn, kv_Cu, kv_C0, kv_catc, kv_gCi, kv_gCl, kv_gCr, kv_nb0, kv_nb1, kv_nbi, kv_nb01, Nat.reduceAdd, Nat.reduceLeDiff, kw_in, c1, eq_self]
theorem kw_R_L (h : kw_R n B W zK zM) (k : ∀ c, c ≠ 7 → zK' c = zK c) (m : ∀ c, c ≠ 0 → zM' c = zM c) (mj : ∀ j, j ≠ 27 → j ≠ 28 → zM' 0 j = zM 0 j) (g : kw_RL zK' zM') : kw_R n B W zK' zM' := by
  obtain ⟨⟨hT, hA, hF, hL⟩, ⟨hN, hI, hC⟩, hE, hG⟩ := h
  exact ⟨⟨kw_RT_fr hT (k 1 (by omega)) (k 2 (by omega)) (mj 2 (by omega) (by omega)) (m 1 (by omega)), kw_RA_fr hA (fun c a b => k c (by omega)) (mj 25 (by omega) (by omega)) (m 15 (by omega)), kw_RF_fr hF (k 3 (by omega)) (mj 24 (by omega) (by omega)) (m 14 (by omega)), g⟩, ⟨kw_RN_fr hN (fun c a b => k c (by omega)) (m 16 (by omega)), kw_RI_fr hI (by rw [k 0 (by omega)]) (fun c a b => k c (by omega)) (mj 42 (by omega) (by omega)) (m 25 (by omega)), kw_RC_fr hC (fun c a b => k c (by omega)) (mj 33 (by omega) (by omega)) (m 19 (by omega))⟩, kw_RE_fr hE (fun c a b => k c (by omega)) (mj 40 (by omega) (by omega)) (fun c a b => m c (by omega)), kw_RG_fr hG (by rw [k 0 (by omega)]) (mj 29 (by omega) (by omega))⟩
theorem kw_LX_of {l : Nat} {x : Int32} (hl : l ≤ 6) (h1 : ¬ x < -1) (h2 : ¬ Int32.ofNat l ≤ x) : kw_LX l x := by
  by_cases c : x = -1
  · exact Or.inl c
  · right
    have h0 : ¬ x < 0 := by
      rw [Int32.lt_iff_toInt_lt] at h1 ⊢
      have e1 : (-1 : Int32).toInt = -1 := rfl
      rw [e1] at h1
      rw [kw_0t]
      intro q
      exact c (Int32.toInt_inj.mp (by rw [e1]; omega))
    obtain ⟨m, hm, rfl⟩ := kv_nat (kv_nn0 h0)
    rw [kv_nle (by omega) hm] at h2
    exact ⟨m, by omega, rfl⟩
theorem kw_le_pred {l : Nat} (hl : l ≤ 20) (x : Int32) : (x ≤ Int32.ofNat l - 1) = ¬ Int32.ofNat l ≤ x := by
  rw [kw_lt_pred hl]
  exact propext ⟨fun q => Int32.not_le.mpr q, fun q => Int32.not_le.mp q⟩
theorem kw_ge_m1 (x : Int32) : (-1 ≤ x) = ¬ x < -1 := propext ⟨fun q => Int32.not_lt.mpr q, fun q => Int32.not_lt.mp q⟩
theorem kw_f_holds (h : kw_R n B W zK zM) (w x : Int32) : kw_A (d + 12) 88 202 [some (.ref 0), some (.int w), some (.int x)] [some (.ref 0), some (.int w), some (.int x)] zK zM zl zlM := by
  obtain ⟨b0, l, l1, ⟨l2, l3⟩, ⟨l4, l5⟩, ⟨l6, l7⟩, l8⟩ := h.1.2.2.2
  by_cases c1 : x < -1
  · refine kw_A0 (r := 0) h ?_ ?_
    · simp only [kv_e88_0, kv_e88_1, kv_e88_2, kv_e88_5, kv_e88_6, kv_e88_7, kv_e88_10, kv_e88_13, kv_e88_16, kv_e88_17, kv_e88_18, kv_e88_19, kv_e88_22, kv_e88_23, kv_e88_26, kv_e88_27, kv_e88_30, kv_e88_33, kv_e88_34, kv_e88_35, kv_e88_38, kv_e88_39, kv_e88_42, kv_e88_43, kv_e88_46, kv_e88_47, kv_e88_50, kv_e88_51, kv_e88_52, kv_e88_55, kv_e88_56, kv_e88_59, kv_e88_60, kv_o10, not_false_eq_true, not_true, if_true, if_false, kv_then_s, kv_then_v, kv_then_n, List.cons_append, List.nil_append, kv_Ci, kv_Cr, kv_Cn, kv_Cu, kv_C0, kv_catc, kv_gCi, kv_gCl, kv_gCr, kv_nb0, kv_nb1, kv_nbi, kv_nb01, Nat.reduceAdd, Nat.reduceLeDiff, c1]
    · simp only [kv_e202_0, kv_e202_1, kv_e202_2, kv_e202_3, kv_e202_6, kv_e202_9, kv_e202_10, kv_e202_11, kv_e202_12, kv_e202_15, kv_e202_16, kv_e202_17, kv_e202_20, kv_e202_23, kv_e202_24, kv_e202_25, kv_e202_26, kv_e202_27, kv_e202_30, kv_e202_31, kv_e202_34, kv_e202_35, kv_e202_38, kv_e202_41, kv_e202_42, kv_e202_43, kv_e202_44, kv_e202_47, kv_e202_48, kv_e202_51, kv_e202_52, kv_e202_55, kv_e202_58, kv_e202_59, kv_o10, not_false_eq_true, not_true, if_true, if_false, kv_then_s, kv_then_v, kv_then_n, List.cons_append, List.nil_append, kv_Ci, kv_Cr, kv_Cn, kv_Cu, kv_C0, kv_catc, kv_gCi, kv_gCl, kv_gCr, kv_nb0, kv_nb1, kv_nbi, kv_nb01, Nat.reduceAdd, Nat.reduceLeDiff, kw_in, kw_ge_m1, c1, false_and, l3, eq_self]
      by_cases c : 0 ≤ w ∧ w ≤ 1 <;> simp only [c, and_self, kv_o10, not_false_eq_true, not_true, if_true, if_false, kv_then_s, kv_then_v, kv_then_n, List.cons_append, List.nil_append, kv_Ci, kv_Cr, kv_Cn, kv_Cu, kv_C0, kv_catc, kv_gCi, kv_gCl, kv_gCr, kv_nb0, kv_nb1, kv_nbi, kv_nb01, Nat.reduceAdd, Nat.reduceLeDiff, kv_e202_0, kv_e202_1, kv_e202_2, kv_e202_3, kv_e202_6, kv_e202_9, kv_e202_10, kv_e202_11, kv_e202_12, kv_e202_15, kv_e202_16, kv_e202_17, kv_e202_20, kv_e202_23, kv_e202_24, kv_e202_25, kv_e202_26, kv_e202_27, kv_e202_30, kv_e202_31, kv_e202_34, kv_e202_35, kv_e202_38, kv_e202_41, kv_e202_42, kv_e202_43, kv_e202_44, kv_e202_47, kv_e202_48, kv_e202_51, kv_e202_52, kv_e202_55, kv_e202_58, kv_e202_59, eq_self, kw_in, kw_ge_m1, c1, false_and, l3]
  · by_cases c2 : Int32.ofNat l ≤ x
    · refine kw_A0 (r := 0) h ?_ ?_
      · have c3 : ¬ x < Int32.ofNat l := Int32.not_lt.mpr c2
        simp only [kv_e88_0, kv_e88_1, kv_e88_2, kv_e88_5, kv_e88_6, kv_e88_7, kv_e88_10, kv_e88_13, kv_e88_16, kv_e88_17, kv_e88_18, kv_e88_19, kv_e88_22, kv_e88_23, kv_e88_26, kv_e88_27, kv_e88_30, kv_e88_33, kv_e88_34, kv_e88_35, kv_e88_38, kv_e88_39, kv_e88_42, kv_e88_43, kv_e88_46, kv_e88_47, kv_e88_50, kv_e88_51, kv_e88_52, kv_e88_55, kv_e88_56, kv_e88_59, kv_e88_60, kv_o10, not_false_eq_true, not_true, if_true, if_false, kv_then_s, kv_then_v, kv_then_n, List.cons_append, List.nil_append, kv_Ci, kv_Cr, kv_Cn, kv_Cu, kv_C0, kv_catc, kv_gCi, kv_gCl, kv_gCr, kv_nb0, kv_nb1, kv_nbi, kv_nb01, Nat.reduceAdd, Nat.reduceLeDiff, c1, l2, c3]
      · by_cases c : 0 ≤ w ∧ w ≤ 1 <;> simp only [c, and_self, kv_o10, not_false_eq_true, not_true, if_true, if_false, kv_then_s, kv_then_v, kv_then_n, List.cons_append, List.nil_append, kv_Ci, kv_Cr, kv_Cn, kv_Cu, kv_C0, kv_catc, kv_gCi, kv_gCl, kv_gCr, kv_nb0, kv_nb1, kv_nbi, kv_nb01, Nat.reduceAdd, Nat.reduceLeDiff, kv_e202_0, kv_e202_1, kv_e202_2, kv_e202_3, kv_e202_6, kv_e202_9, kv_e202_10, kv_e202_11, kv_e202_12, kv_e202_15, kv_e202_16, kv_e202_17, kv_e202_20, kv_e202_23, kv_e202_24, kv_e202_25, kv_e202_26, kv_e202_27, kv_e202_30, kv_e202_31, kv_e202_34, kv_e202_35, kv_e202_38, kv_e202_41, kv_e202_42, kv_e202_43, kv_e202_44, kv_e202_47, kv_e202_48, kv_e202_51, kv_e202_52, kv_e202_55, kv_e202_58, kv_e202_59, eq_self, kw_in, kw_ge_m1, c1, kw_le_pred (show l ≤ 20 by omega), c2, and_false, l3]
    · have c3 : x < Int32.ofNat l := Int32.not_le.mp c2
      by_cases w0 : w = 0
      · subst w0
        refine kw_A1 (r := 1) (zK' := kv_z zK 7 (upd (zK 7) 2 x)) (zM' := kv_z (kv_z zM 0 (upd (zM 0) 27 x)) 0 (upd (upd (zM 0) 27 x) 28 (zM 0 28))) (kw_R_L h (fun c hc => kv_zne _ _ hc) (fun c hc => (kv_zne _ _ hc).trans (kv_zne _ _ hc)) (fun j j1 j2 => by rw [kv_zs]; unfold upd; rw [if_neg j2, if_neg j1]) ⟨by rw [kv_zne _ _ (by omega)]; exact b0, l, l1, ⟨l2, l3⟩, ⟨rfl, kw_LX_of l1 c1 c2⟩, ⟨l6, l7⟩, fun i hi => ?_⟩) ?_ ?_
        · rw [kv_zne _ _ (by omega), kv_zne _ _ (by omega)]
          exact kw_ML_fr (l8 i hi) (kw_AG_of (fun c a b => (kv_zne _ _ (by omega)).trans (kv_zne _ _ (by omega))))
        · simp only [kv_e88_0, kv_e88_1, kv_e88_2, kv_e88_5, kv_e88_6, kv_e88_7, kv_e88_10, kv_e88_13, kv_e88_16, kv_e88_17, kv_e88_18, kv_e88_19, kv_e88_22, kv_e88_23, kv_e88_26, kv_e88_27, kv_e88_30, kv_e88_33, kv_e88_34, kv_e88_35, kv_e88_38, kv_e88_39, kv_e88_42, kv_e88_43, kv_e88_46, kv_e88_47, kv_e88_50, kv_e88_51, kv_e88_52, kv_e88_55, kv_e88_56, kv_e88_59, kv_e88_60, kv_o10, not_false_eq_true, not_true, if_true, if_false, kv_then_s, kv_then_v, kv_then_n, List.cons_append, List.nil_append, kv_Ci, kv_Cr, kv_Cn, kv_Cu, kv_C0, kv_catc, kv_gCi, kv_gCl, kv_gCr, kv_nb0, kv_nb1, kv_nbi, kv_nb01, Nat.reduceAdd, Nat.reduceLeDiff, c1, l2, c3, eq_self]
        · simp only [kv_e202_0, kv_e202_1, kv_e202_2, kv_e202_3, kv_e202_6, kv_e202_9, kv_e202_10, kv_e202_11, kv_e202_12, kv_e202_15, kv_e202_16, kv_e202_17, kv_e202_20, kv_e202_23, kv_e202_24, kv_e202_25, kv_e202_26, kv_e202_27, kv_e202_30, kv_e202_31, kv_e202_34, kv_e202_35, kv_e202_38, kv_e202_41, kv_e202_42, kv_e202_43, kv_e202_44, kv_e202_47, kv_e202_48, kv_e202_51, kv_e202_52, kv_e202_55, kv_e202_58, kv_e202_59, kv_o10, not_false_eq_true, not_true, if_true, if_false, kv_then_s, kv_then_v, kv_then_n, List.cons_append, List.nil_append, kv_Ci, kv_Cr, kv_Cn, kv_Cu, kv_C0, kv_catc, kv_gCi, kv_gCl, kv_gCr, kv_nb0, kv_nb1, kv_nbi, kv_nb01, Nat.reduceAdd, Nat.reduceLeDiff, kw_in, show ((0 : Int32) ≤ 0 ∧ (0 : Int32) ≤ 1) = True from by decide, kw_ge_m1, c1, kw_le_pred (show l ≤ 20 by omega), c2, l3, and_self, eq_self, show (¬ (0 : Int32) = 1) = True from by decide, kv_zs]
          rfl
      · by_cases w1 : w = 1
        · subst w1
          refine kw_A1 (r := 1) (zK' := kv_z zK 7 (upd (zK 7) 3 x)) (zM' := kv_z (kv_z zM 0 (upd (zM 0) 27 (zM 0 27))) 0 (upd (upd (zM 0) 27 (zM 0 27)) 28 x)) (kw_R_L h (fun c hc => kv_zne _ _ hc) (fun c hc => (kv_zne _ _ hc).trans (kv_zne _ _ hc)) (fun j j1 j2 => by rw [kv_zs]; unfold upd; rw [if_neg j2, if_neg j1]) ⟨by rw [kv_zne _ _ (by omega)]; exact b0, l, l1, ⟨l2, l3⟩, ⟨l4, l5⟩, ⟨rfl, kw_LX_of l1 c1 c2⟩, fun i hi => ?_⟩) ?_ ?_
          · rw [kv_zne _ _ (by omega), kv_zne _ _ (by omega)]
            exact kw_ML_fr (l8 i hi) (kw_AG_of (fun c a b => (kv_zne _ _ (by omega)).trans (kv_zne _ _ (by omega))))
          · simp only [kv_e88_0, kv_e88_1, kv_e88_2, kv_e88_5, kv_e88_6, kv_e88_7, kv_e88_10, kv_e88_13, kv_e88_16, kv_e88_17, kv_e88_18, kv_e88_19, kv_e88_22, kv_e88_23, kv_e88_26, kv_e88_27, kv_e88_30, kv_e88_33, kv_e88_34, kv_e88_35, kv_e88_38, kv_e88_39, kv_e88_42, kv_e88_43, kv_e88_46, kv_e88_47, kv_e88_50, kv_e88_51, kv_e88_52, kv_e88_55, kv_e88_56, kv_e88_59, kv_e88_60, kv_o10, not_false_eq_true, not_true, if_true, if_false, kv_then_s, kv_then_v, kv_then_n, List.cons_append, List.nil_append, kv_Ci, kv_Cr, kv_Cn, kv_Cu, kv_C0, kv_catc, kv_gCi, kv_gCl, kv_gCr, kv_nb0, kv_nb1, kv_nbi, kv_nb01, Nat.reduceAdd, Nat.reduceLeDiff, c1, l2, c3, eq_self]
          · simp only [kv_e202_0, kv_e202_1, kv_e202_2, kv_e202_3, kv_e202_6, kv_e202_9, kv_e202_10, kv_e202_11, kv_e202_12, kv_e202_15, kv_e202_16, kv_e202_17, kv_e202_20, kv_e202_23, kv_e202_24, kv_e202_25, kv_e202_26, kv_e202_27, kv_e202_30, kv_e202_31, kv_e202_34, kv_e202_35, kv_e202_38, kv_e202_41, kv_e202_42, kv_e202_43, kv_e202_44, kv_e202_47, kv_e202_48, kv_e202_51, kv_e202_52, kv_e202_55, kv_e202_58, kv_e202_59, kv_o10, not_false_eq_true, not_true, if_true, if_false, kv_then_s, kv_then_v, kv_then_n, List.cons_append, List.nil_append, kv_Ci, kv_Cr, kv_Cn, kv_Cu, kv_C0, kv_catc, kv_gCi, kv_gCl, kv_gCr, kv_nb0, kv_nb1, kv_nbi, kv_nb01, Nat.reduceAdd, Nat.reduceLeDiff, kw_in, show ((0 : Int32) ≤ 1 ∧ (1 : Int32) ≤ 1) = True from by decide, kw_ge_m1, c1, kw_le_pred (show l ≤ 20 by omega), c2, l3, and_self, eq_self, kv_zs]
        · have c4 : ¬ (0 ≤ w ∧ w ≤ 1) := by
            rintro ⟨q1, q2⟩
            obtain ⟨m, hm, rfl⟩ := kv_nat q1
            rw [show (1 : Int32) = Int32.ofNat 1 from rfl, kv_nle hm (by omega)] at q2
            have : m = 0 ∨ m = 1 := by omega
            rcases this with rfl | rfl
            · exact w0 rfl
            · exact w1 rfl
          refine kw_A0 (r := 0) h ?_ ?_
          · simp only [kv_e88_0, kv_e88_1, kv_e88_2, kv_e88_5, kv_e88_6, kv_e88_7, kv_e88_10, kv_e88_13, kv_e88_16, kv_e88_17, kv_e88_18, kv_e88_19, kv_e88_22, kv_e88_23, kv_e88_26, kv_e88_27, kv_e88_30, kv_e88_33, kv_e88_34, kv_e88_35, kv_e88_38, kv_e88_39, kv_e88_42, kv_e88_43, kv_e88_46, kv_e88_47, kv_e88_50, kv_e88_51, kv_e88_52, kv_e88_55, kv_e88_56, kv_e88_59, kv_e88_60, kv_o10, not_false_eq_true, not_true, if_true, if_false, kv_then_s, kv_then_v, kv_then_n, List.cons_append, List.nil_append, kv_Ci, kv_Cr, kv_Cn, kv_Cu, kv_C0, kv_catc, kv_gCi, kv_gCl, kv_gCr, kv_nb0, kv_nb1, kv_nbi, kv_nb01, Nat.reduceAdd, Nat.reduceLeDiff, c1, l2, c3, w0, w1]
          · simp only [kv_e202_0, kv_e202_1, kv_e202_2, kv_e202_3, kv_e202_6, kv_e202_9, kv_e202_10, kv_e202_11, kv_e202_12, kv_e202_15, kv_e202_16, kv_e202_17, kv_e202_20, kv_e202_23, kv_e202_24, kv_e202_25, kv_e202_26, kv_e202_27, kv_e202_30, kv_e202_31, kv_e202_34, kv_e202_35, kv_e202_38, kv_e202_41, kv_e202_42, kv_e202_43, kv_e202_44, kv_e202_47, kv_e202_48, kv_e202_51, kv_e202_52, kv_e202_55, kv_e202_58, kv_e202_59, kv_o10, not_false_eq_true, not_true, if_true, if_false, kv_then_s, kv_then_v, kv_then_n, List.cons_append, List.nil_append, kv_Ci, kv_Cr, kv_Cn, kv_Cu, kv_C0, kv_catc, kv_gCi, kv_gCl, kv_gCr, kv_nb0, kv_nb1, kv_nbi, kv_nb01, Nat.reduceAdd, Nat.reduceLeDiff, kw_in, c4, eq_self]
theorem kw_f_end (h : kw_R n B W zK zM) (x : Int32) : kw_A (d + 12) 83 155 [some (.ref 0), some (.int x)] [some (.ref 0), some (.int x)] zK zM zl zlM := by
  obtain ⟨L, t1, t2, t3, t4⟩ := h.1.1
  by_cases c1 : x < 0
  · refine kw_A0 (r := 0) h ?_ ?_
    · simp only [kv_e83_0, kv_e83_1, kv_e83_4, kv_e83_5, kv_e83_6, kv_e83_9, kv_e83_12, kv_e83_15, kv_e83_16, kv_e83_17, kv_e83_18, kv_e83_21, kv_e83_22, kv_e83_25, kv_e83_26, kv_o10, not_false_eq_true, not_true, if_true, if_false, kv_then_s, kv_then_v, kv_then_n, List.cons_append, List.nil_append, kv_Ci, kv_Cr, kv_Cn, kv_Cu, kv_C0, kv_catc, kv_gCi, kv_gCl, kv_gCr, kv_nb0, kv_nb1, kv_nbi, kv_nb01, Nat.reduceAdd, Nat.reduceLeDiff, c1]
    · simp only [kv_e155_0, kv_e155_1, kv_e155_4, kv_e155_5, kv_e155_6, kv_e155_9, kv_e155_12, kv_e155_13, kv_e155_14, kv_e155_15, kv_e155_16, kv_e155_19, kv_e155_20, kv_o10, not_false_eq_true, not_true, if_true, if_false, kv_then_s, kv_then_v, kv_then_n, List.cons_append, List.nil_append, kv_Ci, kv_Cr, kv_Cn, kv_Cu, kv_C0, kv_catc, kv_gCi, kv_gCl, kv_gCr, kv_nb0, kv_nb1, kv_nbi, kv_nb01, Nat.reduceAdd, Nat.reduceLeDiff, c1]
  · obtain ⟨m, hm, rfl⟩ := kv_nat (kv_nn0 c1)
    by_cases c2 : m ≤ L
    · have c3 : (Int32.ofNat m ≤ Int32.ofNat L) = True := by rw [kv_nle hm (by omega)]; exact eq_true c2
      refine kw_A1 (r := 1) (zK' := kv_z zK 1 (upd (zK 1) 1 (Int32.ofNat m))) (zM' := kv_z zM 0 (upd (zM 0) 2 (Int32.ofNat m))) (n := n) (B := B) (W := W) ?_ ?_ ?_
      · obtain ⟨⟨hT, hA, hF, hL⟩, ⟨hN, hI, hC⟩, hE, hG⟩ := h
        have k : ∀ c, c ≠ 1 → kv_z zK 1 (upd (zK 1) 1 (Int32.ofNat m)) c = zK c := fun c hc => kv_zne _ _ hc
        have mm : ∀ c, c ≠ 0 → kv_z zM 0 (upd (zM 0) 2 (Int32.ofNat m)) c = zM c := fun c hc => kv_zne _ _ hc
        refine ⟨⟨⟨m, by omega, rfl, rfl, fun i hi => ?_⟩, kw_RA_fr hA (fun c a b => k c (by omega)) rfl (mm 15 (by omega)), kw_RF_fr hF (k 3 (by omega)) rfl (mm 14 (by omega)), kw_RL_fr hL (fun c a b => k c (by omega)) ⟨rfl, rfl, rfl⟩ (fun c a b => mm c (by omega))⟩, ⟨kw_RN_fr hN (fun c a b => k c (by omega)) (mm 16 (by omega)), kw_RI_fr hI (by rw [k 0 (by omega)]) (fun c a b => k c (by omega)) rfl (mm 25 (by omega)), kw_RC_fr hC (fun c a b => k c (by omega)) rfl (mm 19 (by omega))⟩, kw_RE_fr hE (fun c a b => k c (by omega)) rfl (fun c a b => mm c (by omega)), kw_RG_fr hG (by rw [k 0 (by omega)]) rfl⟩
        rw [k 2 (by omega), mm 1 (by omega)]
        exact t4 i (by omega)
      · simp only [kv_e83_0, kv_e83_1, kv_e83_4, kv_e83_5, kv_e83_6, kv_e83_9, kv_e83_12, kv_e83_15, kv_e83_16, kv_e83_17, kv_e83_18, kv_e83_21, kv_e83_22, kv_e83_25, kv_e83_26, kv_o10, not_false_eq_true, not_true, if_true, if_false, kv_then_s, kv_then_v, kv_then_n, List.cons_append, List.nil_append, kv_Ci, kv_Cr, kv_Cn, kv_Cu, kv_C0, kv_catc, kv_gCi, kv_gCl, kv_gCr, kv_nb0, kv_nb1, kv_nbi, kv_nb01, Nat.reduceAdd, Nat.reduceLeDiff, c1, t2, c3]
      · simp only [kv_e155_0, kv_e155_1, kv_e155_4, kv_e155_5, kv_e155_6, kv_e155_9, kv_e155_12, kv_e155_13, kv_e155_14, kv_e155_15, kv_e155_16, kv_e155_19, kv_e155_20, kv_o10, not_false_eq_true, not_true, if_true, if_false, kv_then_s, kv_then_v, kv_then_n, List.cons_append, List.nil_append, kv_Ci, kv_Cr, kv_Cn, kv_Cu, kv_C0, kv_catc, kv_gCi, kv_gCl, kv_gCr, kv_nb0, kv_nb1, kv_nbi, kv_nb01, Nat.reduceAdd, Nat.reduceLeDiff, c1, t3, c3]
    · have c3 : (Int32.ofNat m ≤ Int32.ofNat L) = False := by rw [kv_nle hm (by omega)]; exact eq_false c2
      refine kw_A0 (r := 0) h ?_ ?_
      · simp only [kv_e83_0, kv_e83_1, kv_e83_4, kv_e83_5, kv_e83_6, kv_e83_9, kv_e83_12, kv_e83_15, kv_e83_16, kv_e83_17, kv_e83_18, kv_e83_21, kv_e83_22, kv_e83_25, kv_e83_26, kv_o10, not_false_eq_true, not_true, if_true, if_false, kv_then_s, kv_then_v, kv_then_n, List.cons_append, List.nil_append, kv_Ci, kv_Cr, kv_Cn, kv_Cu, kv_C0, kv_catc, kv_gCi, kv_gCl, kv_gCr, kv_nb0, kv_nb1, kv_nbi, kv_nb01, Nat.reduceAdd, Nat.reduceLeDiff, c1, t2, c3]
      · simp only [kv_e155_0, kv_e155_1, kv_e155_4, kv_e155_5, kv_e155_6, kv_e155_9, kv_e155_12, kv_e155_13, kv_e155_14, kv_e155_15, kv_e155_16, kv_e155_19, kv_e155_20, kv_o10, not_false_eq_true, not_true, if_true, if_false, kv_then_s, kv_then_v, kv_then_n, List.cons_append, List.nil_append, kv_Ci, kv_Cr, kv_Cn, kv_Cu, kv_C0, kv_catc, kv_gCi, kv_gCl, kv_gCr, kv_nb0, kv_nb1, kv_nbi, kv_nb01, Nat.reduceAdd, Nat.reduceLeDiff, c1, t3, c3]
def kw_bc (x : Int32) : Int32 :=
  let a := x - (kv_sr x 1 &&& 1431655765)
  let b := (a &&& 858993459) + (kv_sr a 2 &&& 858993459)
  let c := (b + kv_sr b 4) &&& 252645135
  let e := c + kv_sr c 8
  let f := e + kv_sr e 16
  f &&& 63
theorem kw_bitCount (x : Int32) {h : kv_H} : kv_Rn d 272 0 [some (.int x)] [] h = some (some (.int (kw_bc x)), h) := by
  simp only [kv_e272_0, kv_e272_1, kv_e272_2, kv_e272_3, kv_e272_4, kv_e272_7, kv_e272_8, kv_e272_9, kv_e272_10, kv_e272_11, kv_e272_14, kv_e272_15, kv_e272_16, kv_e272_17, kv_e272_18, kv_e272_21, kv_e272_22, kv_e272_23, kv_e272_24, kv_e272_25, kv_e272_26, kv_e272_27, kv_e272_28, kv_e272_29, kv_e272_32, kv_e272_33, kv_e272_34, kv_e272_35, kv_e272_36, kv_e272_38, kv_e272_39, kv_e272_40, kv_e272_41, kv_e272_42, kv_e272_43, kv_e272_45, kv_e272_46, kv_e272_47, kv_e272_48, kv_e272_49, kv_e272_51, kv_e272_52, kv_o10, not_false_eq_true, not_true, if_true, if_false, kv_then_s, kv_then_v, kv_then_n, List.cons_append, List.nil_append, kv_Ci, kv_Cr, kv_Cn, kv_Cu, kv_C0, kv_catc, kv_gCi, kv_gCl, kv_gCr, kv_nb0, kv_nb1, kv_nbi, kv_nb01, Nat.reduceAdd, Nat.reduceLeDiff]
  rfl
theorem kw_f_book (h : kw_R n B W zK zM) (x : Int32) : kw_A (d + 12) 104 234 [some (.ref 0), some (.int x)] [some (.ref 0), some (.int x)] zK zM zl zlM := by
  obtain ⟨s1, s2⟩ := kw_R_sv h
  obtain ⟨b, b1, b2⟩ := s1.2.2.1
  have b3 : zM 16 106 = Int32.ofNat b := b2
  have b4 : zK 36 2 = Int32.ofNat b := (congrArg (fun v : kw_V => v.2.2.1) s2).trans b2
  have lit107 : (107 : Int32) = Int32.ofNat 107 := rfl
  by_cases c1 : x < 0
  · refine kw_A0 (r := -1) h ?_ ?_
    · simp only [kv_e104_0, kv_e104_1, kv_e104_4, kv_e104_5, kv_e104_8, kv_o10, not_false_eq_true, not_true, if_true, if_false, kv_then_s, kv_then_v, kv_then_n, List.cons_append, List.nil_append, kv_Ci, kv_Cr, kv_Cn, kv_Cu, kv_C0, kv_catc, kv_gCi, kv_gCl, kv_gCr, kv_nb0, kv_nb1, kv_nbi, kv_nb01, Nat.reduceAdd, Nat.reduceLeDiff, kv_isS36, kv_booked, c1]
    · simp only [kv_e234_0, kv_e234_1, kv_e234_2, kv_e234_3, kv_e234_6, kv_e234_8, kv_e234_9, kv_e234_10, kv_e234_11, kv_e234_14, kv_e234_17, kv_e234_18, kv_e234_21, kv_e234_23, kv_e234_24, kv_e234_25, kv_e234_26, kv_e234_29, kv_e234_30, kv_o10, not_false_eq_true, not_true, if_true, if_false, kv_then_s, kv_then_v, kv_then_n, List.cons_append, List.nil_append, kv_Ci, kv_Cr, kv_Cn, kv_Cu, kv_C0, kv_catc, kv_gCi, kv_gCl, kv_gCr, kv_nb0, kv_nb1, kv_nbi, kv_nb01, Nat.reduceAdd, Nat.reduceLeDiff, kv_ar_lt (show 16 < 300 by omega), kv_rd_lt (show 16 < 300 by omega), kv_am16, show ((106 : Int32) < 0) = False from by decide, show (106 : Int32).toNatClampNeg = 106 from id rfl, or_self, kw_in, kw_neg c1, false_and, eq_self]
  · obtain ⟨m, hm, rfl⟩ := kv_nat (kv_nn0 c1)
    by_cases c2 : m < b
    · have q1 : (Int32.ofNat b ≤ Int32.ofNat m) = False := kv_ln_ c2 (by omega)
      have q2 : ((40 : Int32) ≤ Int32.ofNat m) = False := kv_ln_ (m := 40) (by omega) (by omega)
      have q3 : (Int32.ofNat m ≤ Int32.ofNat b - 1) = True := by
        rw [show b = (b - 1) + 1 from by omega, kv_pre, kv_nle hm (by omega)]
        exact eq_true (by omega)
      have q4 : (0 : Int32) ≤ Int32.ofNat m := kv_nn0 c1
      have q5 : (107 : Int32) + Int32.ofNat m = Int32.ofNat (107 + m) := by rw [lit107, kw_addN]
      have q6 : 107 + m < 2147483648 := by omega
      have q7 : zK (36 + 2) m = zM 16 (107 + m) := by
        have := congrFun (congrArg (fun v : kw_V => v.2.1) s2) m
        have e1 : (if m < 40 then zK (36 + 2) m else 0) = (if m < 40 then zM 16 (0 + 107 + m) else 0) := this
        rw [if_pos (by omega), if_pos (by omega)] at e1
        exact e1
      refine kw_A0 (r := zM 16 (107 + m)) h ?_ ?_
      · simp only [kv_e104_0, kv_e104_1, kv_e104_4, kv_e104_5, kv_e104_8, kv_o10, not_false_eq_true, not_true, if_true, if_false, kv_then_s, kv_then_v, kv_then_n, List.cons_append, List.nil_append, kv_Ci, kv_Cr, kv_Cn, kv_Cu, kv_C0, kv_catc, kv_gCi, kv_gCl, kv_gCr, kv_nb0, kv_nb1, kv_nbi, kv_nb01, Nat.reduceAdd, Nat.reduceLeDiff, kv_isS36, kv_booked, c1, b4, q1, q2, kv_tn hm]
        rw [← q7]
      · simp only [kv_e234_0, kv_e234_1, kv_e234_2, kv_e234_3, kv_e234_6, kv_e234_8, kv_e234_9, kv_e234_10, kv_e234_11, kv_e234_14, kv_e234_17, kv_e234_18, kv_e234_21, kv_e234_23, kv_e234_24, kv_e234_25, kv_e234_26, kv_e234_29, kv_e234_30, kv_o10, not_false_eq_true, not_true, if_true, if_false, kv_then_s, kv_then_v, kv_then_n, List.cons_append, List.nil_append, kv_Ci, kv_Cr, kv_Cn, kv_Cu, kv_C0, kv_catc, kv_gCi, kv_gCl, kv_gCr, kv_nb0, kv_nb1, kv_nbi, kv_nb01, Nat.reduceAdd, Nat.reduceLeDiff, kv_ar_lt (show 16 < 300 by omega), kv_rd_lt (show 16 < 300 by omega), kv_am16, show ((106 : Int32) < 0) = False from by decide, show (106 : Int32).toNatClampNeg = 106 from id rfl, or_self, kw_in, b3, q3, q4, and_self, q5, kw_n0 q6, kv_tn q6, kv_lN (show 107 + m < 147 by omega)]
    · have q1 : (Int32.ofNat b ≤ Int32.ofNat m) = True := by rw [kv_nle (by omega) hm]; exact eq_true (by omega)
      have q3 : (Int32.ofNat m ≤ Int32.ofNat b - 1) = False := by
        refine eq_false (fun q => ?_)
        have h1 : (Int32.ofNat b - 1).toInt = (b : Int) - 1 := by
          rw [kw_tsub, kv_ti (by omega)]
          · rfl
          · rw [kv_ti (by omega), show (1 : Int32).toInt = 1 from rfl]; omega
          · rw [kv_ti (by omega), show (1 : Int32).toInt = 1 from rfl]; omega
        rw [Int32.le_iff_toInt_le, h1, kv_ti hm] at q
        omega
      refine kw_A0 (r := -1) h ?_ ?_
      · simp only [kv_e104_0, kv_e104_1, kv_e104_4, kv_e104_5, kv_e104_8, kv_o10, not_false_eq_true, not_true, if_true, if_false, kv_then_s, kv_then_v, kv_then_n, List.cons_append, List.nil_append, kv_Ci, kv_Cr, kv_Cn, kv_Cu, kv_C0, kv_catc, kv_gCi, kv_gCl, kv_gCr, kv_nb0, kv_nb1, kv_nbi, kv_nb01, Nat.reduceAdd, Nat.reduceLeDiff, kv_isS36, kv_booked, c1, b4, q1]
      · simp only [kv_e234_0, kv_e234_1, kv_e234_2, kv_e234_3, kv_e234_6, kv_e234_8, kv_e234_9, kv_e234_10, kv_e234_11, kv_e234_14, kv_e234_17, kv_e234_18, kv_e234_21, kv_e234_23, kv_e234_24, kv_e234_25, kv_e234_26, kv_e234_29, kv_e234_30, kv_o10, not_false_eq_true, not_true, if_true, if_false, kv_then_s, kv_then_v, kv_then_n, List.cons_append, List.nil_append, kv_Ci, kv_Cr, kv_Cn, kv_Cu, kv_C0, kv_catc, kv_gCi, kv_gCl, kv_gCr, kv_nb0, kv_nb1, kv_nbi, kv_nb01, Nat.reduceAdd, Nat.reduceLeDiff, kv_ar_lt (show 16 < 300 by omega), kv_rd_lt (show 16 < 300 by omega), kv_am16, show ((106 : Int32) < 0) = False from by decide, show (106 : Int32).toNatClampNeg = 106 from id rfl, or_self, kw_in, b3, q3, and_false, eq_self]
end
