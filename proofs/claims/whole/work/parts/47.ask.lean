/-! questions that look alone: both answer alike -/
section
variable {d n B W : Nat} {zK zM : Nat → Nat → Int32} {zl zlM : Nat → Nat → Int64}
def kw_A (d jK jM : Nat) (lK lM : kv_L) (zK zM : Nat → Nat → Int32) (zl zlM : Nat → Nat → Int64) : Prop := ∃ (r : Int32) (e' : List kv_E) (zK' : Nat → Nat → Int32) (zl' : Nat → Nat → Int64) (zM' : Nat → Nat → Int32) (zlM' : Nat → Nat → Int64), (kv_Rn d jK 0 lK [] (kv_h [] zK zl) = some (some (.int r), kv_h e' zK' zl') ∧ kv_Rn d jM 0 lM [] (kv_m zM zlM) = some (some (.int r), kv_m zM' zlM')) ∧ (∃ n B W, kw_R n B W zK' zM') ∧ e'.length ≤ 1 ∧ kv_sl e' ≤ 1
theorem kw_A_ {r : Int32} {zK' zM' : Nat → Nat → Int32} {jK jM : Nat} {lK lM : kv_L} (h : kw_R n B W zK zM) (h1 : kv_Rn d jK 0 lK [] (kv_h [] zK zl) = some (some (.int r), kv_h [] zK' zl)) (h2 : kv_Rn d jM 0 lM [] (kv_m zM zlM) = some (some (.int r), kv_m zM' zlM)) (hk : kw_XK zK zK') (hm : kw_XM zM zM') : kw_A d jK jM lK lM zK zM zl zlM :=
  ⟨r, [], zK', zl, zM', zlM, ⟨h1, h2⟩, ⟨n, B, W, kw_R_fr h hk hm⟩, Nat.zero_le _, Nat.zero_le _⟩
theorem kw_A0 {r : Int32} {jK jM : Nat} {lK lM : kv_L} (h : kw_R n B W zK zM) (h1 : kv_Rn d jK 0 lK [] (kv_h [] zK zl) = some (some (.int r), kv_h [] zK zl)) (h2 : kv_Rn d jM 0 lM [] (kv_m zM zlM) = some (some (.int r), kv_m zM zlM)) : kw_A d jK jM lK lM zK zM zl zlM := kw_A_ h h1 h2 (kw_XK_rf _) (kw_XM_rf _)
theorem kw_le0 {n : Nat} (h : n ≤ 8) : (Int32.ofNat n ≤ 0) = (n = 0) := by
  rw [show (0 : Int32) = Int32.ofNat 0 from rfl, kv_nle (by omega) (by omega)]
  exact propext (by omega)
theorem kw_KhF {e : List kv_E} (h : kw_R n B W zK zM) : kv_Rn d 137 0 [some (.ref 0)] [] (kv_h e zK zl) = some (some (.int (if n = 0 then 0 else 1)), kv_h e zK zl) := by
  simp only [kw_hasField, h.1.2.2.1.1.1, kw_le0 h.1.2.2.1.1.2.2]
theorem kw_f_law (h : kw_R n B W zK zM) (w : Int32) : kw_A (d + 12) 87 201 [some (.ref 0), some (.int w)] [some (.ref 0), some (.int w)] zK zM zl zlM := by
  have hF := h.1.2.2.1
  have e0 := kw_le0 hF.1.2.2
  have r14 : ∀ i, kv_rd zM 14 i = zM 14 i := fun i => kv_rd_lt (by omega)
  by_cases c : n = 0
  · replace c := eq_true c
    refine kw_A0 (r := -1) h ?_ ?_
    · simp only [kv_e87_0, kv_e87_1, kv_e87_4, kv_e87_7, kv_e87_8, kv_e87_9, kv_e87_10, kv_e87_40, kv_e87_41, kv_e87_44, kv_e87_47, kv_e87_48, kv_e87_49, kv_e87_52, kv_e87_55, kv_e87_56, kv_e87_57, kv_e87_60, kv_e87_63, kv_e87_64, kv_e87_65, kv_e87_68, kv_e87_71, kv_e87_72, kv_e87_73, kv_o10, not_false_eq_true, not_true, if_true, if_false, kv_then_s, kv_then_v, kv_then_n, List.cons_append, List.nil_append, kv_Ci, kv_Cr, kv_Cn, kv_Cu, kv_C0, kv_catc, kv_gCi, kv_gCl, kv_gCr, kv_nb0, kv_nb1, kv_nbi, kv_nb01, Nat.reduceAdd, Nat.reduceLeDiff, kw_KhF h, c, eq_self]
    · simp only [kv_e201_0, kv_e201_1, kv_e201_4, kv_e201_7, kv_e201_8, kv_e201_9, kv_e201_10, kv_e201_13, kv_e201_16, kv_e201_17, kv_e201_20, kv_e201_21, kv_e201_22, kv_e201_25, kv_e201_26, kv_o10, not_false_eq_true, not_true, if_true, if_false, kv_then_s, kv_then_v, kv_then_n, List.cons_append, List.nil_append, kv_Ci, kv_Cr, kv_Cn, kv_Cu, kv_C0, kv_catc, kv_gCi, kv_gCl, kv_gCr, kv_nb0, kv_nb1, kv_nbi, kv_nb01, Nat.reduceAdd, Nat.reduceLeDiff, hF.1.2.1, e0, c, eq_self]
  · by_cases c0 : w = 0
    · refine kw_A0 (r := zM 14 0) h ?_ ?_
      · simp only [kv_e87_0, kv_e87_1, kv_e87_4, kv_e87_7, kv_e87_8, kv_e87_9, kv_e87_10, kv_e87_40, kv_e87_41, kv_e87_44, kv_e87_47, kv_e87_48, kv_e87_49, kv_e87_52, kv_e87_55, kv_e87_56, kv_e87_57, kv_e87_60, kv_e87_63, kv_e87_64, kv_e87_65, kv_e87_68, kv_e87_71, kv_e87_72, kv_e87_73, kv_o10, not_false_eq_true, not_true, if_true, if_false, kv_then_s, kv_then_v, kv_then_n, List.cons_append, List.nil_append, kv_Ci, kv_Cr, kv_Cn, kv_Cu, kv_C0, kv_catc, kv_gCi, kv_gCl, kv_gCr, kv_nb0, kv_nb1, kv_nbi, kv_nb01, Nat.reduceAdd, Nat.reduceLeDiff, kw_KhF h, c, c0, eq_self, kv_isF3, hF.2.1 0 (by omega)]
      · simp only [kv_e201_0, kv_e201_1, kv_e201_4, kv_e201_7, kv_e201_8, kv_e201_9, kv_e201_10, kv_e201_13, kv_e201_16, kv_e201_17, kv_e201_20, kv_e201_21, kv_e201_22, kv_e201_25, kv_e201_26, kv_o10, not_false_eq_true, not_true, if_true, if_false, kv_then_s, kv_then_v, kv_then_n, List.cons_append, List.nil_append, kv_Ci, kv_Cr, kv_Cn, kv_Cu, kv_C0, kv_catc, kv_gCi, kv_gCl, kv_gCr, kv_nb0, kv_nb1, kv_nbi, kv_nb01, Nat.reduceAdd, Nat.reduceLeDiff, hF.1.2.1, e0, c, c0, kw_in, show ((0 : Int32) ≤ 0 ∧ (0 : Int32) ≤ 3) = True from by decide, kv_ar_lt (show 14 < 300 by omega), r14, kv_am14, kw_p0, kw_t0, or_self]
    by_cases c1 : w = 1
    · refine kw_A0 (r := zM 14 1) h ?_ ?_
      · simp only [kv_e87_0, kv_e87_1, kv_e87_4, kv_e87_7, kv_e87_8, kv_e87_9, kv_e87_10, kv_e87_40, kv_e87_41, kv_e87_44, kv_e87_47, kv_e87_48, kv_e87_49, kv_e87_52, kv_e87_55, kv_e87_56, kv_e87_57, kv_e87_60, kv_e87_63, kv_e87_64, kv_e87_65, kv_e87_68, kv_e87_71, kv_e87_72, kv_e87_73, kv_o10, not_false_eq_true, not_true, if_true, if_false, kv_then_s, kv_then_v, kv_then_n, List.cons_append, List.nil_append, kv_Ci, kv_Cr, kv_Cn, kv_Cu, kv_C0, kv_catc, kv_gCi, kv_gCl, kv_gCr, kv_nb0, kv_nb1, kv_nbi, kv_nb01, Nat.reduceAdd, Nat.reduceLeDiff, kw_KhF h, c, c1, eq_self, kv_isF3, hF.2.1 1 (by omega)]
      · simp only [kv_e201_0, kv_e201_1, kv_e201_4, kv_e201_7, kv_e201_8, kv_e201_9, kv_e201_10, kv_e201_13, kv_e201_16, kv_e201_17, kv_e201_20, kv_e201_21, kv_e201_22, kv_e201_25, kv_e201_26, kv_o10, not_false_eq_true, not_true, if_true, if_false, kv_then_s, kv_then_v, kv_then_n, List.cons_append, List.nil_append, kv_Ci, kv_Cr, kv_Cn, kv_Cu, kv_C0, kv_catc, kv_gCi, kv_gCl, kv_gCr, kv_nb0, kv_nb1, kv_nbi, kv_nb01, Nat.reduceAdd, Nat.reduceLeDiff, hF.1.2.1, e0, c, c1, kw_in, show ((0 : Int32) ≤ 1 ∧ (1 : Int32) ≤ 3) = True from by decide, kv_ar_lt (show 14 < 300 by omega), r14, kv_am14, kw_p1, kw_t1, or_self]
    by_cases c2 : w = 2
    · refine kw_A0 (r := zM 14 2) h ?_ ?_
      · simp only [kv_e87_0, kv_e87_1, kv_e87_4, kv_e87_7, kv_e87_8, kv_e87_9, kv_e87_10, kv_e87_40, kv_e87_41, kv_e87_44, kv_e87_47, kv_e87_48, kv_e87_49, kv_e87_52, kv_e87_55, kv_e87_56, kv_e87_57, kv_e87_60, kv_e87_63, kv_e87_64, kv_e87_65, kv_e87_68, kv_e87_71, kv_e87_72, kv_e87_73, kv_o10, not_false_eq_true, not_true, if_true, if_false, kv_then_s, kv_then_v, kv_then_n, List.cons_append, List.nil_append, kv_Ci, kv_Cr, kv_Cn, kv_Cu, kv_C0, kv_catc, kv_gCi, kv_gCl, kv_gCr, kv_nb0, kv_nb1, kv_nbi, kv_nb01, Nat.reduceAdd, Nat.reduceLeDiff, kw_KhF h, c, c2, eq_self, kv_isF3, hF.2.1 2 (by omega), show ((2 : Int32) = 0) = False from by decide, show ((2 : Int32) = 1) = False from by decide]
      · simp only [kv_e201_0, kv_e201_1, kv_e201_4, kv_e201_7, kv_e201_8, kv_e201_9, kv_e201_10, kv_e201_13, kv_e201_16, kv_e201_17, kv_e201_20, kv_e201_21, kv_e201_22, kv_e201_25, kv_e201_26, kv_o10, not_false_eq_true, not_true, if_true, if_false, kv_then_s, kv_then_v, kv_then_n, List.cons_append, List.nil_append, kv_Ci, kv_Cr, kv_Cn, kv_Cu, kv_C0, kv_catc, kv_gCi, kv_gCl, kv_gCr, kv_nb0, kv_nb1, kv_nbi, kv_nb01, Nat.reduceAdd, Nat.reduceLeDiff, hF.1.2.1, e0, c, c2, kw_in, show ((0 : Int32) ≤ 2 ∧ (2 : Int32) ≤ 3) = True from by decide, kv_ar_lt (show 14 < 300 by omega), r14, kv_am14, kw_p2, kw_t2, or_self]
    by_cases c3 : w = 3
    · refine kw_A0 (r := zM 14 3) h ?_ ?_
      · simp only [kv_e87_0, kv_e87_1, kv_e87_4, kv_e87_7, kv_e87_8, kv_e87_9, kv_e87_10, kv_e87_40, kv_e87_41, kv_e87_44, kv_e87_47, kv_e87_48, kv_e87_49, kv_e87_52, kv_e87_55, kv_e87_56, kv_e87_57, kv_e87_60, kv_e87_63, kv_e87_64, kv_e87_65, kv_e87_68, kv_e87_71, kv_e87_72, kv_e87_73, kv_o10, not_false_eq_true, not_true, if_true, if_false, kv_then_s, kv_then_v, kv_then_n, List.cons_append, List.nil_append, kv_Ci, kv_Cr, kv_Cn, kv_Cu, kv_C0, kv_catc, kv_gCi, kv_gCl, kv_gCr, kv_nb0, kv_nb1, kv_nbi, kv_nb01, Nat.reduceAdd, Nat.reduceLeDiff, kw_KhF h, c, c3, eq_self, kv_isF3, hF.2.1 3 (by omega), show ((3 : Int32) = 0) = False from by decide, show ((3 : Int32) = 1) = False from by decide, show ((3 : Int32) = 2) = False from by decide]
      · simp only [kv_e201_0, kv_e201_1, kv_e201_4, kv_e201_7, kv_e201_8, kv_e201_9, kv_e201_10, kv_e201_13, kv_e201_16, kv_e201_17, kv_e201_20, kv_e201_21, kv_e201_22, kv_e201_25, kv_e201_26, kv_o10, not_false_eq_true, not_true, if_true, if_false, kv_then_s, kv_then_v, kv_then_n, List.cons_append, List.nil_append, kv_Ci, kv_Cr, kv_Cn, kv_Cu, kv_C0, kv_catc, kv_gCi, kv_gCl, kv_gCr, kv_nb0, kv_nb1, kv_nbi, kv_nb01, Nat.reduceAdd, Nat.reduceLeDiff, hF.1.2.1, e0, c, c3, kw_in, show ((0 : Int32) ≤ 3 ∧ (3 : Int32) ≤ 3) = True from by decide, kv_ar_lt (show 14 < 300 by omega), r14, kv_am14, kw_p3, kw_t3, or_self]
    · have hn : ¬ (0 ≤ w ∧ w ≤ 3) := by
        rintro ⟨q1, q2⟩
        obtain ⟨m, hm, rfl⟩ := kv_nat q1
        rw [show (3 : Int32) = Int32.ofNat 3 from rfl, kv_nle hm (by omega)] at q2
        have : m = 0 ∨ m = 1 ∨ m = 2 ∨ m = 3 := by omega
        rcases this with rfl | rfl | rfl | rfl
        · exact c0 rfl
        · exact c1 rfl
        · exact c2 rfl
        · exact c3 rfl
      refine kw_A0 (r := -1) h ?_ ?_
      · simp only [kv_e87_0, kv_e87_1, kv_e87_4, kv_e87_7, kv_e87_8, kv_e87_9, kv_e87_10, kv_e87_40, kv_e87_41, kv_e87_44, kv_e87_47, kv_e87_48, kv_e87_49, kv_e87_52, kv_e87_55, kv_e87_56, kv_e87_57, kv_e87_60, kv_e87_63, kv_e87_64, kv_e87_65, kv_e87_68, kv_e87_71, kv_e87_72, kv_e87_73, kv_o10, not_false_eq_true, not_true, if_true, if_false, kv_then_s, kv_then_v, kv_then_n, List.cons_append, List.nil_append, kv_Ci, kv_Cr, kv_Cn, kv_Cu, kv_C0, kv_catc, kv_gCi, kv_gCl, kv_gCr, kv_nb0, kv_nb1, kv_nbi, kv_nb01, Nat.reduceAdd, Nat.reduceLeDiff, kw_KhF h, c, c0, c1, c2, c3]
      · simp only [kv_e201_0, kv_e201_1, kv_e201_4, kv_e201_7, kv_e201_8, kv_e201_9, kv_e201_10, kv_e201_13, kv_e201_16, kv_e201_17, kv_e201_20, kv_e201_21, kv_e201_22, kv_e201_25, kv_e201_26, kv_o10, not_false_eq_true, not_true, if_true, if_false, kv_then_s, kv_then_v, kv_then_n, List.cons_append, List.nil_append, kv_Ci, kv_Cr, kv_Cn, kv_Cu, kv_C0, kv_catc, kv_gCi, kv_gCl, kv_gCr, kv_nb0, kv_nb1, kv_nbi, kv_nb01, Nat.reduceAdd, Nat.reduceLeDiff, hF.1.2.1, e0, c, kw_in, hn, eq_self]
theorem kw_f_wind (h : kw_R n B W zK zM) (x m : Int32) : kw_A (d + 12) 89 204 [some (.ref 0), some (.int x), some (.int m)] [some (.ref 0), some (.int x), some (.int m)] zK zM zl zlM := by
  have hF := h.1.2.2.1
  have e0 := kw_le0 hF.1.2.2
  by_cases c : n = 0
  · replace c := eq_true c
    refine kw_A0 (r := -1) h ?_ ?_
    · simp only [kv_e89_0, kv_e89_1, kv_e89_4, kv_e89_7, kv_e89_8, kv_e89_10, kv_e89_13, kv_e89_16, kv_e89_17, kv_e89_19, kv_e89_22, kv_e89_25, kv_e89_26, kv_e89_27, kv_e89_28, kv_e89_31, kv_e89_32, kv_e89_33, kv_e89_36, kv_o10, not_false_eq_true, not_true, if_true, if_false, kv_then_s, kv_then_v, kv_then_n, List.cons_append, List.nil_append, kv_Ci, kv_Cr, kv_Cn, kv_Cu, kv_C0, kv_catc, kv_gCi, kv_gCl, kv_gCr, kv_nb0, kv_nb1, kv_nbi, kv_nb01, Nat.reduceAdd, Nat.reduceLeDiff, kw_KhF h, c, eq_self]
    · simp only [kv_e204_0, kv_e204_1, kv_e204_4, kv_e204_7, kv_e204_8, kv_e204_9, kv_e204_11, kv_e204_14, kv_e204_17, kv_e204_18, kv_e204_19, kv_e204_21, kv_e204_24, kv_e204_27, kv_e204_28, kv_e204_29, kv_e204_30, kv_e204_33, kv_e204_36, kv_e204_37, kv_o10, not_false_eq_true, not_true, if_true, if_false, kv_then_s, kv_then_v, kv_then_n, List.cons_append, List.nil_append, kv_Ci, kv_Cr, kv_Cn, kv_Cu, kv_C0, kv_catc, kv_gCi, kv_gCl, kv_gCr, kv_nb0, kv_nb1, kv_nbi, kv_nb01, Nat.reduceAdd, Nat.reduceLeDiff, hF.1.2.1, e0, c, eq_self]
  · by_cases c1 : 0 ≤ x ∧ x ≤ 99
    · by_cases c2 : 0 ≤ m ∧ m ≤ 60
      · refine kw_A0 (r := kw_mwin zM x m) h ?_ ?_
        · simp only [kv_e89_0, kv_e89_1, kv_e89_4, kv_e89_7, kv_e89_8, kv_e89_10, kv_e89_13, kv_e89_16, kv_e89_17, kv_e89_19, kv_e89_22, kv_e89_25, kv_e89_26, kv_e89_27, kv_e89_28, kv_e89_31, kv_e89_32, kv_e89_33, kv_e89_36, kv_o10, not_false_eq_true, not_true, if_true, if_false, kv_then_s, kv_then_v, kv_then_n, List.cons_append, List.nil_append, kv_Ci, kv_Cr, kv_Cn, kv_Cu, kv_C0, kv_catc, kv_gCi, kv_gCl, kv_gCr, kv_nb0, kv_nb1, kv_nbi, kv_nb01, Nat.reduceAdd, Nat.reduceLeDiff, kw_KhF h, c, kw_isOut, c1, c2, and_self, eq_self, kv_isF3, kw_wind (kw_R_air h), kw_R_win h.1.2.1]
        · simp only [kv_e204_0, kv_e204_1, kv_e204_4, kv_e204_7, kv_e204_8, kv_e204_9, kv_e204_11, kv_e204_14, kv_e204_17, kv_e204_18, kv_e204_19, kv_e204_21, kv_e204_24, kv_e204_27, kv_e204_28, kv_e204_29, kv_e204_30, kv_e204_33, kv_e204_36, kv_e204_37, kv_o10, not_false_eq_true, not_true, if_true, if_false, kv_then_s, kv_then_v, kv_then_n, List.cons_append, List.nil_append, kv_Ci, kv_Cr, kv_Cn, kv_Cu, kv_C0, kv_catc, kv_gCi, kv_gCl, kv_gCr, kv_nb0, kv_nb1, kv_nbi, kv_nb01, Nat.reduceAdd, Nat.reduceLeDiff, hF.1.2.1, e0, c, kw_in, c1, c2, and_self, kw_mwind (kw_R_I h).1.2]
      · refine kw_A0 (r := -1) h ?_ ?_
        · simp only [kv_e89_0, kv_e89_1, kv_e89_4, kv_e89_7, kv_e89_8, kv_e89_10, kv_e89_13, kv_e89_16, kv_e89_17, kv_e89_19, kv_e89_22, kv_e89_25, kv_e89_26, kv_e89_27, kv_e89_28, kv_e89_31, kv_e89_32, kv_e89_33, kv_e89_36, kv_o10, not_false_eq_true, not_true, if_true, if_false, kv_then_s, kv_then_v, kv_then_n, List.cons_append, List.nil_append, kv_Ci, kv_Cr, kv_Cn, kv_Cu, kv_C0, kv_catc, kv_gCi, kv_gCl, kv_gCr, kv_nb0, kv_nb1, kv_nbi, kv_nb01, Nat.reduceAdd, Nat.reduceLeDiff, kw_KhF h, c, kw_isOut, c1, and_self, c2, eq_self]
        · simp only [kv_e204_0, kv_e204_1, kv_e204_4, kv_e204_7, kv_e204_8, kv_e204_9, kv_e204_11, kv_e204_14, kv_e204_17, kv_e204_18, kv_e204_19, kv_e204_21, kv_e204_24, kv_e204_27, kv_e204_28, kv_e204_29, kv_e204_30, kv_e204_33, kv_e204_36, kv_e204_37, kv_o10, not_false_eq_true, not_true, if_true, if_false, kv_then_s, kv_then_v, kv_then_n, List.cons_append, List.nil_append, kv_Ci, kv_Cr, kv_Cn, kv_Cu, kv_C0, kv_catc, kv_gCi, kv_gCl, kv_gCr, kv_nb0, kv_nb1, kv_nbi, kv_nb01, Nat.reduceAdd, Nat.reduceLeDiff, hF.1.2.1, e0, c, kw_in, c1, and_self, c2, eq_self]
    · refine kw_A0 (r := -1) h ?_ ?_
      · simp only [kv_e89_0, kv_e89_1, kv_e89_4, kv_e89_7, kv_e89_8, kv_e89_10, kv_e89_13, kv_e89_16, kv_e89_17, kv_e89_19, kv_e89_22, kv_e89_25, kv_e89_26, kv_e89_27, kv_e89_28, kv_e89_31, kv_e89_32, kv_e89_33, kv_e89_36, kv_o10, not_false_eq_true, not_true, if_true, if_false, kv_then_s, kv_then_v, kv_then_n, List.cons_append, List.nil_append, kv_Ci, kv_Cr, kv_Cn, kv_Cu, kv_C0, kv_catc, kv_gCi, kv_gCl, kv_gCr, kv_nb0, kv_nb1, kv_nbi, kv_nb01, Nat.reduceAdd, Nat.reduceLeDiff, kw_KhF h, c, kw_isOut, c1, eq_self]
      · simp only [kv_e204_0, kv_e204_1, kv_e204_4, kv_e204_7, kv_e204_8, kv_e204_9, kv_e204_11, kv_e204_14, kv_e204_17, kv_e204_18, kv_e204_19, kv_e204_21, kv_e204_24, kv_e204_27, kv_e204_28, kv_e204_29, kv_e204_30, kv_e204_33, kv_e204_36, kv_e204_37, kv_o10, not_false_eq_true, not_true, if_true, if_false, kv_then_s, kv_then_v, kv_then_n, List.cons_append, List.nil_append, kv_Ci, kv_Cr, kv_Cn, kv_Cu, kv_C0, kv_catc, kv_gCi, kv_gCl, kv_gCr, kv_nb0, kv_nb1, kv_nbi, kv_nb01, Nat.reduceAdd, Nat.reduceLeDiff, hF.1.2.1, e0, c, kw_in, c1, eq_self]
theorem kw_f_feet (h : kw_R n B W zK zM) (o : Int32) : kw_A (d + 12) 92 217 [some (.ref 0), some (.int o)] [some (.ref 0), some (.int o)] zK zM zl zlM := by
  have hF := h.1.2.2.1
  have e0 := kw_le0 hF.1.2.2
  by_cases c : n = 0
  · replace c := eq_true c
    refine kw_A0 (r := -1) h ?_ ?_
    · simp only [kv_e92_0, kv_e92_1, kv_e92_4, kv_e92_7, kv_e92_8, kv_e92_9, kv_e92_12, kv_e92_15, kv_e92_16, kv_e92_19, kv_e92_20, kv_e92_23, kv_e92_26, kv_e92_27, kv_o10, not_false_eq_true, not_true, if_true, if_false, kv_then_s, kv_then_v, kv_then_n, List.cons_append, List.nil_append, kv_Ci, kv_Cr, kv_Cn, kv_Cu, kv_C0, kv_catc, kv_gCi, kv_gCl, kv_gCr, kv_nb0, kv_nb1, kv_nbi, kv_nb01, Nat.reduceAdd, Nat.reduceLeDiff, kw_KhF h, c, eq_self]
    · simp only [kv_e217_0, kv_e217_1, kv_e217_4, kv_e217_7, kv_e217_8, kv_e217_9, kv_e217_10, kv_e217_13, kv_e217_16, kv_e217_17, kv_e217_18, kv_e217_21, kv_e217_24, kv_e217_25, kv_o10, not_false_eq_true, not_true, if_true, if_false, kv_then_s, kv_then_v, kv_then_n, List.cons_append, List.nil_append, kv_Ci, kv_Cr, kv_Cn, kv_Cu, kv_C0, kv_catc, kv_gCi, kv_gCl, kv_gCr, kv_nb0, kv_nb1, kv_nbi, kv_nb01, Nat.reduceAdd, Nat.reduceLeDiff, hF.1.2.1, e0, c, eq_self]
  · by_cases c1 : 0 ≤ o ∧ o ≤ 2
    · refine kw_A0 (r := kv_ff (km zM) 5 o) h ?_ ?_
      · simp only [kv_e92_0, kv_e92_1, kv_e92_4, kv_e92_7, kv_e92_8, kv_e92_9, kv_e92_12, kv_e92_15, kv_e92_16, kv_e92_19, kv_e92_20, kv_e92_23, kv_e92_26, kv_e92_27, kv_o10, not_false_eq_true, not_true, if_true, if_false, kv_then_s, kv_then_v, kv_then_n, List.cons_append, List.nil_append, kv_Ci, kv_Cr, kv_Cn, kv_Cu, kv_C0, kv_catc, kv_gCi, kv_gCl, kv_gCr, kv_nb0, kv_nb1, kv_nbi, kv_nb01, Nat.reduceAdd, Nat.reduceLeDiff, kw_KhF h, c, kw_isOut, c1, and_self, eq_self, kv_isS36, kv_feetFor, kw_R_km h.2.1.1]
      · simp only [kv_e217_0, kv_e217_1, kv_e217_4, kv_e217_7, kv_e217_8, kv_e217_9, kv_e217_10, kv_e217_13, kv_e217_16, kv_e217_17, kv_e217_18, kv_e217_21, kv_e217_24, kv_e217_25, kv_o10, not_false_eq_true, not_true, if_true, if_false, kv_then_s, kv_then_v, kv_then_n, List.cons_append, List.nil_append, kv_Ci, kv_Cr, kv_Cn, kv_Cu, kv_C0, kv_catc, kv_gCi, kv_gCl, kv_gCr, kv_nb0, kv_nb1, kv_nbi, kv_nb01, Nat.reduceAdd, Nat.reduceLeDiff, hF.1.2.1, e0, c, kw_in, c1, and_self, kw_feetOf (kw_R_I h).1.1]
    · refine kw_A0 (r := -1) h ?_ ?_
      · simp only [kv_e92_0, kv_e92_1, kv_e92_4, kv_e92_7, kv_e92_8, kv_e92_9, kv_e92_12, kv_e92_15, kv_e92_16, kv_e92_19, kv_e92_20, kv_e92_23, kv_e92_26, kv_e92_27, kv_o10, not_false_eq_true, not_true, if_true, if_false, kv_then_s, kv_then_v, kv_then_n, List.cons_append, List.nil_append, kv_Ci, kv_Cr, kv_Cn, kv_Cu, kv_C0, kv_catc, kv_gCi, kv_gCl, kv_gCr, kv_nb0, kv_nb1, kv_nbi, kv_nb01, Nat.reduceAdd, Nat.reduceLeDiff, kw_KhF h, c, kw_isOut, c1, eq_self]
      · simp only [kv_e217_0, kv_e217_1, kv_e217_4, kv_e217_7, kv_e217_8, kv_e217_9, kv_e217_10, kv_e217_13, kv_e217_16, kv_e217_17, kv_e217_18, kv_e217_21, kv_e217_24, kv_e217_25, kv_o10, not_false_eq_true, not_true, if_true, if_false, kv_then_s, kv_then_v, kv_then_n, List.cons_append, List.nil_append, kv_Ci, kv_Cr, kv_Cn, kv_Cu, kv_C0, kv_catc, kv_gCi, kv_gCl, kv_gCr, kv_nb0, kv_nb1, kv_nbi, kv_nb01, Nat.reduceAdd, Nat.reduceLeDiff, hF.1.2.1, e0, c, kw_in, c1, eq_self]
theorem kw_f_result (h : kw_R n B W zK zM) : kw_A (d + 12) 93 219 [some (.ref 0)] [some (.ref 0)] zK zM zl zlM := by
  have hF := h.1.2.2.1
  have e0 := kw_le0 hF.1.2.2
  by_cases c : n = 0
  · replace c := eq_true c
    refine kw_A0 (r := -1) h ?_ ?_
    · simp only [kv_e93_0, kv_e93_1, kv_e93_4, kv_e93_7, kv_e93_8, kv_e93_11, kv_e93_12, kv_e93_15, kv_e93_18, kv_e93_21, kv_e93_22, kv_o10, not_false_eq_true, not_true, if_true, if_false, kv_then_s, kv_then_v, kv_then_n, List.cons_append, List.nil_append, kv_Ci, kv_Cr, kv_Cn, kv_Cu, kv_C0, kv_catc, kv_gCi, kv_gCl, kv_gCr, kv_nb0, kv_nb1, kv_nbi, kv_nb01, Nat.reduceAdd, Nat.reduceLeDiff, kw_KhF h, c, eq_self]
    · simp only [kv_e219_0, kv_e219_1, kv_e219_4, kv_e219_7, kv_e219_8, kv_e219_11, kv_e219_14, kv_e219_15, kv_o10, not_false_eq_true, not_true, if_true, if_false, kv_then_s, kv_then_v, kv_then_n, List.cons_append, List.nil_append, kv_Ci, kv_Cr, kv_Cn, kv_Cu, kv_C0, kv_catc, kv_gCi, kv_gCl, kv_gCr, kv_nb0, kv_nb1, kv_nbi, kv_nb01, Nat.reduceAdd, Nat.reduceLeDiff, hF.1.2.1, e0, c, eq_self]
  · refine kw_A0 (r := kv_rs (zM 14 2) (km zM)) h ?_ ?_
    · simp only [kv_e93_0, kv_e93_1, kv_e93_4, kv_e93_7, kv_e93_8, kv_e93_11, kv_e93_12, kv_e93_15, kv_e93_18, kv_e93_21, kv_e93_22, kv_o10, not_false_eq_true, not_true, if_true, if_false, kv_then_s, kv_then_v, kv_then_n, List.cons_append, List.nil_append, kv_Ci, kv_Cr, kv_Cn, kv_Cu, kv_C0, kv_catc, kv_gCi, kv_gCl, kv_gCr, kv_nb0, kv_nb1, kv_nbi, kv_nb01, Nat.reduceAdd, Nat.reduceLeDiff, kw_KhF h, c, kv_isS36, kv_resultOf, kw_R_km h.2.1.1, hF.2.1 2 (by omega)]
    · simp only [kv_e219_0, kv_e219_1, kv_e219_4, kv_e219_7, kv_e219_8, kv_e219_11, kv_e219_14, kv_e219_15, kv_o10, not_false_eq_true, not_true, if_true, if_false, kv_then_s, kv_then_v, kv_then_n, List.cons_append, List.nil_append, kv_Ci, kv_Cr, kv_Cn, kv_Cu, kv_C0, kv_catc, kv_gCi, kv_gCl, kv_gCr, kv_nb0, kv_nb1, kv_nbi, kv_nb01, Nat.reduceAdd, Nat.reduceLeDiff, hF.1.2.1, e0, c, kw_resultNow (kw_R_I h).1.1]
theorem kw_XK_L {z z' : Nat → Nat → Int32} (h : ∀ c, c ≠ 34 → c ≠ 35 → z' c = z c) : kw_XK z z' := fun c a1 a2 _ _ _ _ => h c a1 a2
theorem kw_XM_L {z z' : Nat → Nat → Int32} (h : ∀ c, c ≠ 9 → c ≠ 10 → z' c = z c) : kw_XM z z' := fun c a1 a2 _ _ _ _ => h c a1 a2
theorem kw_lt8 (h : kw_R n B W zK zM) {k : Nat} (hc : ¬ km zM k 11 = 0) : k < n ∧ k < 8 := by
  have h1 := (kw_R_I h).1.1
  have h2 : ¬ n ≤ k := fun q => hc ((h1.2 k).2 q)
  have h3 := h1.1.2
  exact ⟨by omega, by omega⟩
theorem kw_f_lift (h : kw_R n B W zK zM) (x : Int32) : kw_A (d + 12) 90 207 [some (.ref 0), some (.int x)] [some (.ref 0), some (.int x)] zK zM zl zlM := by
  have hKK := kw_R_KK h
  have hI := kw_R_I h
  have ek := kw_R_km h.2.1.1
  by_cases c0 : x < 0
  · refine kw_A0 (r := -1000000) h ?_ ?_
    · simp only [kv_e90_0, kv_e90_1, kv_e90_2, kv_e90_5, kv_e90_8, kv_e90_9, kv_e90_12, kv_e90_13, kv_e90_16, kv_e90_17, kv_e90_20, kv_e90_23, kv_e90_25, kv_o10, not_false_eq_true, not_true, if_true, if_false, kv_then_s, kv_then_v, kv_then_n, List.cons_append, List.nil_append, kv_Ci, kv_Cr, kv_Cn, kv_Cu, kv_C0, kv_catc, kv_gCi, kv_gCl, kv_gCr, kv_nb0, kv_nb1, kv_nbi, kv_nb01, Nat.reduceAdd, Nat.reduceLeDiff, kw_KfliesN c0, eq_self]
    · simp only [kv_e207_0, kv_e207_1, kv_e207_2, kv_e207_5, kv_e207_8, kv_e207_9, kv_e207_10, kv_e207_13, kv_e207_16, kv_e207_19, kv_o10, not_false_eq_true, not_true, if_true, if_false, kv_then_s, kv_then_v, kv_then_n, List.cons_append, List.nil_append, kv_Ci, kv_Cr, kv_Cn, kv_Cu, kv_C0, kv_catc, kv_gCi, kv_gCl, kv_gCr, kv_nb0, kv_nb1, kv_nbi, kv_nb01, Nat.reduceAdd, Nat.reduceLeDiff, kw_fliesN c0, eq_self]
  · obtain ⟨k, hk, rfl⟩ := kv_nat (kv_nn0 c0)
    by_cases c1 : km zM k 11 = 0
    · refine kw_A0 (r := -1000000) h ?_ ?_
      · simp only [kv_e90_0, kv_e90_1, kv_e90_2, kv_e90_5, kv_e90_8, kv_e90_9, kv_e90_12, kv_e90_13, kv_e90_16, kv_e90_17, kv_e90_20, kv_e90_23, kv_e90_25, kv_o10, not_false_eq_true, not_true, if_true, if_false, kv_then_s, kv_then_v, kv_then_n, List.cons_append, List.nil_append, kv_Ci, kv_Cr, kv_Cn, kv_Cu, kv_C0, kv_catc, kv_gCi, kv_gCl, kv_gCr, kv_nb0, kv_nb1, kv_nbi, kv_nb01, Nat.reduceAdd, Nat.reduceLeDiff, kw_Kflies hKK hk, ek, c1, eq_self]
      · simp only [kv_e207_0, kv_e207_1, kv_e207_2, kv_e207_5, kv_e207_8, kv_e207_9, kv_e207_10, kv_e207_13, kv_e207_16, kv_e207_19, kv_o10, not_false_eq_true, not_true, if_true, if_false, kv_then_s, kv_then_v, kv_then_n, List.cons_append, List.nil_append, kv_Ci, kv_Cr, kv_Cn, kv_Cu, kv_C0, kv_catc, kv_gCi, kv_gCl, kv_gCr, kv_nb0, kv_nb1, kv_nbi, kv_nb01, Nat.reduceAdd, Nat.reduceLeDiff, kw_flies hI.1.1 hk, c1, eq_self]
    · have hk8 := (kw_lt8 h c1).2
      obtain ⟨em, M, m1, m2, m3, m4, m5⟩ := kw_R_min h
      obtain ⟨z1, r1, f1⟩ := kw_liftOf (d := d + 9) (e := []) (z := zK) (zl := zl) (kv_isS36 []) (by omega) (kw_R_air h) hk8
      obtain ⟨z2, r2, f2⟩ := kw_mliftOf (d := d + 7) (z := zM) (zl := zlM) hI.1.2 hI.2.1.1 hI.2.2.1 (by rw [← em, m3]; exact kw_okm_of (by omega)) hk8 (kw_okr_b (hI.2.2.2.1 k))
      rw [kw_R_win h.1.2.1, ek, em] at r1
      refine kw_A_ (r := kw_lift (kw_lf zK (zK 7 2)) (kw_mwin zM) (km zM k) (zM 16 104)) h ?_ ?_ (kw_XK_L f1) (kw_XM_L f2)
      · simp only [kv_e90_0, kv_e90_1, kv_e90_2, kv_e90_5, kv_e90_8, kv_e90_9, kv_e90_12, kv_e90_13, kv_e90_16, kv_e90_17, kv_e90_20, kv_e90_23, kv_e90_25, kv_o10, not_false_eq_true, not_true, if_true, if_false, kv_then_s, kv_then_v, kv_then_n, List.cons_append, List.nil_append, kv_Ci, kv_Cr, kv_Cn, kv_Cu, kv_C0, kv_catc, kv_gCi, kv_gCl, kv_gCr, kv_nb0, kv_nb1, kv_nbi, kv_nb01, Nat.reduceAdd, Nat.reduceLeDiff, kw_Kflies hKK hk, ek, c1, kv_isS36, r1]
      · simp only [kv_e207_0, kv_e207_1, kv_e207_2, kv_e207_5, kv_e207_8, kv_e207_9, kv_e207_10, kv_e207_13, kv_e207_16, kv_e207_19, kv_o10, not_false_eq_true, not_true, if_true, if_false, kv_then_s, kv_then_v, kv_then_n, List.cons_append, List.nil_append, kv_Ci, kv_Cr, kv_Cn, kv_Cu, kv_C0, kv_catc, kv_gCi, kv_gCl, kv_gCr, kv_nb0, kv_nb1, kv_nbi, kv_nb01, Nat.reduceAdd, Nat.reduceLeDiff, kw_flies hI.1.1 hk, c1, r2]
theorem kw_f_wear (h : kw_R n B W zK zM) (x y : Int32) : kw_A (d + 12) 91 209 [some (.ref 0), some (.int x), some (.int y)] [some (.ref 0), some (.int x), some (.int y)] zK zM zl zlM := by
  have hKK := kw_R_KK h
  have hI := kw_R_I h
  have ek := kw_R_km h.2.1.1
  by_cases c0 : x < 0
  · refine kw_A0 (r := -1) h ?_ ?_
    · simp only [kv_e91_0, kv_e91_1, kv_e91_2, kv_e91_3, kv_e91_6, kv_e91_9, kv_e91_10, kv_e91_13, kv_e91_14, kv_e91_17, kv_e91_18, kv_e91_19, kv_e91_22, kv_e91_25, kv_e91_26, kv_o10, not_false_eq_true, not_true, if_true, if_false, kv_then_s, kv_then_v, kv_then_n, List.cons_append, List.nil_append, kv_Ci, kv_Cr, kv_Cn, kv_Cu, kv_C0, kv_catc, kv_gCi, kv_gCl, kv_gCr, kv_nb0, kv_nb1, kv_nbi, kv_nb01, Nat.reduceAdd, Nat.reduceLeDiff, kw_KareTwoN1 c0, eq_self]
    · simp only [kv_e209_0, kv_e209_1, kv_e209_2, kv_e209_3, kv_e209_6, kv_e209_9, kv_e209_10, kv_e209_11, kv_e209_12, kv_e209_15, kv_e209_18, kv_e209_19, kv_e197_0, kv_e197_1, kv_e197_2, kv_e197_5, kv_e197_8, kv_e197_9, kv_e197_10, kv_e197_13, kv_e197_16, kv_e197_17, kv_e197_18, kv_e197_21, kv_e197_22, kv_e197_25, kv_e197_26, kv_o10, not_false_eq_true, not_true, if_true, if_false, kv_then_s, kv_then_v, kv_then_n, List.cons_append, List.nil_append, kv_Ci, kv_Cr, kv_Cn, kv_Cu, kv_C0, kv_catc, kv_gCi, kv_gCl, kv_gCr, kv_nb0, kv_nb1, kv_nbi, kv_nb01, Nat.reduceAdd, Nat.reduceLeDiff, kw_fliesN c0, eq_self]
  · obtain ⟨k, hk, rfl⟩ := kv_nat (kv_nn0 c0)
    by_cases c2 : y < 0
    · refine kw_A0 (r := -1) h ?_ ?_
      · simp only [kv_e91_0, kv_e91_1, kv_e91_2, kv_e91_3, kv_e91_6, kv_e91_9, kv_e91_10, kv_e91_13, kv_e91_14, kv_e91_17, kv_e91_18, kv_e91_19, kv_e91_22, kv_e91_25, kv_e91_26, kv_o10, not_false_eq_true, not_true, if_true, if_false, kv_then_s, kv_then_v, kv_then_n, List.cons_append, List.nil_append, kv_Ci, kv_Cr, kv_Cn, kv_Cu, kv_C0, kv_catc, kv_gCi, kv_gCl, kv_gCr, kv_nb0, kv_nb1, kv_nbi, kv_nb01, Nat.reduceAdd, Nat.reduceLeDiff, kw_KareTwoN2 hKK hk c2, eq_self]
      · simp only [kv_e209_0, kv_e209_1, kv_e209_2, kv_e209_3, kv_e209_6, kv_e209_9, kv_e209_10, kv_e209_11, kv_e209_12, kv_e209_15, kv_e209_18, kv_e209_19, kv_e197_0, kv_e197_1, kv_e197_2, kv_e197_5, kv_e197_8, kv_e197_9, kv_e197_10, kv_e197_13, kv_e197_16, kv_e197_17, kv_e197_18, kv_e197_21, kv_e197_22, kv_e197_25, kv_e197_26, kv_o10, not_false_eq_true, not_true, if_true, if_false, kv_then_s, kv_then_v, kv_then_n, List.cons_append, List.nil_append, kv_Ci, kv_Cr, kv_Cn, kv_Cu, kv_C0, kv_catc, kv_gCi, kv_gCl, kv_gCr, kv_nb0, kv_nb1, kv_nbi, kv_nb01, Nat.reduceAdd, Nat.reduceLeDiff, kw_flies hI.1.1 hk, kw_fliesN c2, eq_self, kv_i01]
        by_cases c1 : km zM k 11 = 0 <;> simp only [c1, kv_o10, not_false_eq_true, not_true, if_true, if_false, kv_then_s, kv_then_v, kv_then_n, List.cons_append, List.nil_append, kv_Ci, kv_Cr, kv_Cn, kv_Cu, kv_C0, kv_catc, kv_gCi, kv_gCl, kv_gCr, kv_nb0, kv_nb1, kv_nbi, kv_nb01, Nat.reduceAdd, Nat.reduceLeDiff, kv_e209_0, kv_e209_1, kv_e209_2, kv_e209_3, kv_e209_6, kv_e209_9, kv_e209_10, kv_e209_11, kv_e209_12, kv_e209_15, kv_e209_18, kv_e209_19, eq_self]
    · obtain ⟨o, ho, rfl⟩ := kv_nat (kv_nn0 c2)
      by_cases c1 : ¬ km zM k 11 = 0 ∧ ¬ km zM o 11 = 0 ∧ ¬ k = o
      · have hk8 := (kw_lt8 h c1.1).2
        have ho8 := (kw_lt8 h c1.2.1).2
        obtain ⟨em, M, m1, m2, m3, m4, m5⟩ := kw_R_min h
        obtain ⟨z1, r1, f1⟩ := kw_wearOf (d := d + 9) (e := []) (z := zK) (zl := zl) (kv_isS36 []) (by omega) hk8 ho8
        obtain ⟨z2, r2, f2⟩ := kw_mwearOf (d := d + 7) (z := zM) (zl := zlM) hI.2.1.2 (by rw [← em, m3]; exact kw_okm_of (by omega)) hk8 ho8 (kw_okr_b (hI.2.2.2.1 k)) (kw_okr_b (hI.2.2.2.1 o))
        rw [ek, em] at r1
        refine kw_A_ (r := kw_wear (kw_lf zK (zK 7 3)) (km zM k) (km zM o) (zM 16 104)) h ?_ ?_ (kw_XK_L f1) (kw_XM_L f2)
        · simp only [kv_e91_0, kv_e91_1, kv_e91_2, kv_e91_3, kv_e91_6, kv_e91_9, kv_e91_10, kv_e91_13, kv_e91_14, kv_e91_17, kv_e91_18, kv_e91_19, kv_e91_22, kv_e91_25, kv_e91_26, kv_o10, not_false_eq_true, not_true, if_true, if_false, kv_then_s, kv_then_v, kv_then_n, List.cons_append, List.nil_append, kv_Ci, kv_Cr, kv_Cn, kv_Cu, kv_C0, kv_catc, kv_gCi, kv_gCl, kv_gCr, kv_nb0, kv_nb1, kv_nbi, kv_nb01, Nat.reduceAdd, Nat.reduceLeDiff, kw_KareTwo hKK hk ho, ek, c1, and_self, kv_isS36, r1]
        · simp only [kv_e209_0, kv_e209_1, kv_e209_2, kv_e209_3, kv_e209_6, kv_e209_9, kv_e209_10, kv_e209_11, kv_e209_12, kv_e209_15, kv_e209_18, kv_e209_19, kv_o10, not_false_eq_true, not_true, if_true, if_false, kv_then_s, kv_then_v, kv_then_n, List.cons_append, List.nil_append, kv_Ci, kv_Cr, kv_Cn, kv_Cu, kv_C0, kv_catc, kv_gCi, kv_gCl, kv_gCr, kv_nb0, kv_nb1, kv_nbi, kv_nb01, Nat.reduceAdd, Nat.reduceLeDiff, kw_areTwo hI.1.1 hk ho, c1, and_self, r2]
      · refine kw_A0 (r := -1) h ?_ ?_
        · simp only [kv_e91_0, kv_e91_1, kv_e91_2, kv_e91_3, kv_e91_6, kv_e91_9, kv_e91_10, kv_e91_13, kv_e91_14, kv_e91_17, kv_e91_18, kv_e91_19, kv_e91_22, kv_e91_25, kv_e91_26, kv_o10, not_false_eq_true, not_true, if_true, if_false, kv_then_s, kv_then_v, kv_then_n, List.cons_append, List.nil_append, kv_Ci, kv_Cr, kv_Cn, kv_Cu, kv_C0, kv_catc, kv_gCi, kv_gCl, kv_gCr, kv_nb0, kv_nb1, kv_nbi, kv_nb01, Nat.reduceAdd, Nat.reduceLeDiff, kw_KareTwo hKK hk ho, ek, c1, eq_self]
        · simp only [kv_e209_0, kv_e209_1, kv_e209_2, kv_e209_3, kv_e209_6, kv_e209_9, kv_e209_10, kv_e209_11, kv_e209_12, kv_e209_15, kv_e209_18, kv_e209_19, kv_o10, not_false_eq_true, not_true, if_true, if_false, kv_then_s, kv_then_v, kv_then_n, List.cons_append, List.nil_append, kv_Ci, kv_Cr, kv_Cn, kv_Cu, kv_C0, kv_catc, kv_gCi, kv_gCl, kv_gCr, kv_nb0, kv_nb1, kv_nbi, kv_nb01, Nat.reduceAdd, Nat.reduceLeDiff, kw_areTwo hI.1.1 hk ho, c1, eq_self]
end
