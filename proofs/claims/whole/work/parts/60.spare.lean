/-! splice, spare, highest -/
section
variable {d n B W : Nat} {e : List kv_E} {z zK zM zK' zM' : Nat → Nat → Int32} {zl zlM : Nat → Nat → Int64}
theorem kw_f_spare (h : kw_R n B W zK zM) (x : Int32) : kw_A (d + 12) 131 265 [some (.ref 0), some (.int x), none, none] [some (.ref 0), some (.int x), none, none] zK zM zl zlM := by
  have hKK := kw_R_KK h
  have hI := kw_R_I h
  have h8 := hI.1.1.1.2
  have ek := kw_R_km h.2.1.1
  have hF := h.1.2.2.1
  have ez : (zM 0 24 = 0) = (n = 0) := by
    rw [hF.1.2.1, show (0 : Int32) = Int32.ofNat 0 from rfl, kv_neq (by omega) (by omega)]
  by_cases c : n = 0
  · replace c := eq_true c
    refine kw_A0 (r := -1) h ?_ ?_
    · simp only [kv_e131_0, kv_e131_1, kv_e131_4, kv_e131_7, kv_e131_8, kv_e131_9, kv_e131_12, kv_e131_15, kv_e131_16, kv_e131_17, kv_e131_18, kv_e131_19, kv_e131_20, kv_e131_22, kv_e131_23, kv_e131_26, kv_e131_29, kv_e131_32, kv_e131_33, kv_e131_36, kv_e131_37, kv_e131_40, kv_e131_43, kv_e131_44, kv_e131_47, kv_e131_48, kv_e131_50, kv_e131_53, kv_e131_54, kv_e131_57, kv_e131_58, kv_e131_59, kv_e131_62, kv_e131_63, kv_e131_66, kv_e131_67, kv_e131_68, kv_e131_71, kv_e131_74, kv_e131_75, kv_o10, not_false_eq_true, not_true, if_true, if_false, kv_then_s, kv_then_v, kv_then_n, List.cons_append, List.nil_append, kv_Ci, kv_Cr, kv_Cn, kv_Cu, kv_C0, kv_catc, kv_gCi, kv_gCl, kv_gCr, kv_nb0, kv_nb1, kv_nbi, kv_nb01, Nat.reduceAdd, Nat.reduceLeDiff, kw_KhF h, c, eq_self]
    · simp only [kv_e265_0, kv_e265_1, kv_e265_4, kv_e265_7, kv_e265_8, kv_e265_9, kv_e265_10, kv_e265_13, kv_e265_16, kv_e265_17, kv_e265_18, kv_e265_19, kv_e265_20, kv_e265_21, kv_e265_23, kv_e265_24, kv_e265_27, kv_e265_30, kv_e265_31, kv_e265_32, kv_e265_33, kv_e265_36, kv_e265_39, kv_e265_40, kv_e265_41, kv_e265_43, kv_e265_46, kv_e265_47, kv_e265_50, kv_e265_51, kv_e265_52, kv_e265_53, kv_e265_56, kv_e265_57, kv_e265_58, kv_e265_60, kv_e265_63, kv_e265_64, kv_e265_67, kv_e265_68, kv_e265_69, kv_e265_70, kv_e265_73, kv_e265_76, kv_e265_77, kv_o10, not_false_eq_true, not_true, if_true, if_false, kv_then_s, kv_then_v, kv_then_n, List.cons_append, List.nil_append, kv_Ci, kv_Cr, kv_Cn, kv_Cu, kv_C0, kv_catc, kv_gCi, kv_gCl, kv_gCr, kv_nb0, kv_nb1, kv_nbi, kv_nb01, Nat.reduceAdd, Nat.reduceLeDiff, ez, c, eq_self]
  · by_cases c1 : 0 ≤ x ∧ x ≤ 4
    · have hlK := kv_up (fun k => kv_Rn (d + 12) 131 21 [some (.ref 0), some (.int x), some (.int (kv_sm k (fun k => if ¬ km zM k 11 = 0 ∧ km zM k 7 = x then km zM k 2 - km zM k 3 else 0))), some (.int (Int32.ofNat k))] [] (kv_h [] zK zl) = some (some (.int (kv_sm n (fun k => if ¬ km zM k 11 = 0 ∧ km zM k 7 = x then km zM k 2 - km zM k 3 else 0))), kv_h [] zK zl)) n ?_ ?_
      · have hlM := kv_up (fun k => kv_Rn (d + 12) 265 22 [some (.ref 0), some (.int x), some (.int (kv_sm k (fun k => if ¬ km zM k 11 = 0 ∧ km zM k 7 = x then km zM k 2 - km zM k 3 else 0))), some (.int (Int32.ofNat k))] [] (kv_m zM zlM) = some (some (.int (kv_sm n (fun k => if ¬ km zM k 11 = 0 ∧ km zM k 7 = x then km zM k 2 - km zM k 3 else 0))), kv_m zM zlM)) n ?_ ?_
        · refine kw_A0 (r := kv_sm n (fun k => if ¬ km zM k 11 = 0 ∧ km zM k 7 = x then km zM k 2 - km zM k 3 else 0)) h ?_ ?_
          · simp only [kv_e131_0, kv_e131_1, kv_e131_4, kv_e131_7, kv_e131_8, kv_e131_9, kv_e131_12, kv_e131_17, kv_e131_18, kv_e131_19, kv_e131_20, kv_o10, not_false_eq_true, not_true, if_true, if_false, kv_then_s, kv_then_v, kv_then_n, List.cons_append, List.nil_append, kv_Ci, kv_Cr, kv_Cn, kv_Cu, kv_C0, kv_catc, kv_gCi, kv_gCl, kv_gCr, kv_nb0, kv_nb1, kv_nbi, kv_nb01, Nat.reduceAdd, Nat.reduceLeDiff, kw_KhF h, c, kw_isOut, c1, and_self, eq_self]
            exact hlK
          · simp only [kv_e265_0, kv_e265_1, kv_e265_4, kv_e265_7, kv_e265_8, kv_e265_9, kv_e265_10, kv_e265_13, kv_e265_18, kv_e265_19, kv_e265_20, kv_e265_21, kv_o10, not_false_eq_true, not_true, if_true, if_false, kv_then_s, kv_then_v, kv_then_n, List.cons_append, List.nil_append, kv_Ci, kv_Cr, kv_Cn, kv_Cu, kv_C0, kv_catc, kv_gCi, kv_gCl, kv_gCr, kv_nb0, kv_nb1, kv_nbi, kv_nb01, Nat.reduceAdd, Nat.reduceLeDiff, ez, c, kw_in, c1, and_self]
            exact hlM
        · rw [kv_e265_22]
          simp only [kv_e265_0, kv_e265_1, kv_e265_4, kv_e265_7, kv_e265_8, kv_e265_9, kv_e265_10, kv_e265_13, kv_e265_16, kv_e265_17, kv_e265_18, kv_e265_19, kv_e265_20, kv_e265_21, kv_e265_23, kv_e265_24, kv_e265_27, kv_e265_30, kv_e265_31, kv_e265_32, kv_e265_33, kv_e265_36, kv_e265_39, kv_e265_40, kv_e265_41, kv_e265_43, kv_e265_46, kv_e265_47, kv_e265_50, kv_e265_51, kv_e265_52, kv_e265_53, kv_e265_56, kv_e265_57, kv_e265_58, kv_e265_60, kv_e265_63, kv_e265_64, kv_e265_67, kv_e265_68, kv_e265_69, kv_e265_70, kv_e265_73, kv_e265_76, kv_e265_77, kv_o10, not_false_eq_true, not_true, if_true, if_false, kv_then_s, kv_then_v, kv_then_n, List.cons_append, List.nil_append, kv_Ci, kv_Cr, kv_Cn, kv_Cu, kv_C0, kv_catc, kv_gCi, kv_gCl, kv_gCr, kv_nb0, kv_nb1, kv_nbi, kv_nb01, Nat.reduceAdd, Nat.reduceLeDiff, hI.1.1.1.1, kw_ln2 h8 (show n < 2147483648 by omega), Nat.le_refl]
        · intro k hk ih
          have hk2 : k < 2147483648 := by omega
          have hk8 : k < 8 := by omega
          rw [kv_sm_s] at ih
          rw [kv_e265_22]
          by_cases c2 : km zM k 11 = 0
          · rw [if_neg (show ¬ (¬ km zM k 11 = 0 ∧ km zM k 7 = x) from fun q => q.1 c2), Int32.add_zero] at ih
            simp only [kv_e265_0, kv_e265_1, kv_e265_4, kv_e265_7, kv_e265_8, kv_e265_9, kv_e265_10, kv_e265_13, kv_e265_16, kv_e265_17, kv_e265_18, kv_e265_19, kv_e265_20, kv_e265_21, kv_e265_23, kv_e265_24, kv_e265_27, kv_e265_30, kv_e265_31, kv_e265_32, kv_e265_33, kv_e265_36, kv_e265_39, kv_e265_40, kv_e265_41, kv_e265_43, kv_e265_46, kv_e265_47, kv_e265_50, kv_e265_51, kv_e265_52, kv_e265_53, kv_e265_56, kv_e265_57, kv_e265_58, kv_e265_60, kv_e265_63, kv_e265_64, kv_e265_67, kv_e265_68, kv_e265_69, kv_e265_70, kv_e265_73, kv_e265_76, kv_e265_77, kv_o10, not_false_eq_true, not_true, if_true, if_false, kv_then_s, kv_then_v, kv_then_n, List.cons_append, List.nil_append, kv_Ci, kv_Cr, kv_Cn, kv_Cu, kv_C0, kv_catc, kv_gCi, kv_gCl, kv_gCr, kv_nb0, kv_nb1, kv_nbi, kv_nb01, Nat.reduceAdd, Nat.reduceLeDiff, hI.1.1.1.1, kw_ln2 h8 hk2, eq_false (show ¬ n ≤ k by omega), kw_flies hI.1.1 hk2, c2, eq_self, Int32.add_zero, kv_suc]
            exact ih
          · by_cases c3 : km zM k 7 = x
            · rw [if_pos (show ¬ km zM k 11 = 0 ∧ km zM k 7 = x from ⟨c2, c3⟩)] at ih
              simp only [kv_e265_0, kv_e265_1, kv_e265_4, kv_e265_7, kv_e265_8, kv_e265_9, kv_e265_10, kv_e265_13, kv_e265_16, kv_e265_17, kv_e265_18, kv_e265_19, kv_e265_20, kv_e265_21, kv_e265_23, kv_e265_24, kv_e265_27, kv_e265_30, kv_e265_31, kv_e265_32, kv_e265_33, kv_e265_36, kv_e265_39, kv_e265_40, kv_e265_41, kv_e265_43, kv_e265_46, kv_e265_47, kv_e265_50, kv_e265_51, kv_e265_52, kv_e265_53, kv_e265_56, kv_e265_57, kv_e265_58, kv_e265_60, kv_e265_63, kv_e265_64, kv_e265_67, kv_e265_68, kv_e265_69, kv_e265_70, kv_e265_73, kv_e265_76, kv_e265_77, kv_o10, not_false_eq_true, not_true, if_true, if_false, kv_then_s, kv_then_v, kv_then_n, List.cons_append, List.nil_append, kv_Ci, kv_Cr, kv_Cn, kv_Cu, kv_C0, kv_catc, kv_gCi, kv_gCl, kv_gCr, kv_nb0, kv_nb1, kv_nbi, kv_nb01, Nat.reduceAdd, Nat.reduceLeDiff, hI.1.1.1.1, kw_ln2 h8 hk2, eq_false (show ¬ n ≤ k by omega), kw_flies hI.1.1 hk2, c2, kw_of6 hk8, kw_of2 hk8, kw_of8 hk8, c3, kv_suc]
              exact ih
            · rw [if_neg (show ¬ (¬ km zM k 11 = 0 ∧ km zM k 7 = x) from fun q => c3 q.2), Int32.add_zero] at ih
              simp only [kv_e265_0, kv_e265_1, kv_e265_4, kv_e265_7, kv_e265_8, kv_e265_9, kv_e265_10, kv_e265_13, kv_e265_16, kv_e265_17, kv_e265_18, kv_e265_19, kv_e265_20, kv_e265_21, kv_e265_23, kv_e265_24, kv_e265_27, kv_e265_30, kv_e265_31, kv_e265_32, kv_e265_33, kv_e265_36, kv_e265_39, kv_e265_40, kv_e265_41, kv_e265_43, kv_e265_46, kv_e265_47, kv_e265_50, kv_e265_51, kv_e265_52, kv_e265_53, kv_e265_56, kv_e265_57, kv_e265_58, kv_e265_60, kv_e265_63, kv_e265_64, kv_e265_67, kv_e265_68, kv_e265_69, kv_e265_70, kv_e265_73, kv_e265_76, kv_e265_77, kv_o10, not_false_eq_true, not_true, if_true, if_false, kv_then_s, kv_then_v, kv_then_n, List.cons_append, List.nil_append, kv_Ci, kv_Cr, kv_Cn, kv_Cu, kv_C0, kv_catc, kv_gCi, kv_gCl, kv_gCr, kv_nb0, kv_nb1, kv_nbi, kv_nb01, Nat.reduceAdd, Nat.reduceLeDiff, hI.1.1.1.1, kw_ln2 h8 hk2, eq_false (show ¬ n ≤ k by omega), kw_flies hI.1.1 hk2, c2, kw_of6 hk8, c3, Int32.add_zero, kv_suc]
              exact ih
      · rw [kv_e131_21]
        simp only [kv_e131_0, kv_e131_1, kv_e131_4, kv_e131_7, kv_e131_8, kv_e131_9, kv_e131_12, kv_e131_15, kv_e131_16, kv_e131_17, kv_e131_18, kv_e131_19, kv_e131_20, kv_e131_22, kv_e131_23, kv_e131_26, kv_e131_29, kv_e131_32, kv_e131_33, kv_e131_36, kv_e131_37, kv_e131_40, kv_e131_43, kv_e131_44, kv_e131_47, kv_e131_48, kv_e131_50, kv_e131_53, kv_e131_54, kv_e131_57, kv_e131_58, kv_e131_59, kv_e131_62, kv_e131_63, kv_e131_66, kv_e131_67, kv_e131_68, kv_e131_71, kv_e131_74, kv_e131_75, kv_o10, not_false_eq_true, not_true, if_true, if_false, kv_then_s, kv_then_v, kv_then_n, List.cons_append, List.nil_append, kv_Ci, kv_Cr, kv_Cn, kv_Cu, kv_C0, kv_catc, kv_gCi, kv_gCl, kv_gCr, kv_nb0, kv_nb1, kv_nbi, kv_nb01, Nat.reduceAdd, Nat.reduceLeDiff, kv_isF3, hKK.1.1, kw_ln2 h8 (show n < 2147483648 by omega), Nat.le_refl]
      · intro k hk ih
        have hk2 : k < 2147483648 := by omega
        have hk8 : k < 8 := by omega
        rw [kv_sm_s] at ih
        rw [kv_e131_21]
        by_cases c2 : km zM k 11 = 0
        · rw [if_neg (show ¬ (¬ km zM k 11 = 0 ∧ km zM k 7 = x) from fun q => q.1 c2), Int32.add_zero] at ih
          simp only [kv_e131_0, kv_e131_1, kv_e131_4, kv_e131_7, kv_e131_8, kv_e131_9, kv_e131_12, kv_e131_15, kv_e131_16, kv_e131_17, kv_e131_18, kv_e131_19, kv_e131_20, kv_e131_22, kv_e131_23, kv_e131_26, kv_e131_29, kv_e131_32, kv_e131_33, kv_e131_36, kv_e131_37, kv_e131_40, kv_e131_43, kv_e131_44, kv_e131_47, kv_e131_48, kv_e131_50, kv_e131_53, kv_e131_54, kv_e131_57, kv_e131_58, kv_e131_59, kv_e131_62, kv_e131_63, kv_e131_66, kv_e131_67, kv_e131_68, kv_e131_71, kv_e131_74, kv_e131_75, kv_o10, not_false_eq_true, not_true, if_true, if_false, kv_then_s, kv_then_v, kv_then_n, List.cons_append, List.nil_append, kv_Ci, kv_Cr, kv_Cn, kv_Cu, kv_C0, kv_catc, kv_gCi, kv_gCl, kv_gCr, kv_nb0, kv_nb1, kv_nbi, kv_nb01, Nat.reduceAdd, Nat.reduceLeDiff, kv_isF3, hKK.1.1, kw_ln2 h8 hk2, eq_false (show ¬ n ≤ k by omega), kv_isS36, kv_flies, kv_g11 zK 36 hk8, ek, c2, eq_self, kv_suc]
          exact ih
        · by_cases c3 : km zM k 7 = x
          · rw [if_pos (show ¬ km zM k 11 = 0 ∧ km zM k 7 = x from ⟨c2, c3⟩)] at ih
            simp only [kv_e131_0, kv_e131_1, kv_e131_4, kv_e131_7, kv_e131_8, kv_e131_9, kv_e131_12, kv_e131_15, kv_e131_16, kv_e131_17, kv_e131_18, kv_e131_19, kv_e131_20, kv_e131_22, kv_e131_23, kv_e131_26, kv_e131_29, kv_e131_32, kv_e131_33, kv_e131_36, kv_e131_37, kv_e131_40, kv_e131_43, kv_e131_44, kv_e131_47, kv_e131_48, kv_e131_50, kv_e131_53, kv_e131_54, kv_e131_57, kv_e131_58, kv_e131_59, kv_e131_62, kv_e131_63, kv_e131_66, kv_e131_67, kv_e131_68, kv_e131_71, kv_e131_74, kv_e131_75, kv_o10, not_false_eq_true, not_true, if_true, if_false, kv_then_s, kv_then_v, kv_then_n, List.cons_append, List.nil_append, kv_Ci, kv_Cr, kv_Cn, kv_Cu, kv_C0, kv_catc, kv_gCi, kv_gCl, kv_gCr, kv_nb0, kv_nb1, kv_nbi, kv_nb01, Nat.reduceAdd, Nat.reduceLeDiff, kv_isF3, hKK.1.1, kw_ln2 h8 hk2, eq_false (show ¬ n ≤ k by omega), kv_isS36, kv_flies, kv_get, kv_unpaid, kv_g11 zK 36 hk8, kv_g7 zK 36 hk8, kv_g2 zK 36 hk8, kv_g3 zK 36 hk8, ek, c2, c3, kv_suc]
            exact ih
          · rw [if_neg (show ¬ (¬ km zM k 11 = 0 ∧ km zM k 7 = x) from fun q => c3 q.2), Int32.add_zero] at ih
            simp only [kv_e131_0, kv_e131_1, kv_e131_4, kv_e131_7, kv_e131_8, kv_e131_9, kv_e131_12, kv_e131_15, kv_e131_16, kv_e131_17, kv_e131_18, kv_e131_19, kv_e131_20, kv_e131_22, kv_e131_23, kv_e131_26, kv_e131_29, kv_e131_32, kv_e131_33, kv_e131_36, kv_e131_37, kv_e131_40, kv_e131_43, kv_e131_44, kv_e131_47, kv_e131_48, kv_e131_50, kv_e131_53, kv_e131_54, kv_e131_57, kv_e131_58, kv_e131_59, kv_e131_62, kv_e131_63, kv_e131_66, kv_e131_67, kv_e131_68, kv_e131_71, kv_e131_74, kv_e131_75, kv_o10, not_false_eq_true, not_true, if_true, if_false, kv_then_s, kv_then_v, kv_then_n, List.cons_append, List.nil_append, kv_Ci, kv_Cr, kv_Cn, kv_Cu, kv_C0, kv_catc, kv_gCi, kv_gCl, kv_gCr, kv_nb0, kv_nb1, kv_nbi, kv_nb01, Nat.reduceAdd, Nat.reduceLeDiff, kv_isF3, hKK.1.1, kw_ln2 h8 hk2, eq_false (show ¬ n ≤ k by omega), kv_isS36, kv_flies, kv_get, kv_g11 zK 36 hk8, kv_g7 zK 36 hk8, ek, c2, c3, kv_suc]
            exact ih
    · refine kw_A0 (r := -1) h ?_ ?_
      · simp only [kv_e131_0, kv_e131_1, kv_e131_4, kv_e131_7, kv_e131_8, kv_e131_9, kv_e131_12, kv_e131_15, kv_e131_16, kv_e131_17, kv_e131_18, kv_e131_19, kv_e131_20, kv_e131_22, kv_e131_23, kv_e131_26, kv_e131_29, kv_e131_32, kv_e131_33, kv_e131_36, kv_e131_37, kv_e131_40, kv_e131_43, kv_e131_44, kv_e131_47, kv_e131_48, kv_e131_50, kv_e131_53, kv_e131_54, kv_e131_57, kv_e131_58, kv_e131_59, kv_e131_62, kv_e131_63, kv_e131_66, kv_e131_67, kv_e131_68, kv_e131_71, kv_e131_74, kv_e131_75, kv_o10, not_false_eq_true, not_true, if_true, if_false, kv_then_s, kv_then_v, kv_then_n, List.cons_append, List.nil_append, kv_Ci, kv_Cr, kv_Cn, kv_Cu, kv_C0, kv_catc, kv_gCi, kv_gCl, kv_gCr, kv_nb0, kv_nb1, kv_nbi, kv_nb01, Nat.reduceAdd, Nat.reduceLeDiff, kw_KhF h, c, kw_isOut, c1, eq_self]
      · simp only [kv_e265_0, kv_e265_1, kv_e265_4, kv_e265_7, kv_e265_8, kv_e265_9, kv_e265_10, kv_e265_13, kv_e265_16, kv_e265_17, kv_e265_18, kv_e265_19, kv_e265_20, kv_e265_21, kv_e265_23, kv_e265_24, kv_e265_27, kv_e265_30, kv_e265_31, kv_e265_32, kv_e265_33, kv_e265_36, kv_e265_39, kv_e265_40, kv_e265_41, kv_e265_43, kv_e265_46, kv_e265_47, kv_e265_50, kv_e265_51, kv_e265_52, kv_e265_53, kv_e265_56, kv_e265_57, kv_e265_58, kv_e265_60, kv_e265_63, kv_e265_64, kv_e265_67, kv_e265_68, kv_e265_69, kv_e265_70, kv_e265_73, kv_e265_76, kv_e265_77, kv_o10, not_false_eq_true, not_true, if_true, if_false, kv_then_s, kv_then_v, kv_then_n, List.cons_append, List.nil_append, kv_Ci, kv_Cr, kv_Cn, kv_Cu, kv_C0, kv_catc, kv_gCi, kv_gCl, kv_gCr, kv_nb0, kv_nb1, kv_nbi, kv_nb01, Nat.reduceAdd, Nat.reduceLeDiff, ez, c, kw_in, c1, eq_self]
noncomputable def kw_hb (c : Nat → Nat → Int32) : Nat → Option Nat
  | 0 => none
  | k + 1 => match kw_hb c k with
    | none => if c k 11 = 0 then none else some k
    | some j => if ¬ c k 11 = 0 ∧ c j 4 < c k 4 then some k else some j
theorem kw_hb_s (c : Nat → Nat → Int32) (k : Nat) : kw_hb c (k + 1) = match kw_hb c k with
    | none => if c k 11 = 0 then none else some k
    | some j => if ¬ c k 11 = 0 ∧ c j 4 < c k 4 then some k else some j := rfl
theorem kw_hb_lt {c : Nat → Nat → Int32} : ∀ {k j : Nat}, kw_hb c k = some j → j < k := by
  intro k
  induction k with
  | zero => intro j h; cases h
  | succ k ih =>
    intro j h
    unfold kw_hb at h
    cases hb : kw_hb c k with
    | none =>
      rw [hb] at h
      dsimp only at h
      split at h
      · cases h
      · cases h; omega
    | some i =>
      rw [hb] at h
      dsimp only at h
      have := ih hb
      split at h
      · cases h; omega
      · cases h; omega
theorem kw_of_m1 {j : Nat} (h : j < 2147483648) : (Int32.ofNat j = -1) = False := by
  refine eq_false (fun q => ?_)
  have := kv_nge0 (a := j) h
  rw [q] at this
  exact this (by decide)
theorem kw_f_highest (h : kw_R n B W zK zM) : kw_A (d + 12) 133 267 [some (.ref 0), none, none] [some (.ref 0), none, none] zK zM zl zlM := by
  have hKK := kw_R_KK h
  have hI := kw_R_I h
  have h8 := hI.1.1.1.2
  have ek := kw_R_km h.2.1.1
  have hlK := kv_up (fun k => kv_Rn (d + 12) 133 4 [some (.ref 0), some (.int (kw_ob (-1) (kw_hb (km zM) k))), some (.int (Int32.ofNat k))] [] (kv_h [] zK zl) = some (some (.int (kw_ob (-1) (kw_hb (km zM) n))), kv_h [] zK zl)) n ?_ ?_
  · have hlM := kv_up (fun k => kv_Rn (d + 12) 267 4 [some (.ref 0), some (.int (kw_ob (-1) (kw_hb (km zM) k))), some (.int (Int32.ofNat k))] [] (kv_m zM zlM) = some (some (.int (kw_ob (-1) (kw_hb (km zM) n))), kv_m zM zlM)) n ?_ ?_
    · refine kw_A0 (r := kw_ob (-1) (kw_hb (km zM) n)) h ?_ ?_
      · simp only [kv_e133_0, kv_e133_1, kv_e133_2, kv_e133_3, kv_o10, not_false_eq_true, not_true, if_true, if_false, kv_then_s, kv_then_v, kv_then_n, List.cons_append, List.nil_append, kv_Ci, kv_Cr, kv_Cn, kv_Cu, kv_C0, kv_catc, kv_gCi, kv_gCl, kv_gCr, kv_nb0, kv_nb1, kv_nbi, kv_nb01, Nat.reduceAdd, Nat.reduceLeDiff]
        exact hlK
      · simp only [kv_e267_0, kv_e267_1, kv_e267_2, kv_e267_3, kv_o10, not_false_eq_true, not_true, if_true, if_false, kv_then_s, kv_then_v, kv_then_n, List.cons_append, List.nil_append, kv_Ci, kv_Cr, kv_Cn, kv_Cu, kv_C0, kv_catc, kv_gCi, kv_gCl, kv_gCr, kv_nb0, kv_nb1, kv_nbi, kv_nb01, Nat.reduceAdd, Nat.reduceLeDiff]
        exact hlM
    · rw [kv_e267_4]
      simp only [kv_e267_0, kv_e267_1, kv_e267_2, kv_e267_3, kv_e267_5, kv_e267_6, kv_e267_9, kv_e267_12, kv_e267_13, kv_e267_14, kv_e267_17, kv_e267_20, kv_e267_21, kv_e267_22, kv_e267_25, kv_e267_26, kv_e267_27, kv_e267_28, kv_e267_31, kv_e267_32, kv_e267_33, kv_e267_34, kv_e267_37, kv_e267_40, kv_e267_41, kv_e267_44, kv_e267_45, kv_e267_46, kv_e267_49, kv_e267_52, kv_e267_53, kv_o10, not_false_eq_true, not_true, if_true, if_false, kv_then_s, kv_then_v, kv_then_n, List.cons_append, List.nil_append, kv_Ci, kv_Cr, kv_Cn, kv_Cu, kv_C0, kv_catc, kv_gCi, kv_gCl, kv_gCr, kv_nb0, kv_nb1, kv_nbi, kv_nb01, Nat.reduceAdd, Nat.reduceLeDiff, hI.1.1.1.1, kw_ln2 h8 (show n < 2147483648 by omega), Nat.le_refl]
    · intro k hk ih
      have hk2 : k < 2147483648 := by omega
      have hk8 : k < 8 := by omega
      rw [kv_e267_4]
      rw [kw_hb_s] at ih
      cases hb : kw_hb (km zM) k with
      | none =>
        rw [hb] at ih
        dsimp only at ih
        by_cases c2 : km zM k 11 = 0
        · rw [if_pos c2] at ih
          simp only [kv_e267_0, kv_e267_1, kv_e267_2, kv_e267_3, kv_e267_5, kv_e267_6, kv_e267_9, kv_e267_12, kv_e267_13, kv_e267_14, kv_e267_17, kv_e267_20, kv_e267_21, kv_e267_22, kv_e267_25, kv_e267_26, kv_e267_27, kv_e267_28, kv_e267_31, kv_e267_32, kv_e267_33, kv_e267_34, kv_e267_37, kv_e267_40, kv_e267_41, kv_e267_44, kv_e267_45, kv_e267_46, kv_e267_49, kv_e267_52, kv_e267_53, kv_o10, not_false_eq_true, not_true, if_true, if_false, kv_then_s, kv_then_v, kv_then_n, List.cons_append, List.nil_append, kv_Ci, kv_Cr, kv_Cn, kv_Cu, kv_C0, kv_catc, kv_gCi, kv_gCl, kv_gCr, kv_nb0, kv_nb1, kv_nbi, kv_nb01, Nat.reduceAdd, Nat.reduceLeDiff, hI.1.1.1.1, kw_ln2 h8 hk2, eq_false (show ¬ n ≤ k by omega), kw_flies hI.1.1 hk2, c2, eq_self, kv_suc]
          exact ih
        · rw [if_neg c2] at ih
          simp only [kv_e267_0, kv_e267_1, kv_e267_2, kv_e267_3, kv_e267_5, kv_e267_6, kv_e267_9, kv_e267_12, kv_e267_13, kv_e267_14, kv_e267_17, kv_e267_20, kv_e267_21, kv_e267_22, kv_e267_25, kv_e267_26, kv_e267_27, kv_e267_28, kv_e267_31, kv_e267_32, kv_e267_33, kv_e267_34, kv_e267_37, kv_e267_40, kv_e267_41, kv_e267_44, kv_e267_45, kv_e267_46, kv_e267_49, kv_e267_52, kv_e267_53, kv_o10, not_false_eq_true, not_true, if_true, if_false, kv_then_s, kv_then_v, kv_then_n, List.cons_append, List.nil_append, kv_Ci, kv_Cr, kv_Cn, kv_Cu, kv_C0, kv_catc, kv_gCi, kv_gCl, kv_gCr, kv_nb0, kv_nb1, kv_nbi, kv_nb01, Nat.reduceAdd, Nat.reduceLeDiff, hI.1.1.1.1, kw_ln2 h8 hk2, eq_false (show ¬ n ≤ k by omega), kw_flies hI.1.1 hk2, c2, kw_ob, eq_self, kv_suc]
          exact ih
      | some j =>
        have hj := kw_hb_lt hb
        have hj8 : j < 8 := by omega
        rw [hb] at ih
        dsimp only at ih
        by_cases c2 : km zM k 11 = 0
        · rw [if_neg (show ¬ (¬ km zM k 11 = 0 ∧ km zM j 4 < km zM k 4) from fun q => q.1 c2)] at ih
          simp only [kv_e267_0, kv_e267_1, kv_e267_2, kv_e267_3, kv_e267_5, kv_e267_6, kv_e267_9, kv_e267_12, kv_e267_13, kv_e267_14, kv_e267_17, kv_e267_20, kv_e267_21, kv_e267_22, kv_e267_25, kv_e267_26, kv_e267_27, kv_e267_28, kv_e267_31, kv_e267_32, kv_e267_33, kv_e267_34, kv_e267_37, kv_e267_40, kv_e267_41, kv_e267_44, kv_e267_45, kv_e267_46, kv_e267_49, kv_e267_52, kv_e267_53, kv_o10, not_false_eq_true, not_true, if_true, if_false, kv_then_s, kv_then_v, kv_then_n, List.cons_append, List.nil_append, kv_Ci, kv_Cr, kv_Cn, kv_Cu, kv_C0, kv_catc, kv_gCi, kv_gCl, kv_gCr, kv_nb0, kv_nb1, kv_nbi, kv_nb01, Nat.reduceAdd, Nat.reduceLeDiff, hI.1.1.1.1, kw_ln2 h8 hk2, eq_false (show ¬ n ≤ k by omega), kw_flies hI.1.1 hk2, c2, eq_self, kv_suc]
          exact ih
        · by_cases c3 : km zM j 4 < km zM k 4
          · have c4 : ¬ km zM k 4 ≤ km zM j 4 := Int32.not_le.mpr c3
            rw [if_pos (show ¬ km zM k 11 = 0 ∧ km zM j 4 < km zM k 4 from ⟨c2, c3⟩)] at ih
            simp only [kv_e267_0, kv_e267_1, kv_e267_2, kv_e267_3, kv_e267_5, kv_e267_6, kv_e267_9, kv_e267_12, kv_e267_13, kv_e267_14, kv_e267_17, kv_e267_20, kv_e267_21, kv_e267_22, kv_e267_25, kv_e267_26, kv_e267_27, kv_e267_28, kv_e267_31, kv_e267_32, kv_e267_33, kv_e267_34, kv_e267_37, kv_e267_40, kv_e267_41, kv_e267_44, kv_e267_45, kv_e267_46, kv_e267_49, kv_e267_52, kv_e267_53, kv_o10, not_false_eq_true, not_true, if_true, if_false, kv_then_s, kv_then_v, kv_then_n, List.cons_append, List.nil_append, kv_Ci, kv_Cr, kv_Cn, kv_Cu, kv_C0, kv_catc, kv_gCi, kv_gCl, kv_gCr, kv_nb0, kv_nb1, kv_nbi, kv_nb01, Nat.reduceAdd, Nat.reduceLeDiff, hI.1.1.1.1, kw_ln2 h8 hk2, eq_false (show ¬ n ≤ k by omega), kw_flies hI.1.1 hk2, c2, kw_ob, kw_of_m1 (show j < 2147483648 by omega), kw_of3 hk8, kw_of3 hj8, c4, kv_suc]
            exact ih
          · have c4 : km zM k 4 ≤ km zM j 4 := Int32.not_lt.mp c3
            rw [if_neg (show ¬ (¬ km zM k 11 = 0 ∧ km zM j 4 < km zM k 4) from fun q => c3 q.2)] at ih
            simp only [kv_e267_0, kv_e267_1, kv_e267_2, kv_e267_3, kv_e267_5, kv_e267_6, kv_e267_9, kv_e267_12, kv_e267_13, kv_e267_14, kv_e267_17, kv_e267_20, kv_e267_21, kv_e267_22, kv_e267_25, kv_e267_26, kv_e267_27, kv_e267_28, kv_e267_31, kv_e267_32, kv_e267_33, kv_e267_34, kv_e267_37, kv_e267_40, kv_e267_41, kv_e267_44, kv_e267_45, kv_e267_46, kv_e267_49, kv_e267_52, kv_e267_53, kv_o10, not_false_eq_true, not_true, if_true, if_false, kv_then_s, kv_then_v, kv_then_n, List.cons_append, List.nil_append, kv_Ci, kv_Cr, kv_Cn, kv_Cu, kv_C0, kv_catc, kv_gCi, kv_gCl, kv_gCr, kv_nb0, kv_nb1, kv_nbi, kv_nb01, Nat.reduceAdd, Nat.reduceLeDiff, hI.1.1.1.1, kw_ln2 h8 hk2, eq_false (show ¬ n ≤ k by omega), kw_flies hI.1.1 hk2, c2, kw_ob, kw_of_m1 (show j < 2147483648 by omega), kw_of3 hk8, kw_of3 hj8, c4, kv_suc]
            exact ih
  · rw [kv_e133_4]
    simp only [kv_e133_0, kv_e133_1, kv_e133_2, kv_e133_3, kv_e133_5, kv_e133_6, kv_e133_9, kv_e133_12, kv_e133_15, kv_e133_16, kv_e133_19, kv_e133_20, kv_e133_23, kv_e133_26, kv_e133_27, kv_e133_28, kv_e133_31, kv_e133_32, kv_e133_35, kv_e133_36, kv_e133_37, kv_e133_40, kv_e133_41, kv_e133_44, kv_e133_45, kv_e133_46, kv_e133_49, kv_e133_52, kv_e133_53, kv_e133_54, kv_e133_57, kv_e133_60, kv_e133_61, kv_o10, not_false_eq_true, not_true, if_true, if_false, kv_then_s, kv_then_v, kv_then_n, List.cons_append, List.nil_append, kv_Ci, kv_Cr, kv_Cn, kv_Cu, kv_C0, kv_catc, kv_gCi, kv_gCl, kv_gCr, kv_nb0, kv_nb1, kv_nbi, kv_nb01, Nat.reduceAdd, Nat.reduceLeDiff, kv_isF3, hKK.1.1, kw_ln2 h8 (show n < 2147483648 by omega), Nat.le_refl]
  · intro k hk ih
    have hk2 : k < 2147483648 := by omega
    have hk8 : k < 8 := by omega
    rw [kv_e133_4]
    rw [kw_hb_s] at ih
    cases hb : kw_hb (km zM) k with
    | none =>
      rw [hb] at ih
      dsimp only at ih
      by_cases c2 : km zM k 11 = 0
      · rw [if_pos c2] at ih
        simp only [kv_e133_0, kv_e133_1, kv_e133_2, kv_e133_3, kv_e133_5, kv_e133_6, kv_e133_9, kv_e133_12, kv_e133_15, kv_e133_16, kv_e133_19, kv_e133_20, kv_e133_23, kv_e133_26, kv_e133_27, kv_e133_28, kv_e133_31, kv_e133_32, kv_e133_35, kv_e133_36, kv_e133_37, kv_e133_40, kv_e133_41, kv_e133_44, kv_e133_45, kv_e133_46, kv_e133_49, kv_e133_52, kv_e133_53, kv_e133_54, kv_e133_57, kv_e133_60, kv_e133_61, kv_o10, not_false_eq_true, not_true, if_true, if_false, kv_then_s, kv_then_v, kv_then_n, List.cons_append, List.nil_append, kv_Ci, kv_Cr, kv_Cn, kv_Cu, kv_C0, kv_catc, kv_gCi, kv_gCl, kv_gCr, kv_nb0, kv_nb1, kv_nbi, kv_nb01, Nat.reduceAdd, Nat.reduceLeDiff, kv_isF3, hKK.1.1, kw_ln2 h8 hk2, eq_false (show ¬ n ≤ k by omega), kv_isS36, kv_flies, kv_g11 zK 36 hk8, ek, c2, eq_self, kv_suc]
        exact ih
      · rw [if_neg c2] at ih
        simp only [kv_e133_0, kv_e133_1, kv_e133_2, kv_e133_3, kv_e133_5, kv_e133_6, kv_e133_9, kv_e133_12, kv_e133_15, kv_e133_16, kv_e133_19, kv_e133_20, kv_e133_23, kv_e133_26, kv_e133_27, kv_e133_28, kv_e133_31, kv_e133_32, kv_e133_35, kv_e133_36, kv_e133_37, kv_e133_40, kv_e133_41, kv_e133_44, kv_e133_45, kv_e133_46, kv_e133_49, kv_e133_52, kv_e133_53, kv_e133_54, kv_e133_57, kv_e133_60, kv_e133_61, kv_o10, not_false_eq_true, not_true, if_true, if_false, kv_then_s, kv_then_v, kv_then_n, List.cons_append, List.nil_append, kv_Ci, kv_Cr, kv_Cn, kv_Cu, kv_C0, kv_catc, kv_gCi, kv_gCl, kv_gCr, kv_nb0, kv_nb1, kv_nbi, kv_nb01, Nat.reduceAdd, Nat.reduceLeDiff, kv_isF3, hKK.1.1, kw_ln2 h8 hk2, eq_false (show ¬ n ≤ k by omega), kv_isS36, kv_flies, kv_g11 zK 36 hk8, ek, c2, kw_ob, eq_self, kv_suc]
        exact ih
    | some j =>
      have hj := kw_hb_lt hb
      have hj8 : j < 8 := by omega
      rw [hb] at ih
      dsimp only at ih
      by_cases c2 : km zM k 11 = 0
      · rw [if_neg (show ¬ (¬ km zM k 11 = 0 ∧ km zM j 4 < km zM k 4) from fun q => q.1 c2)] at ih
        simp only [kv_e133_0, kv_e133_1, kv_e133_2, kv_e133_3, kv_e133_5, kv_e133_6, kv_e133_9, kv_e133_12, kv_e133_15, kv_e133_16, kv_e133_19, kv_e133_20, kv_e133_23, kv_e133_26, kv_e133_27, kv_e133_28, kv_e133_31, kv_e133_32, kv_e133_35, kv_e133_36, kv_e133_37, kv_e133_40, kv_e133_41, kv_e133_44, kv_e133_45, kv_e133_46, kv_e133_49, kv_e133_52, kv_e133_53, kv_e133_54, kv_e133_57, kv_e133_60, kv_e133_61, kv_o10, not_false_eq_true, not_true, if_true, if_false, kv_then_s, kv_then_v, kv_then_n, List.cons_append, List.nil_append, kv_Ci, kv_Cr, kv_Cn, kv_Cu, kv_C0, kv_catc, kv_gCi, kv_gCl, kv_gCr, kv_nb0, kv_nb1, kv_nbi, kv_nb01, Nat.reduceAdd, Nat.reduceLeDiff, kv_isF3, hKK.1.1, kw_ln2 h8 hk2, eq_false (show ¬ n ≤ k by omega), kv_isS36, kv_flies, kv_g11 zK 36 hk8, ek, c2, eq_self, kv_suc]
        exact ih
      · by_cases c3 : km zM j 4 < km zM k 4
        · have c4 : ¬ km zM k 4 ≤ km zM j 4 := Int32.not_le.mpr c3
          rw [if_pos (show ¬ km zM k 11 = 0 ∧ km zM j 4 < km zM k 4 from ⟨c2, c3⟩)] at ih
          simp only [kv_e133_0, kv_e133_1, kv_e133_2, kv_e133_3, kv_e133_5, kv_e133_6, kv_e133_9, kv_e133_12, kv_e133_15, kv_e133_16, kv_e133_19, kv_e133_20, kv_e133_23, kv_e133_26, kv_e133_27, kv_e133_28, kv_e133_31, kv_e133_32, kv_e133_35, kv_e133_36, kv_e133_37, kv_e133_40, kv_e133_41, kv_e133_44, kv_e133_45, kv_e133_46, kv_e133_49, kv_e133_52, kv_e133_53, kv_e133_54, kv_e133_57, kv_e133_60, kv_e133_61, kv_o10, not_false_eq_true, not_true, if_true, if_false, kv_then_s, kv_then_v, kv_then_n, List.cons_append, List.nil_append, kv_Ci, kv_Cr, kv_Cn, kv_Cu, kv_C0, kv_catc, kv_gCi, kv_gCl, kv_gCr, kv_nb0, kv_nb1, kv_nbi, kv_nb01, Nat.reduceAdd, Nat.reduceLeDiff, kv_isF3, hKK.1.1, kw_ln2 h8 hk2, eq_false (show ¬ n ≤ k by omega), kv_isS36, kv_flies, kv_get, kv_g11 zK 36 hk8, kv_g4 zK 36 hk8, kv_g4 zK 36 hj8, ek, c2, kw_ob, kw_of_m1 (show j < 2147483648 by omega), c4, kv_suc]
          exact ih
        · have c4 : km zM k 4 ≤ km zM j 4 := Int32.not_lt.mp c3
          rw [if_neg (show ¬ (¬ km zM k 11 = 0 ∧ km zM j 4 < km zM k 4) from fun q => c3 q.2)] at ih
          simp only [kv_e133_0, kv_e133_1, kv_e133_2, kv_e133_3, kv_e133_5, kv_e133_6, kv_e133_9, kv_e133_12, kv_e133_15, kv_e133_16, kv_e133_19, kv_e133_20, kv_e133_23, kv_e133_26, kv_e133_27, kv_e133_28, kv_e133_31, kv_e133_32, kv_e133_35, kv_e133_36, kv_e133_37, kv_e133_40, kv_e133_41, kv_e133_44, kv_e133_45, kv_e133_46, kv_e133_49, kv_e133_52, kv_e133_53, kv_e133_54, kv_e133_57, kv_e133_60, kv_e133_61, kv_o10, not_false_eq_true, not_true, if_true, if_false, kv_then_s, kv_then_v, kv_then_n, List.cons_append, List.nil_append, kv_Ci, kv_Cr, kv_Cn, kv_Cu, kv_C0, kv_catc, kv_gCi, kv_gCl, kv_gCr, kv_nb0, kv_nb1, kv_nbi, kv_nb01, Nat.reduceAdd, Nat.reduceLeDiff, kv_isF3, hKK.1.1, kw_ln2 h8 hk2, eq_false (show ¬ n ≤ k by omega), kv_isS36, kv_flies, kv_get, kv_g11 zK 36 hk8, kv_g4 zK 36 hk8, kv_g4 zK 36 hj8, ek, c2, kw_ob, kw_of_m1 (show j < 2147483648 by omega), c4, kv_suc]
          exact ih
end
