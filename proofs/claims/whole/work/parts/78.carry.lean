/-! talked -/
section
variable {d n B W : Nat} {e : List kv_E} {z zK zM zK' zM' : Nat → Nat → Int32} {zl zlM : Nat → Nat → Int64}
def kw_ht (c : Nat → Nat → Int32) (i : Nat) : Int32 := if c i 11 = 0 then 0 else c i 4
def kw_g1_ (c : Nat → Nat → Int32) (p : Nat → Bool) (i : Nat) : Int32 := if p i = true ∨ c i 5 = 1 then kw_ht c i else 0
def kw_g0_ (c : Nat → Nat → Int32) (p : Nat → Bool) (i : Nat) : Int32 := if ¬ (p i = true ∨ c i 5 = 1) ∧ c i 5 = 0 then kw_ht c i else 0
def kw_ye (c : Nat → Nat → Int32) (p : Nat → Bool) (n : Nat) : Int32 := kv_sm n (kw_g1_ c p)
def kw_bo (c : Nat → Nat → Int32) (p : Nat → Bool) (n : Nat) : Int32 := kv_sm n (fun i => kw_g1_ c p i + kw_g0_ c p i)
theorem kw_ye_s (c : Nat → Nat → Int32) (p : Nat → Bool) (k : Nat) : kw_ye c p (k + 1) = kw_ye c p k + kw_g1_ c p k := rfl
theorem kw_bo_s (c : Nat → Nat → Int32) (p : Nat → Bool) (k : Nat) : kw_bo c p (k + 1) = kw_bo c p k + (kw_g1_ c p k + kw_g0_ c p k) := rfl
theorem kw_o10' : ((1 : Int32) = 0) = False := by decide
theorem kw_o01' : ((0 : Int32) = 1) = False := by decide
theorem kw_carK {c : Nat → Nat → Int32} (hn : z 3 4 = Int32.ofNat n) (h8 : n ≤ 8) (hc : kc z 39 = c) (p : Nat → Bool) : kv_Rn (d + 2) 118 0 [some (.ref 0), some (.int (kv_bs 8 p)), none, none, none, none, none] [] (kv_h e z zl) = some (some (.int (if z 3 2 * kw_bo c p n < kw_ye c p n * 100 then 1 else 0)), kv_h e z zl) := by
  have hl := kv_up (fun k => ∀ u5 u6, kv_c2 u5 = false → kv_Rn (d + 2) 118 7 [some (.ref 0), some (.int (kv_bs 8 p)), some (.int (kw_ye c p k)), some (.int (kw_bo c p k)), some (.int (Int32.ofNat k)), u5, u6] [] (kv_h e z zl) = some (some (.int (if z 3 2 * kw_bo c p n < kw_ye c p n * 100 then 1 else 0)), kv_h e z zl)) n ?_ ?_
  · simp only [kv_e118_0, kv_e118_1, kv_e118_2, kv_e118_3, kv_e118_4, kv_e118_5, kv_o10, not_false_eq_true, not_true, if_true, if_false, kv_then_s, kv_then_v, kv_then_n, List.cons_append, List.nil_append, kv_Ci, kv_Cr, kv_Cn, kv_Cu, kv_C0, kv_catc, kv_gCi, kv_gCl, kv_gCr, kv_nb0, kv_nb1, kv_nbi, kv_nb01, Nat.reduceAdd, Nat.reduceLeDiff]
    exact hl none none rfl
  · intro u5 u6 q5
    rw [kv_e118_7]
    simp only [kv_e118_0, kv_e118_1, kv_e118_2, kv_e118_3, kv_e118_4, kv_e118_5, kv_e118_9, kv_e118_10, kv_e118_13, kv_e118_16, kv_e118_19, kv_e118_20, kv_e118_23, kv_e118_25, kv_e118_28, kv_e118_31, kv_e118_32, kv_e118_35, kv_e118_37, kv_e118_38, kv_e118_41, kv_e118_44, kv_e118_45, kv_e118_47, kv_e118_48, kv_e118_50, kv_e118_51, kv_e118_52, kv_e118_53, kv_e118_56, kv_e118_57, kv_e118_60, kv_e118_62, kv_e118_63, kv_e118_66, kv_e118_67, kv_e118_70, kv_e118_71, kv_e118_74, kv_e118_75, kv_e118_77, kv_e118_79, kv_e118_82, kv_e118_83, kv_e118_85, kv_e118_86, kv_e118_87, kv_e118_89, kv_e118_92, kv_e118_93, kv_e118_96, kv_e118_98, kv_e118_99, kv_e118_102, kv_e118_105, kv_e118_106, kv_e118_108, kv_e118_109, kv_e118_110, kv_e118_113, kv_e118_116, kv_e118_117, kv_e118_120, kv_e118_121, kv_e118_122, kv_e118_125, kv_o10, not_false_eq_true, not_true, if_true, if_false, kv_then_s, kv_then_v, kv_then_n, List.cons_append, List.nil_append, kv_Ci, kv_Cr, kv_Cn, kv_Cu, kv_C0, kv_catc, kv_gCi, kv_gCl, kv_gCr, kv_nb0, kv_nb1, kv_nbi, kv_nb01, Nat.reduceAdd, Nat.reduceLeDiff, kv_isF3, hn, kw_ln2 h8 (show n < 2147483648 by omega), Nat.le_refl, kv_isMajority]
  · intro k hk ih u5 u6 q5
    have hk8 : k < 8 := by omega
    have hk2 : k < 2147483648 := by omega
    have b := kw_bs_bit p hk8
    rw [kv_e118_7]
    rw [kw_ye_s, kw_bo_s] at ih
    unfold kw_g1_ kw_g0_ kw_ht at ih
    by_cases a : c k 11 = 0
    · cases hp : p k with
      | false =>
        rw [hp] at b
        by_cases b1 : c k 5 = 1
        · simp only [a, hp, b1, if_true, if_false, true_or, or_true, or_false, or_self, and_true, and_false, not_true, not_false_eq_true, true_and, Int32.add_zero, Int32.zero_add, eq_self, Bool.false_eq_true, kw_o10', kw_o01'] at ih
          simp only [kv_e118_0, kv_e118_1, kv_e118_2, kv_e118_3, kv_e118_4, kv_e118_5, kv_e118_9, kv_e118_10, kv_e118_13, kv_e118_16, kv_e118_19, kv_e118_20, kv_e118_23, kv_e118_25, kv_e118_28, kv_e118_31, kv_e118_32, kv_e118_35, kv_e118_37, kv_e118_38, kv_e118_41, kv_e118_44, kv_e118_45, kv_e118_47, kv_e118_48, kv_e118_50, kv_e118_51, kv_e118_52, kv_e118_53, kv_e118_56, kv_e118_57, kv_e118_60, kv_e118_62, kv_e118_63, kv_e118_66, kv_e118_67, kv_e118_70, kv_e118_71, kv_e118_74, kv_e118_75, kv_e118_77, kv_e118_79, kv_e118_82, kv_e118_83, kv_e118_85, kv_e118_86, kv_e118_87, kv_e118_89, kv_e118_92, kv_e118_93, kv_e118_96, kv_e118_98, kv_e118_99, kv_e118_102, kv_e118_105, kv_e118_106, kv_e118_108, kv_e118_109, kv_e118_110, kv_e118_113, kv_e118_116, kv_e118_117, kv_e118_120, kv_e118_121, kv_e118_122, kv_e118_125, kv_o10, not_false_eq_true, not_true, if_true, if_false, kv_then_s, kv_then_v, kv_then_n, List.cons_append, List.nil_append, kv_Ci, kv_Cr, kv_Cn, kv_Cu, kv_C0, kv_catc, kv_gCi, kv_gCl, kv_gCr, kv_nb0, kv_nb1, kv_nbi, kv_nb01, Nat.reduceAdd, Nat.reduceLeDiff, q5, kv_isF3, hn, kw_ln2 h8 hk2, eq_false (show ¬ n ≤ k by omega), kv_isS39, kv_flies, kv_get, kv_g11 z 39 hk8, kv_g4 z 39 hk8, kv_g5 z 39 hk8, hc, b, kv_suc, a, b1, eq_self, kw_o10', kw_o01', Bool.false_eq_true, Int32.add_zero]
          exact ih _ _ rfl
        · by_cases b0 : c k 5 = 0
          · simp only [a, hp, b0, if_true, if_false, true_or, or_true, or_false, or_self, and_true, and_false, not_true, not_false_eq_true, true_and, Int32.add_zero, Int32.zero_add, eq_self, Bool.false_eq_true, kw_o10', kw_o01'] at ih
            simp only [kv_e118_0, kv_e118_1, kv_e118_2, kv_e118_3, kv_e118_4, kv_e118_5, kv_e118_9, kv_e118_10, kv_e118_13, kv_e118_16, kv_e118_19, kv_e118_20, kv_e118_23, kv_e118_25, kv_e118_28, kv_e118_31, kv_e118_32, kv_e118_35, kv_e118_37, kv_e118_38, kv_e118_41, kv_e118_44, kv_e118_45, kv_e118_47, kv_e118_48, kv_e118_50, kv_e118_51, kv_e118_52, kv_e118_53, kv_e118_56, kv_e118_57, kv_e118_60, kv_e118_62, kv_e118_63, kv_e118_66, kv_e118_67, kv_e118_70, kv_e118_71, kv_e118_74, kv_e118_75, kv_e118_77, kv_e118_79, kv_e118_82, kv_e118_83, kv_e118_85, kv_e118_86, kv_e118_87, kv_e118_89, kv_e118_92, kv_e118_93, kv_e118_96, kv_e118_98, kv_e118_99, kv_e118_102, kv_e118_105, kv_e118_106, kv_e118_108, kv_e118_109, kv_e118_110, kv_e118_113, kv_e118_116, kv_e118_117, kv_e118_120, kv_e118_121, kv_e118_122, kv_e118_125, kv_o10, not_false_eq_true, not_true, if_true, if_false, kv_then_s, kv_then_v, kv_then_n, List.cons_append, List.nil_append, kv_Ci, kv_Cr, kv_Cn, kv_Cu, kv_C0, kv_catc, kv_gCi, kv_gCl, kv_gCr, kv_nb0, kv_nb1, kv_nbi, kv_nb01, Nat.reduceAdd, Nat.reduceLeDiff, q5, kv_isF3, hn, kw_ln2 h8 hk2, eq_false (show ¬ n ≤ k by omega), kv_isS39, kv_flies, kv_get, kv_g11 z 39 hk8, kv_g4 z 39 hk8, kv_g5 z 39 hk8, hc, b, kv_suc, a, b0, eq_self, kw_o10', kw_o01', Bool.false_eq_true, Int32.add_zero]
            exact ih _ _ rfl
          · simp only [a, hp, b1, b0, if_true, if_false, true_or, or_true, or_false, or_self, and_true, and_false, not_true, not_false_eq_true, true_and, Int32.add_zero, Int32.zero_add, eq_self, Bool.false_eq_true, kw_o10', kw_o01'] at ih
            simp only [kv_e118_0, kv_e118_1, kv_e118_2, kv_e118_3, kv_e118_4, kv_e118_5, kv_e118_9, kv_e118_10, kv_e118_13, kv_e118_16, kv_e118_19, kv_e118_20, kv_e118_23, kv_e118_25, kv_e118_28, kv_e118_31, kv_e118_32, kv_e118_35, kv_e118_37, kv_e118_38, kv_e118_41, kv_e118_44, kv_e118_45, kv_e118_47, kv_e118_48, kv_e118_50, kv_e118_51, kv_e118_52, kv_e118_53, kv_e118_56, kv_e118_57, kv_e118_60, kv_e118_62, kv_e118_63, kv_e118_66, kv_e118_67, kv_e118_70, kv_e118_71, kv_e118_74, kv_e118_75, kv_e118_77, kv_e118_79, kv_e118_82, kv_e118_83, kv_e118_85, kv_e118_86, kv_e118_87, kv_e118_89, kv_e118_92, kv_e118_93, kv_e118_96, kv_e118_98, kv_e118_99, kv_e118_102, kv_e118_105, kv_e118_106, kv_e118_108, kv_e118_109, kv_e118_110, kv_e118_113, kv_e118_116, kv_e118_117, kv_e118_120, kv_e118_121, kv_e118_122, kv_e118_125, kv_o10, not_false_eq_true, not_true, if_true, if_false, kv_then_s, kv_then_v, kv_then_n, List.cons_append, List.nil_append, kv_Ci, kv_Cr, kv_Cn, kv_Cu, kv_C0, kv_catc, kv_gCi, kv_gCl, kv_gCr, kv_nb0, kv_nb1, kv_nbi, kv_nb01, Nat.reduceAdd, Nat.reduceLeDiff, q5, kv_isF3, hn, kw_ln2 h8 hk2, eq_false (show ¬ n ≤ k by omega), kv_isS39, kv_flies, kv_get, kv_g11 z 39 hk8, kv_g4 z 39 hk8, kv_g5 z 39 hk8, hc, b, kv_suc, a, b1, b0, eq_self, kw_o10', kw_o01', Bool.false_eq_true, Int32.add_zero]
            exact ih _ _ rfl
      | true =>
        rw [hp] at b
        by_cases b1 : c k 5 = 1
        · simp only [a, hp, b1, if_true, if_false, true_or, or_true, or_false, or_self, and_true, and_false, not_true, not_false_eq_true, true_and, Int32.add_zero, Int32.zero_add, eq_self, Bool.false_eq_true, kw_o10', kw_o01'] at ih
          simp only [kv_e118_0, kv_e118_1, kv_e118_2, kv_e118_3, kv_e118_4, kv_e118_5, kv_e118_9, kv_e118_10, kv_e118_13, kv_e118_16, kv_e118_19, kv_e118_20, kv_e118_23, kv_e118_25, kv_e118_28, kv_e118_31, kv_e118_32, kv_e118_35, kv_e118_37, kv_e118_38, kv_e118_41, kv_e118_44, kv_e118_45, kv_e118_47, kv_e118_48, kv_e118_50, kv_e118_51, kv_e118_52, kv_e118_53, kv_e118_56, kv_e118_57, kv_e118_60, kv_e118_62, kv_e118_63, kv_e118_66, kv_e118_67, kv_e118_70, kv_e118_71, kv_e118_74, kv_e118_75, kv_e118_77, kv_e118_79, kv_e118_82, kv_e118_83, kv_e118_85, kv_e118_86, kv_e118_87, kv_e118_89, kv_e118_92, kv_e118_93, kv_e118_96, kv_e118_98, kv_e118_99, kv_e118_102, kv_e118_105, kv_e118_106, kv_e118_108, kv_e118_109, kv_e118_110, kv_e118_113, kv_e118_116, kv_e118_117, kv_e118_120, kv_e118_121, kv_e118_122, kv_e118_125, kv_o10, not_false_eq_true, not_true, if_true, if_false, kv_then_s, kv_then_v, kv_then_n, List.cons_append, List.nil_append, kv_Ci, kv_Cr, kv_Cn, kv_Cu, kv_C0, kv_catc, kv_gCi, kv_gCl, kv_gCr, kv_nb0, kv_nb1, kv_nbi, kv_nb01, Nat.reduceAdd, Nat.reduceLeDiff, q5, kv_isF3, hn, kw_ln2 h8 hk2, eq_false (show ¬ n ≤ k by omega), kv_isS39, kv_flies, kv_get, kv_g11 z 39 hk8, kv_g4 z 39 hk8, kv_g5 z 39 hk8, hc, b, kv_suc, a, b1, eq_self, kw_o10', kw_o01', Bool.false_eq_true, Int32.add_zero]
          exact ih _ _ rfl
        · by_cases b0 : c k 5 = 0
          · simp only [a, hp, b0, if_true, if_false, true_or, or_true, or_false, or_self, and_true, and_false, not_true, not_false_eq_true, true_and, Int32.add_zero, Int32.zero_add, eq_self, Bool.false_eq_true, kw_o10', kw_o01'] at ih
            simp only [kv_e118_0, kv_e118_1, kv_e118_2, kv_e118_3, kv_e118_4, kv_e118_5, kv_e118_9, kv_e118_10, kv_e118_13, kv_e118_16, kv_e118_19, kv_e118_20, kv_e118_23, kv_e118_25, kv_e118_28, kv_e118_31, kv_e118_32, kv_e118_35, kv_e118_37, kv_e118_38, kv_e118_41, kv_e118_44, kv_e118_45, kv_e118_47, kv_e118_48, kv_e118_50, kv_e118_51, kv_e118_52, kv_e118_53, kv_e118_56, kv_e118_57, kv_e118_60, kv_e118_62, kv_e118_63, kv_e118_66, kv_e118_67, kv_e118_70, kv_e118_71, kv_e118_74, kv_e118_75, kv_e118_77, kv_e118_79, kv_e118_82, kv_e118_83, kv_e118_85, kv_e118_86, kv_e118_87, kv_e118_89, kv_e118_92, kv_e118_93, kv_e118_96, kv_e118_98, kv_e118_99, kv_e118_102, kv_e118_105, kv_e118_106, kv_e118_108, kv_e118_109, kv_e118_110, kv_e118_113, kv_e118_116, kv_e118_117, kv_e118_120, kv_e118_121, kv_e118_122, kv_e118_125, kv_o10, not_false_eq_true, not_true, if_true, if_false, kv_then_s, kv_then_v, kv_then_n, List.cons_append, List.nil_append, kv_Ci, kv_Cr, kv_Cn, kv_Cu, kv_C0, kv_catc, kv_gCi, kv_gCl, kv_gCr, kv_nb0, kv_nb1, kv_nbi, kv_nb01, Nat.reduceAdd, Nat.reduceLeDiff, q5, kv_isF3, hn, kw_ln2 h8 hk2, eq_false (show ¬ n ≤ k by omega), kv_isS39, kv_flies, kv_get, kv_g11 z 39 hk8, kv_g4 z 39 hk8, kv_g5 z 39 hk8, hc, b, kv_suc, a, b0, eq_self, kw_o10', kw_o01', Bool.false_eq_true, Int32.add_zero]
            exact ih _ _ rfl
          · simp only [a, hp, b1, b0, if_true, if_false, true_or, or_true, or_false, or_self, and_true, and_false, not_true, not_false_eq_true, true_and, Int32.add_zero, Int32.zero_add, eq_self, Bool.false_eq_true, kw_o10', kw_o01'] at ih
            simp only [kv_e118_0, kv_e118_1, kv_e118_2, kv_e118_3, kv_e118_4, kv_e118_5, kv_e118_9, kv_e118_10, kv_e118_13, kv_e118_16, kv_e118_19, kv_e118_20, kv_e118_23, kv_e118_25, kv_e118_28, kv_e118_31, kv_e118_32, kv_e118_35, kv_e118_37, kv_e118_38, kv_e118_41, kv_e118_44, kv_e118_45, kv_e118_47, kv_e118_48, kv_e118_50, kv_e118_51, kv_e118_52, kv_e118_53, kv_e118_56, kv_e118_57, kv_e118_60, kv_e118_62, kv_e118_63, kv_e118_66, kv_e118_67, kv_e118_70, kv_e118_71, kv_e118_74, kv_e118_75, kv_e118_77, kv_e118_79, kv_e118_82, kv_e118_83, kv_e118_85, kv_e118_86, kv_e118_87, kv_e118_89, kv_e118_92, kv_e118_93, kv_e118_96, kv_e118_98, kv_e118_99, kv_e118_102, kv_e118_105, kv_e118_106, kv_e118_108, kv_e118_109, kv_e118_110, kv_e118_113, kv_e118_116, kv_e118_117, kv_e118_120, kv_e118_121, kv_e118_122, kv_e118_125, kv_o10, not_false_eq_true, not_true, if_true, if_false, kv_then_s, kv_then_v, kv_then_n, List.cons_append, List.nil_append, kv_Ci, kv_Cr, kv_Cn, kv_Cu, kv_C0, kv_catc, kv_gCi, kv_gCl, kv_gCr, kv_nb0, kv_nb1, kv_nbi, kv_nb01, Nat.reduceAdd, Nat.reduceLeDiff, q5, kv_isF3, hn, kw_ln2 h8 hk2, eq_false (show ¬ n ≤ k by omega), kv_isS39, kv_flies, kv_get, kv_g11 z 39 hk8, kv_g4 z 39 hk8, kv_g5 z 39 hk8, hc, b, kv_suc, a, b1, b0, eq_self, kw_o10', kw_o01', Bool.false_eq_true, Int32.add_zero]
            exact ih _ _ rfl
    · cases hp : p k with
      | false =>
        rw [hp] at b
        by_cases b1 : c k 5 = 1
        · simp only [a, hp, b1, if_true, if_false, true_or, or_true, or_false, or_self, and_true, and_false, not_true, not_false_eq_true, true_and, Int32.add_zero, Int32.zero_add, eq_self, Bool.false_eq_true, kw_o10', kw_o01'] at ih
          simp only [kv_e118_0, kv_e118_1, kv_e118_2, kv_e118_3, kv_e118_4, kv_e118_5, kv_e118_9, kv_e118_10, kv_e118_13, kv_e118_16, kv_e118_19, kv_e118_20, kv_e118_23, kv_e118_25, kv_e118_28, kv_e118_31, kv_e118_32, kv_e118_35, kv_e118_37, kv_e118_38, kv_e118_41, kv_e118_44, kv_e118_45, kv_e118_47, kv_e118_48, kv_e118_50, kv_e118_51, kv_e118_52, kv_e118_53, kv_e118_56, kv_e118_57, kv_e118_60, kv_e118_62, kv_e118_63, kv_e118_66, kv_e118_67, kv_e118_70, kv_e118_71, kv_e118_74, kv_e118_75, kv_e118_77, kv_e118_79, kv_e118_82, kv_e118_83, kv_e118_85, kv_e118_86, kv_e118_87, kv_e118_89, kv_e118_92, kv_e118_93, kv_e118_96, kv_e118_98, kv_e118_99, kv_e118_102, kv_e118_105, kv_e118_106, kv_e118_108, kv_e118_109, kv_e118_110, kv_e118_113, kv_e118_116, kv_e118_117, kv_e118_120, kv_e118_121, kv_e118_122, kv_e118_125, kv_o10, not_false_eq_true, not_true, if_true, if_false, kv_then_s, kv_then_v, kv_then_n, List.cons_append, List.nil_append, kv_Ci, kv_Cr, kv_Cn, kv_Cu, kv_C0, kv_catc, kv_gCi, kv_gCl, kv_gCr, kv_nb0, kv_nb1, kv_nbi, kv_nb01, Nat.reduceAdd, Nat.reduceLeDiff, q5, kv_isF3, hn, kw_ln2 h8 hk2, eq_false (show ¬ n ≤ k by omega), kv_isS39, kv_flies, kv_get, kv_g11 z 39 hk8, kv_g4 z 39 hk8, kv_g5 z 39 hk8, hc, b, kv_suc, a, b1, eq_self, kw_o10', kw_o01', Bool.false_eq_true, Int32.add_zero]
          exact ih _ _ rfl
        · by_cases b0 : c k 5 = 0
          · simp only [a, hp, b0, if_true, if_false, true_or, or_true, or_false, or_self, and_true, and_false, not_true, not_false_eq_true, true_and, Int32.add_zero, Int32.zero_add, eq_self, Bool.false_eq_true, kw_o10', kw_o01'] at ih
            simp only [kv_e118_0, kv_e118_1, kv_e118_2, kv_e118_3, kv_e118_4, kv_e118_5, kv_e118_9, kv_e118_10, kv_e118_13, kv_e118_16, kv_e118_19, kv_e118_20, kv_e118_23, kv_e118_25, kv_e118_28, kv_e118_31, kv_e118_32, kv_e118_35, kv_e118_37, kv_e118_38, kv_e118_41, kv_e118_44, kv_e118_45, kv_e118_47, kv_e118_48, kv_e118_50, kv_e118_51, kv_e118_52, kv_e118_53, kv_e118_56, kv_e118_57, kv_e118_60, kv_e118_62, kv_e118_63, kv_e118_66, kv_e118_67, kv_e118_70, kv_e118_71, kv_e118_74, kv_e118_75, kv_e118_77, kv_e118_79, kv_e118_82, kv_e118_83, kv_e118_85, kv_e118_86, kv_e118_87, kv_e118_89, kv_e118_92, kv_e118_93, kv_e118_96, kv_e118_98, kv_e118_99, kv_e118_102, kv_e118_105, kv_e118_106, kv_e118_108, kv_e118_109, kv_e118_110, kv_e118_113, kv_e118_116, kv_e118_117, kv_e118_120, kv_e118_121, kv_e118_122, kv_e118_125, kv_o10, not_false_eq_true, not_true, if_true, if_false, kv_then_s, kv_then_v, kv_then_n, List.cons_append, List.nil_append, kv_Ci, kv_Cr, kv_Cn, kv_Cu, kv_C0, kv_catc, kv_gCi, kv_gCl, kv_gCr, kv_nb0, kv_nb1, kv_nbi, kv_nb01, Nat.reduceAdd, Nat.reduceLeDiff, q5, kv_isF3, hn, kw_ln2 h8 hk2, eq_false (show ¬ n ≤ k by omega), kv_isS39, kv_flies, kv_get, kv_g11 z 39 hk8, kv_g4 z 39 hk8, kv_g5 z 39 hk8, hc, b, kv_suc, a, b0, eq_self, kw_o10', kw_o01', Bool.false_eq_true, Int32.add_zero]
            exact ih _ _ rfl
          · simp only [a, hp, b1, b0, if_true, if_false, true_or, or_true, or_false, or_self, and_true, and_false, not_true, not_false_eq_true, true_and, Int32.add_zero, Int32.zero_add, eq_self, Bool.false_eq_true, kw_o10', kw_o01'] at ih
            simp only [kv_e118_0, kv_e118_1, kv_e118_2, kv_e118_3, kv_e118_4, kv_e118_5, kv_e118_9, kv_e118_10, kv_e118_13, kv_e118_16, kv_e118_19, kv_e118_20, kv_e118_23, kv_e118_25, kv_e118_28, kv_e118_31, kv_e118_32, kv_e118_35, kv_e118_37, kv_e118_38, kv_e118_41, kv_e118_44, kv_e118_45, kv_e118_47, kv_e118_48, kv_e118_50, kv_e118_51, kv_e118_52, kv_e118_53, kv_e118_56, kv_e118_57, kv_e118_60, kv_e118_62, kv_e118_63, kv_e118_66, kv_e118_67, kv_e118_70, kv_e118_71, kv_e118_74, kv_e118_75, kv_e118_77, kv_e118_79, kv_e118_82, kv_e118_83, kv_e118_85, kv_e118_86, kv_e118_87, kv_e118_89, kv_e118_92, kv_e118_93, kv_e118_96, kv_e118_98, kv_e118_99, kv_e118_102, kv_e118_105, kv_e118_106, kv_e118_108, kv_e118_109, kv_e118_110, kv_e118_113, kv_e118_116, kv_e118_117, kv_e118_120, kv_e118_121, kv_e118_122, kv_e118_125, kv_o10, not_false_eq_true, not_true, if_true, if_false, kv_then_s, kv_then_v, kv_then_n, List.cons_append, List.nil_append, kv_Ci, kv_Cr, kv_Cn, kv_Cu, kv_C0, kv_catc, kv_gCi, kv_gCl, kv_gCr, kv_nb0, kv_nb1, kv_nbi, kv_nb01, Nat.reduceAdd, Nat.reduceLeDiff, q5, kv_isF3, hn, kw_ln2 h8 hk2, eq_false (show ¬ n ≤ k by omega), kv_isS39, kv_flies, kv_get, kv_g11 z 39 hk8, kv_g4 z 39 hk8, kv_g5 z 39 hk8, hc, b, kv_suc, a, b1, b0, eq_self, kw_o10', kw_o01', Bool.false_eq_true, Int32.add_zero]
            exact ih _ _ rfl
      | true =>
        rw [hp] at b
        by_cases b1 : c k 5 = 1
        · simp only [a, hp, b1, if_true, if_false, true_or, or_true, or_false, or_self, and_true, and_false, not_true, not_false_eq_true, true_and, Int32.add_zero, Int32.zero_add, eq_self, Bool.false_eq_true, kw_o10', kw_o01'] at ih
          simp only [kv_e118_0, kv_e118_1, kv_e118_2, kv_e118_3, kv_e118_4, kv_e118_5, kv_e118_9, kv_e118_10, kv_e118_13, kv_e118_16, kv_e118_19, kv_e118_20, kv_e118_23, kv_e118_25, kv_e118_28, kv_e118_31, kv_e118_32, kv_e118_35, kv_e118_37, kv_e118_38, kv_e118_41, kv_e118_44, kv_e118_45, kv_e118_47, kv_e118_48, kv_e118_50, kv_e118_51, kv_e118_52, kv_e118_53, kv_e118_56, kv_e118_57, kv_e118_60, kv_e118_62, kv_e118_63, kv_e118_66, kv_e118_67, kv_e118_70, kv_e118_71, kv_e118_74, kv_e118_75, kv_e118_77, kv_e118_79, kv_e118_82, kv_e118_83, kv_e118_85, kv_e118_86, kv_e118_87, kv_e118_89, kv_e118_92, kv_e118_93, kv_e118_96, kv_e118_98, kv_e118_99, kv_e118_102, kv_e118_105, kv_e118_106, kv_e118_108, kv_e118_109, kv_e118_110, kv_e118_113, kv_e118_116, kv_e118_117, kv_e118_120, kv_e118_121, kv_e118_122, kv_e118_125, kv_o10, not_false_eq_true, not_true, if_true, if_false, kv_then_s, kv_then_v, kv_then_n, List.cons_append, List.nil_append, kv_Ci, kv_Cr, kv_Cn, kv_Cu, kv_C0, kv_catc, kv_gCi, kv_gCl, kv_gCr, kv_nb0, kv_nb1, kv_nbi, kv_nb01, Nat.reduceAdd, Nat.reduceLeDiff, q5, kv_isF3, hn, kw_ln2 h8 hk2, eq_false (show ¬ n ≤ k by omega), kv_isS39, kv_flies, kv_get, kv_g11 z 39 hk8, kv_g4 z 39 hk8, kv_g5 z 39 hk8, hc, b, kv_suc, a, b1, eq_self, kw_o10', kw_o01', Bool.false_eq_true, Int32.add_zero]
          exact ih _ _ rfl
        · by_cases b0 : c k 5 = 0
          · simp only [a, hp, b0, if_true, if_false, true_or, or_true, or_false, or_self, and_true, and_false, not_true, not_false_eq_true, true_and, Int32.add_zero, Int32.zero_add, eq_self, Bool.false_eq_true, kw_o10', kw_o01'] at ih
            simp only [kv_e118_0, kv_e118_1, kv_e118_2, kv_e118_3, kv_e118_4, kv_e118_5, kv_e118_9, kv_e118_10, kv_e118_13, kv_e118_16, kv_e118_19, kv_e118_20, kv_e118_23, kv_e118_25, kv_e118_28, kv_e118_31, kv_e118_32, kv_e118_35, kv_e118_37, kv_e118_38, kv_e118_41, kv_e118_44, kv_e118_45, kv_e118_47, kv_e118_48, kv_e118_50, kv_e118_51, kv_e118_52, kv_e118_53, kv_e118_56, kv_e118_57, kv_e118_60, kv_e118_62, kv_e118_63, kv_e118_66, kv_e118_67, kv_e118_70, kv_e118_71, kv_e118_74, kv_e118_75, kv_e118_77, kv_e118_79, kv_e118_82, kv_e118_83, kv_e118_85, kv_e118_86, kv_e118_87, kv_e118_89, kv_e118_92, kv_e118_93, kv_e118_96, kv_e118_98, kv_e118_99, kv_e118_102, kv_e118_105, kv_e118_106, kv_e118_108, kv_e118_109, kv_e118_110, kv_e118_113, kv_e118_116, kv_e118_117, kv_e118_120, kv_e118_121, kv_e118_122, kv_e118_125, kv_o10, not_false_eq_true, not_true, if_true, if_false, kv_then_s, kv_then_v, kv_then_n, List.cons_append, List.nil_append, kv_Ci, kv_Cr, kv_Cn, kv_Cu, kv_C0, kv_catc, kv_gCi, kv_gCl, kv_gCr, kv_nb0, kv_nb1, kv_nbi, kv_nb01, Nat.reduceAdd, Nat.reduceLeDiff, q5, kv_isF3, hn, kw_ln2 h8 hk2, eq_false (show ¬ n ≤ k by omega), kv_isS39, kv_flies, kv_get, kv_g11 z 39 hk8, kv_g4 z 39 hk8, kv_g5 z 39 hk8, hc, b, kv_suc, a, b0, eq_self, kw_o10', kw_o01', Bool.false_eq_true, Int32.add_zero]
            exact ih _ _ rfl
          · simp only [a, hp, b1, b0, if_true, if_false, true_or, or_true, or_false, or_self, and_true, and_false, not_true, not_false_eq_true, true_and, Int32.add_zero, Int32.zero_add, eq_self, Bool.false_eq_true, kw_o10', kw_o01'] at ih
            simp only [kv_e118_0, kv_e118_1, kv_e118_2, kv_e118_3, kv_e118_4, kv_e118_5, kv_e118_9, kv_e118_10, kv_e118_13, kv_e118_16, kv_e118_19, kv_e118_20, kv_e118_23, kv_e118_25, kv_e118_28, kv_e118_31, kv_e118_32, kv_e118_35, kv_e118_37, kv_e118_38, kv_e118_41, kv_e118_44, kv_e118_45, kv_e118_47, kv_e118_48, kv_e118_50, kv_e118_51, kv_e118_52, kv_e118_53, kv_e118_56, kv_e118_57, kv_e118_60, kv_e118_62, kv_e118_63, kv_e118_66, kv_e118_67, kv_e118_70, kv_e118_71, kv_e118_74, kv_e118_75, kv_e118_77, kv_e118_79, kv_e118_82, kv_e118_83, kv_e118_85, kv_e118_86, kv_e118_87, kv_e118_89, kv_e118_92, kv_e118_93, kv_e118_96, kv_e118_98, kv_e118_99, kv_e118_102, kv_e118_105, kv_e118_106, kv_e118_108, kv_e118_109, kv_e118_110, kv_e118_113, kv_e118_116, kv_e118_117, kv_e118_120, kv_e118_121, kv_e118_122, kv_e118_125, kv_o10, not_false_eq_true, not_true, if_true, if_false, kv_then_s, kv_then_v, kv_then_n, List.cons_append, List.nil_append, kv_Ci, kv_Cr, kv_Cn, kv_Cu, kv_C0, kv_catc, kv_gCi, kv_gCl, kv_gCr, kv_nb0, kv_nb1, kv_nbi, kv_nb01, Nat.reduceAdd, Nat.reduceLeDiff, q5, kv_isF3, hn, kw_ln2 h8 hk2, eq_false (show ¬ n ≤ k by omega), kv_isS39, kv_flies, kv_get, kv_g11 z 39 hk8, kv_g4 z 39 hk8, kv_g5 z 39 hk8, hc, b, kv_suc, a, b1, b0, eq_self, kw_o10', kw_o01', Bool.false_eq_true, Int32.add_zero]
            exact ih _ _ rfl
theorem kw_tmul {x y : Int32} (h1 : -1000000000 ≤ x.toInt * y.toInt) (h2 : x.toInt * y.toInt ≤ 1000000000) : (x * y).toInt = x.toInt * y.toInt := by
  rw [Int32.toInt_mul]
  exact Int.bmod_eq_of_le (by omega) (by omega)
theorem kw_3t : (3 : Int32).toInt = 3 := id rfl
theorem kw_100t : (100 : Int32).toInt = 100 := id rfl
theorem kw_sm3 {f g : Nat → Int32} (hg : ∀ i, 0 ≤ (g i).toInt ∧ (g i).toInt ≤ 99) : ∀ n, n ≤ 8 → (∀ i, i < n → f i = 3 * g i) → (kv_sm n f).toInt = 3 * (kv_sm n g).toInt ∧ 0 ≤ (kv_sm n g).toInt ∧ (kv_sm n g).toInt ≤ 99 * n := by
  intro n
  induction n with
  | zero => intro _ _; exact (show (0 : Int32).toInt = 3 * (0 : Int32).toInt ∧ 0 ≤ (0 : Int32).toInt ∧ (0 : Int32).toInt ≤ 99 * ((0 : Nat) : Int) from by decide)
  | succ n ih =>
    intro h hf
    obtain ⟨h1, h2, h3⟩ := ih (by omega) (fun i hi => hf i (by omega))
    have g1 := hg n
    have e3 : (3 * g n).toInt = 3 * (g n).toInt := by
      rw [kw_tmul (by rw [kw_3t]; omega) (by rw [kw_3t]; omega), kw_3t]
    have eg : (kv_sm n g + g n).toInt = (kv_sm n g).toInt + (g n).toInt := kw_tadd (by omega) (by omega)
    rw [kv_sm_s, kv_sm_s, hf n (by omega), eg, kw_tadd (by rw [h1, e3]; omega) (by rw [h1, e3]; omega), h1, e3]
    omega
theorem kw_sm_add (a b : Nat → Int32) : ∀ n, kv_sm n (fun i => a i + b i) = kv_sm n a + kv_sm n b := by
  intro n
  induction n with
  | zero => rfl
  | succ n ih =>
    rw [kv_sm_s, kv_sm_s, kv_sm_s, ih, Int32.add_assoc, Int32.add_assoc, ← Int32.add_assoc (kv_sm n b), Int32.add_comm (kv_sm n b) (a n), Int32.add_assoc]
theorem kw_ht_r {c : Nat → Nat → Int32} (hc : kw_okc c) (i : Nat) : 0 ≤ (kw_ht c i).toInt ∧ (kw_ht c i).toInt ≤ 99 := by
  unfold kw_ht
  obtain ⟨-, ⟨h1, h2⟩, h3, h4⟩ := hc i
  by_cases q : c i 11 = 0
  · rw [if_pos q, kw_0t]
    omega
  · rw [if_neg q]
    omega
theorem kw_g1_r {c : Nat → Nat → Int32} (hc : kw_okc c) (p : Nat → Bool) (i : Nat) : 0 ≤ (kw_g1_ c p i).toInt ∧ (kw_g1_ c p i).toInt ≤ 99 := by
  unfold kw_g1_
  by_cases q : p i = true ∨ c i 5 = 1
  · rw [if_pos q]
    exact kw_ht_r hc i
  · rw [if_neg q, kw_0t]
    omega
theorem kw_g0_r {c : Nat → Nat → Int32} (hc : kw_okc c) (p : Nat → Bool) (i : Nat) : 0 ≤ (kw_g0_ c p i).toInt ∧ (kw_g0_ c p i).toInt ≤ 99 := by
  unfold kw_g0_
  by_cases q : ¬ (p i = true ∨ c i 5 = 1) ∧ c i 5 = 0
  · rw [if_pos q]
    exact kw_ht_r hc i
  · rw [if_neg q, kw_0t]
    omega
theorem kw_30 : (3 : Int32) * 0 = 0 := by decide
theorem kw_car {c c1 : Nat → Nat → Int32} {mj : Int32} {p : Nat → Bool} (h1 : kw_01 n c) (h8 : n ≤ 8) (hc : kw_okc c) (hm : kw_rg mj 0 99) (ha : kw_av 5 c c1) (h5 : ∀ i, i < n → c1 i 5 = if p i = true then 1 else c i 5) : (kv_rs mj c1 = 1) = (mj * kw_bo c p n < kw_ye c p n * 100) := by
  have f1 : kv_ff c1 5 1 = kv_sm n (fun k => if ¬ c1 k 11 = 0 ∧ c1 k 5 = 1 then 3 * c1 k 4 else 0) := by
    have := kw_sm_ext (f := fun k => if ¬ c1 k 11 = 0 ∧ c1 k 5 = 1 then 3 * c1 k 4 else 0) (m := n) (8 - n) (fun k hk => if_neg (fun q => q.1 (by rw [ha k 11 (by omega)]; exact (h1 k).2 hk)))
    rw [show n + (8 - n) = 8 from by omega] at this
    exact this
  have f0 : kv_ff c1 5 0 = kv_sm n (fun k => if ¬ c1 k 11 = 0 ∧ c1 k 5 = 0 then 3 * c1 k 4 else 0) := by
    have := kw_sm_ext (f := fun k => if ¬ c1 k 11 = 0 ∧ c1 k 5 = 0 then 3 * c1 k 4 else 0) (m := n) (8 - n) (fun k hk => if_neg (fun q => q.1 (by rw [ha k 11 (by omega)]; exact (h1 k).2 hk)))
    rw [show n + (8 - n) = 8 from by omega] at this
    exact this
  obtain ⟨a1, a2, a3⟩ := kw_sm3 (f := fun k => if ¬ c1 k 11 = 0 ∧ c1 k 5 = 1 then 3 * c1 k 4 else 0) (g := kw_g1_ c p) (kw_g1_r hc p) n h8 (fun i hi => by
    rw [ha i 11 (by omega), ha i 4 (by omega), h5 i hi]
    unfold kw_g1_ kw_ht
    by_cases q : c i 11 = 0
    · rw [if_neg (fun r => r.1 q), if_pos q]
      split <;> exact kw_30.symm
    · rw [if_neg q]
      cases hp : p i with
      | true => rw [if_pos rfl, if_pos ⟨q, rfl⟩, if_pos (Or.inl rfl)]
      | false =>
        rw [if_neg (show ¬ (false = true) from Bool.false_ne_true)]
        by_cases r : c i 5 = 1
        · rw [if_pos ⟨q, r⟩, if_pos (Or.inr r)]
        · rw [if_neg (fun s => r s.2), if_neg (fun s => s.elim (fun t => Bool.false_ne_true t) r)]
          exact kw_30.symm)
  obtain ⟨b1, b2, b3⟩ := kw_sm3 (f := fun k => if ¬ c1 k 11 = 0 ∧ c1 k 5 = 0 then 3 * c1 k 4 else 0) (g := kw_g0_ c p) (kw_g0_r hc p) n h8 (fun i hi => by
    rw [ha i 11 (by omega), ha i 4 (by omega), h5 i hi]
    unfold kw_g0_ kw_ht
    by_cases q : c i 11 = 0
    · rw [if_neg (fun r => r.1 q), if_pos q]
      split <;> exact kw_30.symm
    · rw [if_neg q]
      cases hp : p i with
      | true =>
        rw [if_pos rfl, if_neg (fun s => absurd s.2 (by decide)), if_neg (fun s => s.1 (Or.inl rfl))]
        exact kw_30.symm
      | false =>
        rw [if_neg (show ¬ (false = true) from Bool.false_ne_true)]
        by_cases r : c i 5 = 0
        · rw [if_pos ⟨q, r⟩, if_pos ⟨fun s => s.elim (fun t => Bool.false_ne_true t) (fun t => absurd (r.symm.trans t) (by decide)), r⟩]
        · rw [if_neg (fun s => r s.2), if_neg (fun s => r s.2)]
          exact kw_30.symm)
  rw [← f1] at a1
  rw [← f0] at b1
  have hbo : (kw_bo c p n).toInt = (kw_ye c p n).toInt + (kv_sm n (kw_g0_ c p)).toInt := by
    unfold kw_bo
    rw [kw_sm_add]
    exact kw_tadd (by omega) (by omega)
  have hs : (kv_ff c1 5 1 + kv_ff c1 5 0).toInt = 3 * (kw_bo c p n).toInt := by
    rw [kw_tadd (by omega) (by omega), a1, b1, hbo]
    show _ = 3 * ((kv_sm n (kw_g1_ c p)).toInt + _)
    omega
  unfold kw_rg at hm
  have y0 : 0 ≤ (kw_ye c p n).toInt ∧ (kw_ye c p n).toInt ≤ 99 * n := ⟨a2, a3⟩
  have a1' : (kv_ff c1 5 1).toInt = 3 * (kw_ye c p n).toInt := a1
  have bo0 : 0 ≤ (kw_bo c p n).toInt ∧ (kw_bo c p n).toInt ≤ 1584 := by rw [hbo]; omega
  have Q0 : 0 ≤ mj.toInt * (kw_bo c p n).toInt := Int.mul_nonneg hm.1 bo0.1
  have Q1 : mj.toInt * (kw_bo c p n).toInt ≤ 99 * (kw_bo c p n).toInt := Int.mul_le_mul_of_nonneg_right hm.2 bo0.1
  have Q3 : mj.toInt * (3 * (kw_bo c p n).toInt) = 3 * (mj.toInt * (kw_bo c p n).toInt) := Int.mul_left_comm _ _ _
  have R1 : (mj * kw_bo c p n).toInt = mj.toInt * (kw_bo c p n).toInt := kw_tmul (by omega) (by omega)
  have R2 : (kw_ye c p n * 100).toInt = (kw_ye c p n).toInt * 100 := by rw [kw_tmul (by rw [kw_100t]; omega) (by rw [kw_100t]; omega), kw_100t]
  have R3 : (mj * (kv_ff c1 5 1 + kv_ff c1 5 0)).toInt = 3 * (mj.toInt * (kw_bo c p n).toInt) := by rw [kw_tmul (by rw [hs, Q3]; omega) (by rw [hs, Q3]; omega), hs, Q3]
  have R4 : (kv_ff c1 5 1 * 100).toInt = 3 * (kw_ye c p n).toInt * 100 := by rw [kw_tmul (by rw [kw_100t, a1']; omega) (by rw [kw_100t, a1']; omega), kw_100t, a1']
  have yb : (kw_ye c p n).toInt ≤ (kw_bo c p n).toInt := by rw [hbo]; omega
  unfold kv_rs
  by_cases s0 : kv_ff c1 5 1 + kv_ff c1 5 0 = 0
  · have t0 : 3 * (kw_bo c p n).toInt = 0 := by rw [← hs, s0]; rfl
    rw [if_pos s0]
    refine propext ⟨fun q => absurd q (by decide), fun q => ?_⟩
    rw [Int32.lt_iff_toInt_lt, R1, R2] at q
    omega
  · rw [if_neg s0]
    by_cases s1 : mj * (kv_ff c1 5 1 + kv_ff c1 5 0) < kv_ff c1 5 1 * 100
    · rw [if_pos s1]
      refine propext ⟨fun _ => ?_, fun _ => rfl⟩
      rw [Int32.lt_iff_toInt_lt, R3, R4] at s1
      rw [Int32.lt_iff_toInt_lt, R1, R2]
      omega
    · rw [if_neg s1]
      refine propext ⟨fun q => absurd q (by decide), fun q => absurd ?_ s1⟩
      rw [Int32.lt_iff_toInt_lt, R1, R2] at q
      rw [Int32.lt_iff_toInt_lt, R3, R4]
      omega
theorem kw_av_fly5 {fl fw : Option ((Nat → Int32) → Int32)} {wd : Int32 → Int32 → Int32} {pays : Int32} : ∀ (T : Nat) (m : Int32) (dl : Nat → Int32) (c c' : Nat → Nat → Int32), kw_av 5 c c' → kw_av 5 (kw_fly fl fw wd pays T m dl c) (kw_fly fl fw wd pays T m dl c') := by
  intro T
  induction T with
  | zero => intro m dl c c' h; exact h
  | succ T ih =>
    intro m dl c c' h
    have e : kw_md dl c' = kw_md dl c := by
      funext k
      unfold kw_md
      rw [h k 8 (by omega)]
    refine ih _ _ _ _ ?_
    rw [e]
    exact kw_av_pass (Or.inl rfl) h
theorem kw_fly_w {fl fw : Option ((Nat → Int32) → Int32)} {wd : Int32 → Int32 → Int32} {pays : Int32} {w : Nat} (hw : w ≠ 3 ∧ w ≠ 4 ∧ w ≠ 9 ∧ w ≠ 11) (k : Nat) : ∀ (T : Nat) (m : Int32) (dl : Nat → Int32) (c : Nat → Nat → Int32), kw_fly fl fw wd pays T m dl c k w = c k w := by
  intro T
  induction T with
  | zero => intro m dl c; rfl
  | succ T ih => intro m dl c; exact (ih _ _ _).trans (kw_passM_w hw k)
theorem kw_fly_01 {fl fw : Option ((Nat → Int32) → Int32)} {wd : Int32 → Int32 → Int32} {pays : Int32} : ∀ (T : Nat) (m : Int32) (dl : Nat → Int32) (c : Nat → Nat → Int32), kw_01 n c → kw_01 n (kw_fly fl fw wd pays T m dl c) := by
  intro T
  induction T with
  | zero => intro m dl c h; exact h
  | succ T ih => intro m dl c h; exact ih _ _ _ (kw_passM_01 h)
def kw_op5 (p : Nat → Bool) (j : Nat) (c : Nat → Nat → Int32) : Nat → Nat → Int32 := fun k w => if w = 5 ∧ k < j ∧ p k = true then 1 else c k w
theorem kw_op5_s (p : Nat → Bool) (j : Nat) (c : Nat → Nat → Int32) : kv_pt (kw_op5 p j c) j 5 (if p j = true then 1 else c j 5) = kw_op5 p (j + 1) c := by
  funext k w
  unfold kv_pt kw_op5
  by_cases q : k = j ∧ w = 5
  · obtain ⟨rfl, rfl⟩ := q
    rw [if_pos ⟨rfl, rfl⟩]
    by_cases r : p k = true
    · rw [if_pos r, if_pos ⟨rfl, by omega, r⟩]
    · rw [if_neg r, if_neg (fun s => r s.2.2)]
  · rw [if_neg q]
    by_cases r : w = 5 ∧ k < j ∧ p k = true
    · rw [if_pos r, if_pos ⟨r.1, by omega, r.2.2⟩]
    · rw [if_neg r, if_neg (fun s => r ⟨s.1, by omega, s.2.2⟩)]
theorem kw_op5_5 (p : Nat → Bool) (j : Nat) (c : Nat → Nat → Int32) : kw_op5 p j c j 5 = c j 5 := if_neg (by omega)
theorem kw_mtalk (h : kw_R n B W zK zM) {m : Nat} (hm : m < 256) (v1 v2 u4 : Option Value) (q1 : kv_c2 v1 = false) (q2 : kv_c2 v2 = false) (hj : kw_J zM z) : ∃ z', kv_Rn (d + 3) 253 56 [some (.ref 0), v1, v2, some (.int (Int32.ofNat m)), u4] [] (kv_m z zlM) = kv_Rn (d + 3) 253 101 [some (.ref 0), v1, v2, some (.int (Int32.ofNat m)), some (.int (Int32.ofNat n))] [] (kv_m z' zlM) ∧ kw_Z zM z' ∧ km z' = kw_op5 (kw_bm m) n (km zM) ∧ z' 16 104 = zM 16 104 ∧ ∀ i, i < 8 → z' 17 i = -1 := by
  have hI := kw_R_I h
  have h8 := hI.1.1.1.2
  have hl := kv_up (fun j => ∀ z, kw_Z zM z → km z = kw_op5 (kw_bm m) j (km zM) → z 16 104 = zM 16 104 → (∀ i, i < 8 → z 17 i = -1) → ∃ z', kv_Rn (d + 3) 253 59 [some (.ref 0), v1, v2, some (.int (Int32.ofNat m)), some (.int (Int32.ofNat j))] [] (kv_m z zlM) = kv_Rn (d + 3) 253 101 [some (.ref 0), v1, v2, some (.int (Int32.ofNat m)), some (.int (Int32.ofNat n))] [] (kv_m z' zlM) ∧ kw_Z zM z' ∧ km z' = kw_op5 (kw_bm m) n (km zM) ∧ z' 16 104 = zM 16 104 ∧ ∀ i, i < 8 → z' 17 i = -1) n ?_ ?_
  · obtain ⟨z', r, rest⟩ := hl z (kw_J_Z hj) (by rw [kw_J_km hj]; funext k w; exact (if_neg (by omega)).symm) (kw_J_m hj) hj.2.2
    refine ⟨z', ?_, rest⟩
    simp only [kv_e253_56, kv_e253_57, q1, q2, kv_o10, not_false_eq_true, not_true, if_true, if_false, kv_then_s, kv_then_v, kv_then_n, List.cons_append, List.nil_append, kv_Ci, kv_Cr, kv_Cn, kv_Cu, kv_C0, kv_catc, kv_gCi, kv_gCl, kv_gCr, kv_nb0, kv_nb1, kv_nbi, kv_nb01, Nat.reduceAdd, Nat.reduceLeDiff]
    exact r
  · intro z hz hc hm' hd
    refine ⟨z, ?_, hz, hc, hm', hd⟩
    have e0 : z 0 24 = Int32.ofNat n := by rw [hz.1 0 (by omega) (by omega) (by omega) (by omega) (by omega) (by omega) (by omega)]; exact hI.1.1.1.1
    rw [kv_e253_59]
    simp only [kv_e253_61, kv_e253_62, kv_e253_65, kv_o10, not_false_eq_true, not_true, if_true, if_false, kv_then_s, kv_then_v, kv_then_n, List.cons_append, List.nil_append, kv_Ci, kv_Cr, kv_Cn, kv_Cu, kv_C0, kv_catc, kv_gCi, kv_gCl, kv_gCr, kv_nb0, kv_nb1, kv_nbi, kv_nb01, Nat.reduceAdd, Nat.reduceLeDiff, e0, kw_ln2 h8 (show n < 2147483648 by omega), Nat.le_refl]
  · intro j hjn ih z hz hc hm' hd
    have hj8 : j < 8 := by omega
    have e0 : z 0 24 = Int32.ofNat n := by rw [hz.1 0 (by omega) (by omega) (by omega) (by omega) (by omega) (by omega) (by omega)]; exact hI.1.1.1.1
    have b := kw_bs_bit (kw_bm m) hj8
    rw [← kw_bs_bm hm] at b
    obtain ⟨z', r, rest⟩ := ih (kw_mu z j 5 (if kw_bm m j = true then 1 else km zM j 5)) (kw_Z_mu hj8 (by omega) hz) (by rw [kw_mu_km _ hj8 (by omega), hc, kw_op5_s]) (by rw [(kw_N_mu (z := z) hj8 (show 5 < 13 by omega)).2 104 (by omega)]; exact hm') (fun i hi => by rw [kw_mu_fr _ _ _ _ (by omega)]; exact hd i hi)
    refine ⟨z', ?_, rest⟩
    rw [← r, kv_e253_59]
    cases hb : kw_bm m j with
    | false =>
      rw [hb] at b
      simp only [kv_e253_0, kv_e253_1, kv_e253_4, kv_e253_7, kv_e253_8, kv_e253_9, kv_e253_10, kv_e253_13, kv_e253_14, kv_e253_15, kv_e253_16, kv_e253_17, kv_e253_20, kv_e253_21, kv_e253_23, kv_e253_24, kv_e253_25, kv_e253_28, kv_e253_29, kv_e253_32, kv_e253_33, kv_e253_34, kv_e253_35, kv_e253_36, kv_e253_37, kv_e253_40, kv_e253_41, kv_e253_42, kv_e253_45, kv_e253_46, kv_e253_49, kv_e253_50, kv_e253_53, kv_e253_56, kv_e253_57, kv_e253_61, kv_e253_62, kv_e253_65, kv_e253_68, kv_e253_69, kv_e253_71, kv_e253_72, kv_e253_73, kv_e253_75, kv_e253_78, kv_e253_81, kv_e253_82, kv_e253_85, kv_e253_86, kv_e253_88, kv_e253_89, kv_e253_92, kv_e253_95, kv_e253_98, kv_e253_101, kv_e253_102, kv_e253_105, kv_e253_106, kv_e253_107, kv_e253_110, kv_e253_111, kv_e253_114, kv_e253_115, kv_e253_118, kv_e253_119, kv_e253_120, kv_e253_121, kv_e253_124, kv_e253_127, kv_e253_130, kv_e253_131, kv_o10, not_false_eq_true, not_true, if_true, if_false, kv_then_s, kv_then_v, kv_then_n, List.cons_append, List.nil_append, kv_Ci, kv_Cr, kv_Cn, kv_Cu, kv_C0, kv_catc, kv_gCi, kv_gCl, kv_gCr, kv_nb0, kv_nb1, kv_nbi, kv_nb01, Nat.reduceAdd, Nat.reduceLeDiff, q1, q2, e0, kw_ln2 h8 (show j < 2147483648 by omega), eq_false (show ¬ n ≤ j by omega), kw_has, b, Bool.false_eq_true, kw_o01', eq_self, kw_of4 hj8, hc, kw_op5_5, kw_put4 hj8, kv_suc]
    | true =>
      rw [hb] at b
      simp only [kv_e253_0, kv_e253_1, kv_e253_4, kv_e253_7, kv_e253_8, kv_e253_9, kv_e253_10, kv_e253_13, kv_e253_14, kv_e253_15, kv_e253_16, kv_e253_17, kv_e253_20, kv_e253_21, kv_e253_23, kv_e253_24, kv_e253_25, kv_e253_28, kv_e253_29, kv_e253_32, kv_e253_33, kv_e253_34, kv_e253_35, kv_e253_36, kv_e253_37, kv_e253_40, kv_e253_41, kv_e253_42, kv_e253_45, kv_e253_46, kv_e253_49, kv_e253_50, kv_e253_53, kv_e253_56, kv_e253_57, kv_e253_61, kv_e253_62, kv_e253_65, kv_e253_68, kv_e253_69, kv_e253_71, kv_e253_72, kv_e253_73, kv_e253_75, kv_e253_78, kv_e253_81, kv_e253_82, kv_e253_85, kv_e253_86, kv_e253_88, kv_e253_89, kv_e253_92, kv_e253_95, kv_e253_98, kv_e253_101, kv_e253_102, kv_e253_105, kv_e253_106, kv_e253_107, kv_e253_110, kv_e253_111, kv_e253_114, kv_e253_115, kv_e253_118, kv_e253_119, kv_e253_120, kv_e253_121, kv_e253_124, kv_e253_127, kv_e253_130, kv_e253_131, kv_o10, not_false_eq_true, not_true, if_true, if_false, kv_then_s, kv_then_v, kv_then_n, List.cons_append, List.nil_append, kv_Ci, kv_Cr, kv_Cn, kv_Cu, kv_C0, kv_catc, kv_gCi, kv_gCl, kv_gCr, kv_nb0, kv_nb1, kv_nbi, kv_nb01, Nat.reduceAdd, Nat.reduceLeDiff, q1, q2, e0, kw_ln2 h8 (show j < 2147483648 by omega), eq_false (show ¬ n ≤ j by omega), kw_has, b, eq_self, kw_put4 hj8, kv_suc]
end
