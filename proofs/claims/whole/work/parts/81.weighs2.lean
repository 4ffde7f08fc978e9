/-! weighs: the model's, both -/
section
variable {d n B W : Nat} {e : List kv_E} {z zK zM zK' zM' : Nat → Nat → Int32} {zl zlM : Nat → Nat → Int64}
theorem kw_okc_w1 {c : Nat → Nat → Int32} {k w : Nat} (h : kw_okc c) (hw : w ≤ 9) : kw_okc (kv_pt c k 1 (Int32.ofNat w)) := fun i => by
  obtain ⟨⟨a1, a2⟩, a3, a4⟩ := h i
  refine ⟨⟨?_, by rw [kw_pt_ne _ _ (by omega)]; exact a2⟩, by rw [kw_pt_ne _ _ (by omega), kw_pt_ne _ _ (by omega)]; exact a3, by rw [kw_pt_ne _ _ (by omega), kw_pt_ne _ _ (by omega)]; exact a4⟩
  by_cases q : i = k
  · subst q
    rw [kw_pt_at]
    unfold kw_rg
    rw [kv_ti (by omega)]
    omega
  · rw [kw_pt_ne _ _ (fun r => q r.1)]
    exact a1
def kw_nb (g : Bool) : Int32 := if g = true then 0 else 1
theorem kw_nb_t : kw_nb true = 0 := rfl
theorem kw_nb_f : kw_nb false = 1 := rfl
theorem kw_swM1 {s T : Nat} {b : Nat → Nat} {k : Nat} (hk : k < 8) (hs : s ≤ 8) (hT : T ≤ 1000) (h0 : z 0 40 = Int32.ofNat s) (hb : ∀ i, i < s → z 23 i = Int32.ofNat (b i) ∧ b i ≤ 9) (v2 v4 v5 v6 : Option Value) (q2 : kv_c2 v2 = false) : kv_Rn d 263 12 [some (.ref 0), some (.int (Int32.ofNat k)), v2, some (.int (Int32.ofNat T)), v4, v5, v6] [] (kv_m z zl) = kv_Rn d 263 67 [some (.ref 0), some (.int (Int32.ofNat k)), v2, some (.int (Int32.ofNat T)), some (.int (kw_nb (kv_fa s 0 (fun i => decide (z 22 i = Int32.ofNat k ∧ T < b i))))), some (.int (Int32.ofNat s)), v6] [] (kv_m z zl) := by
  have r : ∀ c j, c < 300 → kv_rd z c j = z c j := fun c j hc => kv_rd_lt hc
  have hl := kv_up (fun i => kv_Rn d 263 18 [some (.ref 0), some (.int (Int32.ofNat k)), v2, some (.int (Int32.ofNat T)), some (.int (kw_nb (kv_fa i 0 (fun i => decide (z 22 i = Int32.ofNat k ∧ T < b i))))), some (.int (Int32.ofNat i)), v6] [] (kv_m z zl) = kv_Rn d 263 67 [some (.ref 0), some (.int (Int32.ofNat k)), v2, some (.int (Int32.ofNat T)), some (.int (kw_nb (kv_fa s 0 (fun i => decide (z 22 i = Int32.ofNat k ∧ T < b i))))), some (.int (Int32.ofNat s)), v6] [] (kv_m z zl)) s ?_ ?_
  · simp only [kv_e263_12, kv_e263_13, kv_e263_15, kv_e263_16, kv_o10, not_false_eq_true, not_true, if_true, if_false, kv_then_s, kv_then_v, kv_then_n, List.cons_append, List.nil_append, kv_Ci, kv_Cr, kv_Cn, kv_Cu, kv_C0, kv_catc, kv_gCi, kv_gCl, kv_gCr, kv_nb0, kv_nb1, kv_nbi, kv_nb01, Nat.reduceAdd, Nat.reduceLeDiff]
    exact hl
  · rw [kv_e263_18]
    simp only [kv_e263_20, kv_e263_21, kv_e263_24, kv_o10, not_false_eq_true, not_true, if_true, if_false, kv_then_s, kv_then_v, kv_then_n, List.cons_append, List.nil_append, kv_Ci, kv_Cr, kv_Cn, kv_Cu, kv_C0, kv_catc, kv_gCi, kv_gCl, kv_gCr, kv_nb0, kv_nb1, kv_nbi, kv_nb01, Nat.reduceAdd, Nat.reduceLeDiff, h0, Int32.le_refl]
  · intro i hi ih
    have hi2 : i < 2147483648 := by omega
    obtain ⟨b1, b2⟩ := hb i hi
    rw [kw_fa_snoc, Nat.zero_add] at ih
    rw [kv_e263_18, ← ih]
    cases hg : kv_fa i 0 (fun i => decide (z 22 i = Int32.ofNat k ∧ T < b i)) with
    | true => simp only [kv_e263_0, kv_e263_1, kv_e263_2, kv_e263_3, kv_e263_4, kv_e263_7, kv_e263_8, kv_e263_11, kv_e263_12, kv_e263_13, kv_e263_15, kv_e263_16, kv_e263_20, kv_e263_21, kv_e263_24, kv_e263_27, kv_e263_29, kv_e263_32, kv_e263_33, kv_e263_36, kv_e263_38, kv_e263_39, kv_e263_40, kv_e263_43, kv_e263_44, kv_e263_47, kv_e263_49, kv_e263_50, kv_e263_51, kv_e263_54, kv_e263_55, kv_e263_58, kv_e263_59, kv_e263_61, kv_e263_64, kv_e263_67, kv_e263_68, kv_e263_72, kv_e263_74, kv_e263_75, kv_e263_78, kv_e263_81, kv_e263_82, kv_e263_85, kv_e263_86, kv_e263_87, kv_e263_91, kv_e263_92, kv_e263_95, kv_e263_98, kv_e263_100, kv_e263_103, kv_e263_104, kv_e263_107, kv_e263_109, kv_e263_110, kv_e263_111, kv_e263_114, kv_e263_115, kv_e263_118, kv_e263_120, kv_e263_121, kv_e263_123, kv_e263_126, kv_e263_127, kv_e263_130, kv_e263_132, kv_e263_133, kv_e263_134, kv_e263_135, kv_e263_136, kv_e263_139, kv_e263_142, kv_e263_143, kv_e263_146, kv_e263_147, kv_e263_149, kv_e263_152, kv_e263_155, kv_e263_158, kv_e263_161, kv_e263_162, kv_e263_165, kv_e263_167, kv_o10, not_false_eq_true, not_true, if_true, if_false, kv_then_s, kv_then_v, kv_then_n, List.cons_append, List.nil_append, kv_Ci, kv_Cr, kv_Cn, kv_Cu, kv_C0, kv_catc, kv_gCi, kv_gCl, kv_gCr, kv_nb0, kv_nb1, kv_nbi, kv_nb01, Nat.reduceAdd, Nat.reduceLeDiff, h0, kv_nle (show s < 2147483648 by omega) hi2, eq_false (show ¬ s ≤ i by omega), kw_nb_t, eq_self, Bool.true_or, kv_suc]
    | false =>
      by_cases q1 : z 22 i = Int32.ofNat k
      · by_cases q2' : T < b i
        · simp only [kv_e263_0, kv_e263_1, kv_e263_2, kv_e263_3, kv_e263_4, kv_e263_7, kv_e263_8, kv_e263_11, kv_e263_12, kv_e263_13, kv_e263_15, kv_e263_16, kv_e263_20, kv_e263_21, kv_e263_24, kv_e263_27, kv_e263_29, kv_e263_32, kv_e263_33, kv_e263_36, kv_e263_38, kv_e263_39, kv_e263_40, kv_e263_43, kv_e263_44, kv_e263_47, kv_e263_49, kv_e263_50, kv_e263_51, kv_e263_54, kv_e263_55, kv_e263_58, kv_e263_59, kv_e263_61, kv_e263_64, kv_e263_67, kv_e263_68, kv_e263_72, kv_e263_74, kv_e263_75, kv_e263_78, kv_e263_81, kv_e263_82, kv_e263_85, kv_e263_86, kv_e263_87, kv_e263_91, kv_e263_92, kv_e263_95, kv_e263_98, kv_e263_100, kv_e263_103, kv_e263_104, kv_e263_107, kv_e263_109, kv_e263_110, kv_e263_111, kv_e263_114, kv_e263_115, kv_e263_118, kv_e263_120, kv_e263_121, kv_e263_123, kv_e263_126, kv_e263_127, kv_e263_130, kv_e263_132, kv_e263_133, kv_e263_134, kv_e263_135, kv_e263_136, kv_e263_139, kv_e263_142, kv_e263_143, kv_e263_146, kv_e263_147, kv_e263_149, kv_e263_152, kv_e263_155, kv_e263_158, kv_e263_161, kv_e263_162, kv_e263_165, kv_e263_167, kv_o10, not_false_eq_true, not_true, if_true, if_false, kv_then_s, kv_then_v, kv_then_n, List.cons_append, List.nil_append, kv_Ci, kv_Cr, kv_Cn, kv_Cu, kv_C0, kv_catc, kv_gCi, kv_gCl, kv_gCr, kv_nb0, kv_nb1, kv_nbi, kv_nb01, Nat.reduceAdd, Nat.reduceLeDiff, h0, kv_nle (show s < 2147483648 by omega) hi2, eq_false (show ¬ s ≤ i by omega), kw_nb_f, kw_n0 hi2, kv_tn hi2, kv_ar_lt (show 22 < 300 by omega), kv_ar_lt (show 23 < 300 by omega), r _ _ (show 22 < 300 by omega), r _ _ (show 23 < 300 by omega), kv_am22, kv_am23, kv_lN (show i < 8 by omega), or_self, q1, b1, kv_nlt (show T < 2147483648 by omega) (show b i < 2147483648 by omega), q2', and_self, decide_true, Bool.or_true, kw_nb_t, eq_self, kv_suc]
        · simp only [kv_e263_0, kv_e263_1, kv_e263_2, kv_e263_3, kv_e263_4, kv_e263_7, kv_e263_8, kv_e263_11, kv_e263_12, kv_e263_13, kv_e263_15, kv_e263_16, kv_e263_20, kv_e263_21, kv_e263_24, kv_e263_27, kv_e263_29, kv_e263_32, kv_e263_33, kv_e263_36, kv_e263_38, kv_e263_39, kv_e263_40, kv_e263_43, kv_e263_44, kv_e263_47, kv_e263_49, kv_e263_50, kv_e263_51, kv_e263_54, kv_e263_55, kv_e263_58, kv_e263_59, kv_e263_61, kv_e263_64, kv_e263_67, kv_e263_68, kv_e263_72, kv_e263_74, kv_e263_75, kv_e263_78, kv_e263_81, kv_e263_82, kv_e263_85, kv_e263_86, kv_e263_87, kv_e263_91, kv_e263_92, kv_e263_95, kv_e263_98, kv_e263_100, kv_e263_103, kv_e263_104, kv_e263_107, kv_e263_109, kv_e263_110, kv_e263_111, kv_e263_114, kv_e263_115, kv_e263_118, kv_e263_120, kv_e263_121, kv_e263_123, kv_e263_126, kv_e263_127, kv_e263_130, kv_e263_132, kv_e263_133, kv_e263_134, kv_e263_135, kv_e263_136, kv_e263_139, kv_e263_142, kv_e263_143, kv_e263_146, kv_e263_147, kv_e263_149, kv_e263_152, kv_e263_155, kv_e263_158, kv_e263_161, kv_e263_162, kv_e263_165, kv_e263_167, kv_o10, not_false_eq_true, not_true, if_true, if_false, kv_then_s, kv_then_v, kv_then_n, List.cons_append, List.nil_append, kv_Ci, kv_Cr, kv_Cn, kv_Cu, kv_C0, kv_catc, kv_gCi, kv_gCl, kv_gCr, kv_nb0, kv_nb1, kv_nbi, kv_nb01, Nat.reduceAdd, Nat.reduceLeDiff, h0, kv_nle (show s < 2147483648 by omega) hi2, eq_false (show ¬ s ≤ i by omega), kw_nb_f, kw_n0 hi2, kv_tn hi2, kv_ar_lt (show 22 < 300 by omega), kv_ar_lt (show 23 < 300 by omega), r _ _ (show 22 < 300 by omega), r _ _ (show 23 < 300 by omega), kv_am22, kv_am23, kv_lN (show i < 8 by omega), or_self, q1, b1, kv_nlt (show T < 2147483648 by omega) (show b i < 2147483648 by omega), q2', and_false, decide_false, Bool.or_self, eq_self, kv_suc]
      · simp only [kv_e263_0, kv_e263_1, kv_e263_2, kv_e263_3, kv_e263_4, kv_e263_7, kv_e263_8, kv_e263_11, kv_e263_12, kv_e263_13, kv_e263_15, kv_e263_16, kv_e263_20, kv_e263_21, kv_e263_24, kv_e263_27, kv_e263_29, kv_e263_32, kv_e263_33, kv_e263_36, kv_e263_38, kv_e263_39, kv_e263_40, kv_e263_43, kv_e263_44, kv_e263_47, kv_e263_49, kv_e263_50, kv_e263_51, kv_e263_54, kv_e263_55, kv_e263_58, kv_e263_59, kv_e263_61, kv_e263_64, kv_e263_67, kv_e263_68, kv_e263_72, kv_e263_74, kv_e263_75, kv_e263_78, kv_e263_81, kv_e263_82, kv_e263_85, kv_e263_86, kv_e263_87, kv_e263_91, kv_e263_92, kv_e263_95, kv_e263_98, kv_e263_100, kv_e263_103, kv_e263_104, kv_e263_107, kv_e263_109, kv_e263_110, kv_e263_111, kv_e263_114, kv_e263_115, kv_e263_118, kv_e263_120, kv_e263_121, kv_e263_123, kv_e263_126, kv_e263_127, kv_e263_130, kv_e263_132, kv_e263_133, kv_e263_134, kv_e263_135, kv_e263_136, kv_e263_139, kv_e263_142, kv_e263_143, kv_e263_146, kv_e263_147, kv_e263_149, kv_e263_152, kv_e263_155, kv_e263_158, kv_e263_161, kv_e263_162, kv_e263_165, kv_e263_167, kv_o10, not_false_eq_true, not_true, if_true, if_false, kv_then_s, kv_then_v, kv_then_n, List.cons_append, List.nil_append, kv_Ci, kv_Cr, kv_Cn, kv_Cu, kv_C0, kv_catc, kv_gCi, kv_gCl, kv_gCr, kv_nb0, kv_nb1, kv_nbi, kv_nb01, Nat.reduceAdd, Nat.reduceLeDiff, h0, kv_nle (show s < 2147483648 by omega) hi2, eq_false (show ¬ s ≤ i by omega), kw_nb_f, kw_n0 hi2, kv_tn hi2, kv_ar_lt (show 22 < 300 by omega), r _ _ (show 22 < 300 by omega), kv_am22, kv_lN (show i < 8 by omega), or_self, q1, false_and, decide_false, Bool.or_self, eq_self, kv_suc]
theorem kw_swM2 {s j : Nat} {b : Nat → Nat} {k : Nat} {g : Bool} {x : Int32} (hk : k < 8) (hs : s ≤ 8) (hj : j ≤ 1000) (hx : km z k 4 = x) (h0 : z 0 40 = Int32.ofNat s) (hb : ∀ i, i < s → z 23 i = Int32.ofNat (b i) ∧ b i ≤ 9) (v2 v3 v6 : Option Value) (q2 : kv_c2 v2 = false) (q3 : kv_c2 v3 = false) : kv_Rn (d + 1) 263 86 [some (.ref 0), some (.int (Int32.ofNat k)), v2, v3, some (.int (kw_nb g)), some (.int (Int32.ofNat j)), v6] [] (kv_m z zl) = kv_Rn (d + 1) 263 155 [some (.ref 0), some (.int (Int32.ofNat k)), v2, v3, some (.int (kw_nb (g || kv_fa s 0 (fun i => decide (z 22 i = Int32.ofNat k ∧ b i = j ∧ ¬ z 24 i = x))))), some (.int (Int32.ofNat j)), some (.int (Int32.ofNat s))] [] (kv_m z zl) := by
  have r : ∀ c j, c < 300 → kv_rd z c j = z c j := fun c j hc => kv_rd_lt hc
  have hl := kv_up (fun i => kv_Rn (d + 1) 263 89 [some (.ref 0), some (.int (Int32.ofNat k)), v2, v3, some (.int (kw_nb (g || kv_fa i 0 (fun i => decide (z 22 i = Int32.ofNat k ∧ b i = j ∧ ¬ z 24 i = x))))), some (.int (Int32.ofNat j)), some (.int (Int32.ofNat i))] [] (kv_m z zl) = kv_Rn (d + 1) 263 155 [some (.ref 0), some (.int (Int32.ofNat k)), v2, v3, some (.int (kw_nb (g || kv_fa s 0 (fun i => decide (z 22 i = Int32.ofNat k ∧ b i = j ∧ ¬ z 24 i = x))))), some (.int (Int32.ofNat j)), some (.int (Int32.ofNat s))] [] (kv_m z zl)) s ?_ ?_
  · have e0 : kv_fa 0 0 (fun i => decide (z 22 i = Int32.ofNat k ∧ b i = j ∧ ¬ z 24 i = x)) = false := rfl
    rw [e0, Bool.or_false] at hl
    simp only [kv_e263_86, kv_e263_87, kv_o10, not_false_eq_true, not_true, if_true, if_false, kv_then_s, kv_then_v, kv_then_n, List.cons_append, List.nil_append, kv_Ci, kv_Cr, kv_Cn, kv_Cu, kv_C0, kv_catc, kv_gCi, kv_gCl, kv_gCr, kv_nb0, kv_nb1, kv_nbi, kv_nb01, Nat.reduceAdd, Nat.reduceLeDiff]
    exact hl
  · rw [kv_e263_89]
    simp only [kv_e263_91, kv_e263_92, kv_e263_95, kv_o10, not_false_eq_true, not_true, if_true, if_false, kv_then_s, kv_then_v, kv_then_n, List.cons_append, List.nil_append, kv_Ci, kv_Cr, kv_Cn, kv_Cu, kv_C0, kv_catc, kv_gCi, kv_gCl, kv_gCr, kv_nb0, kv_nb1, kv_nbi, kv_nb01, Nat.reduceAdd, Nat.reduceLeDiff, h0, Int32.le_refl]
  · intro i hi ih
    have hi2 : i < 2147483648 := by omega
    obtain ⟨b1, b2⟩ := hb i hi
    rw [kw_fa_snoc, Nat.zero_add, ← Bool.or_assoc] at ih
    rw [kv_e263_89, ← ih]
    cases hg : (g || kv_fa i 0 (fun i => decide (z 22 i = Int32.ofNat k ∧ b i = j ∧ ¬ z 24 i = x))) with
    | true => simp only [kv_e263_0, kv_e263_1, kv_e263_2, kv_e263_3, kv_e263_4, kv_e263_7, kv_e263_8, kv_e263_11, kv_e263_12, kv_e263_13, kv_e263_15, kv_e263_16, kv_e263_20, kv_e263_21, kv_e263_24, kv_e263_27, kv_e263_29, kv_e263_32, kv_e263_33, kv_e263_36, kv_e263_38, kv_e263_39, kv_e263_40, kv_e263_43, kv_e263_44, kv_e263_47, kv_e263_49, kv_e263_50, kv_e263_51, kv_e263_54, kv_e263_55, kv_e263_58, kv_e263_59, kv_e263_61, kv_e263_64, kv_e263_67, kv_e263_68, kv_e263_72, kv_e263_74, kv_e263_75, kv_e263_78, kv_e263_81, kv_e263_82, kv_e263_85, kv_e263_86, kv_e263_87, kv_e263_91, kv_e263_92, kv_e263_95, kv_e263_98, kv_e263_100, kv_e263_103, kv_e263_104, kv_e263_107, kv_e263_109, kv_e263_110, kv_e263_111, kv_e263_114, kv_e263_115, kv_e263_118, kv_e263_120, kv_e263_121, kv_e263_123, kv_e263_126, kv_e263_127, kv_e263_130, kv_e263_132, kv_e263_133, kv_e263_134, kv_e263_135, kv_e263_136, kv_e263_139, kv_e263_142, kv_e263_143, kv_e263_146, kv_e263_147, kv_e263_149, kv_e263_152, kv_e263_155, kv_e263_158, kv_e263_161, kv_e263_162, kv_e263_165, kv_e263_167, kv_o10, not_false_eq_true, not_true, if_true, if_false, kv_then_s, kv_then_v, kv_then_n, List.cons_append, List.nil_append, kv_Ci, kv_Cr, kv_Cn, kv_Cu, kv_C0, kv_catc, kv_gCi, kv_gCl, kv_gCr, kv_nb0, kv_nb1, kv_nbi, kv_nb01, Nat.reduceAdd, Nat.reduceLeDiff, q2, q3, h0, kv_nle (show s < 2147483648 by omega) hi2, eq_false (show ¬ s ≤ i by omega), kw_nb_t, eq_self, Bool.true_or, kv_suc]
    | false =>
      by_cases q1 : z 22 i = Int32.ofNat k
      · by_cases q2' : b i = j
        · by_cases q3' : z 24 i = x
          · simp only [kv_e263_0, kv_e263_1, kv_e263_2, kv_e263_3, kv_e263_4, kv_e263_7, kv_e263_8, kv_e263_11, kv_e263_12, kv_e263_13, kv_e263_15, kv_e263_16, kv_e263_20, kv_e263_21, kv_e263_24, kv_e263_27, kv_e263_29, kv_e263_32, kv_e263_33, kv_e263_36, kv_e263_38, kv_e263_39, kv_e263_40, kv_e263_43, kv_e263_44, kv_e263_47, kv_e263_49, kv_e263_50, kv_e263_51, kv_e263_54, kv_e263_55, kv_e263_58, kv_e263_59, kv_e263_61, kv_e263_64, kv_e263_67, kv_e263_68, kv_e263_72, kv_e263_74, kv_e263_75, kv_e263_78, kv_e263_81, kv_e263_82, kv_e263_85, kv_e263_86, kv_e263_87, kv_e263_91, kv_e263_92, kv_e263_95, kv_e263_98, kv_e263_100, kv_e263_103, kv_e263_104, kv_e263_107, kv_e263_109, kv_e263_110, kv_e263_111, kv_e263_114, kv_e263_115, kv_e263_118, kv_e263_120, kv_e263_121, kv_e263_123, kv_e263_126, kv_e263_127, kv_e263_130, kv_e263_132, kv_e263_133, kv_e263_134, kv_e263_135, kv_e263_136, kv_e263_139, kv_e263_142, kv_e263_143, kv_e263_146, kv_e263_147, kv_e263_149, kv_e263_152, kv_e263_155, kv_e263_158, kv_e263_161, kv_e263_162, kv_e263_165, kv_e263_167, kv_o10, not_false_eq_true, not_true, if_true, if_false, kv_then_s, kv_then_v, kv_then_n, List.cons_append, List.nil_append, kv_Ci, kv_Cr, kv_Cn, kv_Cu, kv_C0, kv_catc, kv_gCi, kv_gCl, kv_gCr, kv_nb0, kv_nb1, kv_nbi, kv_nb01, Nat.reduceAdd, Nat.reduceLeDiff, q2, q3, h0, kv_nle (show s < 2147483648 by omega) hi2, eq_false (show ¬ s ≤ i by omega), kw_nb_f, kw_n0 hi2, kv_tn hi2, kv_ar_lt (show 22 < 300 by omega), kv_ar_lt (show 23 < 300 by omega), kv_ar_lt (show 24 < 300 by omega), r _ _ (show 22 < 300 by omega), r _ _ (show 23 < 300 by omega), r _ _ (show 24 < 300 by omega), kv_am22, kv_am23, kv_am24, kv_lN (show i < 8 by omega), or_self, q1, b1, kv_neq (show b i < 2147483648 by omega) (show j < 2147483648 by omega), q2', kw_of3 hk, hx, q3', and_false, decide_false, Bool.or_self, eq_self, kv_suc]
          · simp only [kv_e263_0, kv_e263_1, kv_e263_2, kv_e263_3, kv_e263_4, kv_e263_7, kv_e263_8, kv_e263_11, kv_e263_12, kv_e263_13, kv_e263_15, kv_e263_16, kv_e263_20, kv_e263_21, kv_e263_24, kv_e263_27, kv_e263_29, kv_e263_32, kv_e263_33, kv_e263_36, kv_e263_38, kv_e263_39, kv_e263_40, kv_e263_43, kv_e263_44, kv_e263_47, kv_e263_49, kv_e263_50, kv_e263_51, kv_e263_54, kv_e263_55, kv_e263_58, kv_e263_59, kv_e263_61, kv_e263_64, kv_e263_67, kv_e263_68, kv_e263_72, kv_e263_74, kv_e263_75, kv_e263_78, kv_e263_81, kv_e263_82, kv_e263_85, kv_e263_86, kv_e263_87, kv_e263_91, kv_e263_92, kv_e263_95, kv_e263_98, kv_e263_100, kv_e263_103, kv_e263_104, kv_e263_107, kv_e263_109, kv_e263_110, kv_e263_111, kv_e263_114, kv_e263_115, kv_e263_118, kv_e263_120, kv_e263_121, kv_e263_123, kv_e263_126, kv_e263_127, kv_e263_130, kv_e263_132, kv_e263_133, kv_e263_134, kv_e263_135, kv_e263_136, kv_e263_139, kv_e263_142, kv_e263_143, kv_e263_146, kv_e263_147, kv_e263_149, kv_e263_152, kv_e263_155, kv_e263_158, kv_e263_161, kv_e263_162, kv_e263_165, kv_e263_167, kv_o10, not_false_eq_true, not_true, if_true, if_false, kv_then_s, kv_then_v, kv_then_n, List.cons_append, List.nil_append, kv_Ci, kv_Cr, kv_Cn, kv_Cu, kv_C0, kv_catc, kv_gCi, kv_gCl, kv_gCr, kv_nb0, kv_nb1, kv_nbi, kv_nb01, Nat.reduceAdd, Nat.reduceLeDiff, q2, q3, h0, kv_nle (show s < 2147483648 by omega) hi2, eq_false (show ¬ s ≤ i by omega), kw_nb_f, kw_n0 hi2, kv_tn hi2, kv_ar_lt (show 22 < 300 by omega), kv_ar_lt (show 23 < 300 by omega), kv_ar_lt (show 24 < 300 by omega), r _ _ (show 22 < 300 by omega), r _ _ (show 23 < 300 by omega), r _ _ (show 24 < 300 by omega), kv_am22, kv_am23, kv_am24, kv_lN (show i < 8 by omega), or_self, q1, b1, kv_neq (show b i < 2147483648 by omega) (show j < 2147483648 by omega), q2', kw_of3 hk, hx, q3', and_self, decide_true, Bool.or_true, kw_nb_t, eq_self, kv_suc]
        · simp only [kv_e263_0, kv_e263_1, kv_e263_2, kv_e263_3, kv_e263_4, kv_e263_7, kv_e263_8, kv_e263_11, kv_e263_12, kv_e263_13, kv_e263_15, kv_e263_16, kv_e263_20, kv_e263_21, kv_e263_24, kv_e263_27, kv_e263_29, kv_e263_32, kv_e263_33, kv_e263_36, kv_e263_38, kv_e263_39, kv_e263_40, kv_e263_43, kv_e263_44, kv_e263_47, kv_e263_49, kv_e263_50, kv_e263_51, kv_e263_54, kv_e263_55, kv_e263_58, kv_e263_59, kv_e263_61, kv_e263_64, kv_e263_67, kv_e263_68, kv_e263_72, kv_e263_74, kv_e263_75, kv_e263_78, kv_e263_81, kv_e263_82, kv_e263_85, kv_e263_86, kv_e263_87, kv_e263_91, kv_e263_92, kv_e263_95, kv_e263_98, kv_e263_100, kv_e263_103, kv_e263_104, kv_e263_107, kv_e263_109, kv_e263_110, kv_e263_111, kv_e263_114, kv_e263_115, kv_e263_118, kv_e263_120, kv_e263_121, kv_e263_123, kv_e263_126, kv_e263_127, kv_e263_130, kv_e263_132, kv_e263_133, kv_e263_134, kv_e263_135, kv_e263_136, kv_e263_139, kv_e263_142, kv_e263_143, kv_e263_146, kv_e263_147, kv_e263_149, kv_e263_152, kv_e263_155, kv_e263_158, kv_e263_161, kv_e263_162, kv_e263_165, kv_e263_167, kv_o10, not_false_eq_true, not_true, if_true, if_false, kv_then_s, kv_then_v, kv_then_n, List.cons_append, List.nil_append, kv_Ci, kv_Cr, kv_Cn, kv_Cu, kv_C0, kv_catc, kv_gCi, kv_gCl, kv_gCr, kv_nb0, kv_nb1, kv_nbi, kv_nb01, Nat.reduceAdd, Nat.reduceLeDiff, q2, q3, h0, kv_nle (show s < 2147483648 by omega) hi2, eq_false (show ¬ s ≤ i by omega), kw_nb_f, kw_n0 hi2, kv_tn hi2, kv_ar_lt (show 22 < 300 by omega), kv_ar_lt (show 23 < 300 by omega), r _ _ (show 22 < 300 by omega), r _ _ (show 23 < 300 by omega), kv_am22, kv_am23, kv_lN (show i < 8 by omega), or_self, q1, b1, kv_neq (show b i < 2147483648 by omega) (show j < 2147483648 by omega), q2', false_and, and_false, decide_false, Bool.or_self, eq_self, kv_suc]
      · simp only [kv_e263_0, kv_e263_1, kv_e263_2, kv_e263_3, kv_e263_4, kv_e263_7, kv_e263_8, kv_e263_11, kv_e263_12, kv_e263_13, kv_e263_15, kv_e263_16, kv_e263_20, kv_e263_21, kv_e263_24, kv_e263_27, kv_e263_29, kv_e263_32, kv_e263_33, kv_e263_36, kv_e263_38, kv_e263_39, kv_e263_40, kv_e263_43, kv_e263_44, kv_e263_47, kv_e263_49, kv_e263_50, kv_e263_51, kv_e263_54, kv_e263_55, kv_e263_58, kv_e263_59, kv_e263_61, kv_e263_64, kv_e263_67, kv_e263_68, kv_e263_72, kv_e263_74, kv_e263_75, kv_e263_78, kv_e263_81, kv_e263_82, kv_e263_85, kv_e263_86, kv_e263_87, kv_e263_91, kv_e263_92, kv_e263_95, kv_e263_98, kv_e263_100, kv_e263_103, kv_e263_104, kv_e263_107, kv_e263_109, kv_e263_110, kv_e263_111, kv_e263_114, kv_e263_115, kv_e263_118, kv_e263_120, kv_e263_121, kv_e263_123, kv_e263_126, kv_e263_127, kv_e263_130, kv_e263_132, kv_e263_133, kv_e263_134, kv_e263_135, kv_e263_136, kv_e263_139, kv_e263_142, kv_e263_143, kv_e263_146, kv_e263_147, kv_e263_149, kv_e263_152, kv_e263_155, kv_e263_158, kv_e263_161, kv_e263_162, kv_e263_165, kv_e263_167, kv_o10, not_false_eq_true, not_true, if_true, if_false, kv_then_s, kv_then_v, kv_then_n, List.cons_append, List.nil_append, kv_Ci, kv_Cr, kv_Cn, kv_Cu, kv_C0, kv_catc, kv_gCi, kv_gCl, kv_gCr, kv_nb0, kv_nb1, kv_nbi, kv_nb01, Nat.reduceAdd, Nat.reduceLeDiff, q2, q3, h0, kv_nle (show s < 2147483648 by omega) hi2, eq_false (show ¬ s ≤ i by omega), kw_nb_f, kw_n0 hi2, kv_tn hi2, kv_ar_lt (show 22 < 300 by omega), r _ _ (show 22 < 300 by omega), kv_am22, kv_lN (show i < 8 by omega), or_self, q1, false_and, decide_false, Bool.or_self, eq_self, kv_suc]
theorem kw_soM (h : kw_R n B W zK zM) {M s : Nat} {b : Nat → Nat} (hM : zK 36 3 = Int32.ofNat M) (hB : M ≤ B) (hs : s ≤ 8) (h1 : zM 0 40 = Int32.ofNat s) (hb : ∀ i, i < s → zM 23 i = Int32.ofNat (b i) ∧ b i ≤ 9) (hj : kw_J zM z) {k w : Nat} (hk : k < 8) (hw : w ≤ 9) : ∃ z', kv_Rn (d + 7) 263 0 [some (.ref 0), some (.int (Int32.ofNat k)), some (.int (Int32.ofNat w)), none, none, none, none] [] (kv_m z zlM) = some (some (.int (if kw_sw zK zM B M s b k (kv_pt (km zM) k 1 (Int32.ofNat w)) = true then 1 else 0)), kv_m z' zlM) ∧ kw_J zM z' := by
  have hI := kw_R_I h
  have h8 := hI.1.1.1.2
  obtain ⟨em, M', m1, m2, m3, m4, m5⟩ := kw_R_min h
  have el : Int32.ofNat B - Int32.ofNat M = Int32.ofNat (B - M) := by
    have := @kw_subN M (B - M)
    rw [show M + (B - M) = B from by omega] at this
    exact this
  have em2 : zM 16 104 = Int32.ofNat M := by rw [← em, hM]
  have L9 : kw_lan (zM 22) b (Int32.ofNat k) s ≤ 9 := by
    rw [kw_lan_le]
    exact fun i hi _ => (hb i hi).2
  generalize hc0 : kv_pt (km zM) k 1 (Int32.ofNat w) = c0
  have ok0 : kw_okc c0 := by rw [← hc0]; exact kw_okc_w1 hI.2.2.2.1 hw
  have z01 : kw_01 n c0 := by rw [← hc0]; exact kw_01_pt hI.1.1.2 (by omega)
  generalize hg0 : kv_fa s 0 (fun i => decide (zM 22 i = Int32.ofNat k ∧ B - M < b i)) = g0
  have cell : ∀ {z : Nat → Nat → Int32}, kw_Z zM z → z 0 = zM 0 ∧ z 22 = zM 22 ∧ z 23 = zM 23 ∧ z 24 = zM 24 := fun {z} hx => ⟨hx.1 0 (by omega) (by omega) (by omega) (by omega) (by omega) (by omega) (by omega), hx.1 22 (by omega) (by omega) (by omega) (by omega) (by omega) (by omega) (by omega), hx.1 23 (by omega) (by omega) (by omega) (by omega) (by omega) (by omega) (by omega), hx.1 24 (by omega) (by omega) (by omega) (by omega) (by omega) (by omega) (by omega)⟩
  have hl : ∀ t j, j + t = min 9 (B - M) + 1 → 1 ≤ j → ∀ z u6, kw_Z zM z → km z = kw_cj zK zM M c0 (j - 1) → z 16 104 = Int32.ofNat (M + (j - 1)) → (∀ i, i < n → z 17 i = -1) → ∃ z', kv_Rn (d + 7) 263 70 [some (.ref 0), some (.int (Int32.ofNat k)), some (.int (Int32.ofNat w)), some (.int (Int32.ofNat (B - M))), some (.int (kw_nb (g0 || kv_fa (j - 1) 1 (kw_bad zK zM M s b k c0)))), some (.int (Int32.ofNat j)), u6] [] (kv_m z zlM) = some (some (.int (kw_nb (g0 || kv_fa (min 9 (B - M)) 1 (kw_bad zK zM M s b k c0)))), kv_m z' zlM) ∧ kw_J zM z' := by
    intro t
    induction t with
    | zero =>
      intro j hj hj1 z u6 hz hc hm hd
      obtain ⟨y3, s3, j3⟩ := kw_backM (d := d + 5) (zlM := zlM) hz
      refine ⟨y3, ?_, j3⟩
      have q2 : (Int32.ofNat (min 9 (B - M)) < Int32.ofNat j) = True := by rw [kv_nlt (by omega) (by omega)]; exact eq_true (by omega)
      have emn : kv_mn 9 (Int32.ofNat (B - M)) = Int32.ofNat (min 9 (B - M)) := kw_mnN (a := 9) (by omega) (by omega)
      rw [kv_e263_70]
      simp only [kv_e263_72, kv_e263_74, kv_e263_75, kv_e263_78, kv_e263_161, kv_e263_162, kv_e263_165, kv_e263_167, kv_o10, not_false_eq_true, not_true, if_true, if_false, kv_then_s, kv_then_v, kv_then_n, List.cons_append, List.nil_append, kv_Ci, kv_Cr, kv_Cn, kv_Cu, kv_C0, kv_catc, kv_gCi, kv_gCl, kv_gCr, kv_nb0, kv_nb1, kv_nbi, kv_nb01, Nat.reduceAdd, Nat.reduceLeDiff, emn, q2, s3]
      rw [show j - 1 = min 9 (B - M) from by omega]
      unfold kw_nb
      split <;> simp only [kv_e263_167, kv_o10, not_false_eq_true, not_true, if_true, if_false, kv_then_s, kv_then_v, kv_then_n, List.cons_append, List.nil_append, kv_Ci, kv_Cr, kv_Cn, kv_Cu, kv_C0, kv_catc, kv_gCi, kv_gCl, kv_gCr, kv_nb0, kv_nb1, kv_nbi, kv_nb01, Nat.reduceAdd, Nat.reduceLeDiff]
    | succ t ih =>
      intro j hj hj1 z u6 hz hc hm hd
      have q2 : (Int32.ofNat (min 9 (B - M)) < Int32.ofNat j) = False := by rw [kv_nlt (by omega) (by omega)]; exact eq_false (by omega)
      have emn : kv_mn 9 (Int32.ofNat (B - M)) = Int32.ofNat (min 9 (B - M)) := kw_mnN (a := 9) (by omega) (by omega)
      obtain ⟨z2, r, r2, z2Z, c2, m2', d2⟩ := kw_stepMj (d := d) (zlM := zlM) h ok0 z01 (show M + (j - 1) ≤ 1000 by omega) hz hc hm hd
      rw [show j - 1 + 1 = j from by omega] at c2 m2'
      obtain ⟨f0, f1, f2, f3⟩ := cell z2Z
      have st := kw_swM2 (d := d + 6) (z := z2) (zl := zlM) (b := b) (g := g0 || kv_fa (j - 1) 1 (kw_bad zK zM M s b k c0)) (x := kw_cj zK zM M c0 j k 4) hk hs (show j ≤ 1000 by omega) (by rw [c2]) (by rw [f0]; exact h1) (fun i hi => by rw [f2]; exact hb i hi) (some (.int (Int32.ofNat w))) (some (.int (Int32.ofNat (B - M)))) u6 rfl rfl
      rw [f1, f3] at st
      have eb : kv_fa s 0 (fun i => decide (zM 22 i = Int32.ofNat k ∧ b i = j ∧ ¬ zM 24 i = kw_cj zK zM M c0 j k 4)) = kw_bad zK zM M s b k c0 j := rfl
      have es : (g0 || kv_fa (j - 1) 1 (kw_bad zK zM M s b k c0) || kw_bad zK zM M s b k c0 j) = (g0 || kv_fa (j + 1 - 1) 1 (kw_bad zK zM M s b k c0)) := by
        rw [show j + 1 - 1 = (j - 1) + 1 from by omega, kw_fa_snoc, show 1 + (j - 1) = j from by omega, Bool.or_assoc]
      rw [eb, es] at st
      obtain ⟨z', r', x'⟩ := ih (j + 1) (by omega) (by omega) z2 (some (.int (Int32.ofNat s))) z2Z (by rw [show j + 1 - 1 = j from by omega]; exact c2) (by rw [show j + 1 - 1 = j from by omega]; exact m2') d2
      refine ⟨z', ?_, x'⟩
      rw [← r', kv_e263_70]
      simp only [kv_e263_72, kv_e263_74, kv_e263_75, kv_e263_78, kv_e263_81, kv_e263_82, kv_e263_85, kv_e263_155, kv_e263_158, kv_o10, not_false_eq_true, not_true, if_true, if_false, kv_then_s, kv_then_v, kv_then_n, List.cons_append, List.nil_append, kv_Ci, kv_Cr, kv_Cn, kv_Cu, kv_C0, kv_catc, kv_gCi, kv_gCl, kv_gCr, kv_nb0, kv_nb1, kv_nbi, kv_nb01, Nat.reduceAdd, Nat.reduceLeDiff, emn, q2, r2, st, kv_suc]
  have hjZ := kw_J_Z hj
  have zs : kw_Z zM (kw_mu z k 1 (Int32.ofNat w)) := kw_Z_mu hk (by omega) hjZ
  obtain ⟨f0, f1, f2, f3⟩ := cell zs
  have e14 : kw_mu z k 1 (Int32.ofNat w) 14 = zM 14 := zs.1 14 (by omega) (by omega) (by omega) (by omega) (by omega) (by omega) (by omega)
  have t104 : kw_mu z k 1 (Int32.ofNat w) 16 104 = Int32.ofNat M := by rw [(kw_N_mu (z := z) hk (show 1 < 13 by omega)).2 104 (by omega), kw_J_m hj, em2]
  have st1 := kw_swM1 (d := d + 7) (z := kw_mu z k 1 (Int32.ofNat w)) (zl := zlM) (b := b) (T := B - M) hk hs (by omega) (by rw [f0]; exact h1) (fun i hi => by rw [f2]; exact hb i hi) (some (.int (Int32.ofNat w))) none none none rfl
  rw [f1, hg0] at st1
  obtain ⟨z', r', x'⟩ := hl (min 9 (B - M)) 1 (by omega) (by omega) _ none zs (by rw [kw_mu_km _ hk (by omega), kw_J_km hj, hc0]; rfl) t104 (fun i hi => by rw [kw_mu_fr _ _ _ _ (by omega)]; exact hj.2.2 i (by omega))
  refine ⟨z', ?_, x'⟩
  have e0 : kv_fa (1 - 1) 1 (kw_bad zK zM M s b k c0) = false := rfl
  rw [e0, Bool.or_false] at r'
  have fin : (if kw_sw zK zM B M s b k c0 = true then (1 : Int32) else 0) = kw_nb (g0 || kv_fa (min 9 (B - M)) 1 (kw_bad zK zM M s b k c0)) := by
    unfold kw_sw kw_nb
    rw [← kw_late (K := zM 22) (b := b) (x := Int32.ofNat k) (T := B - M) (s := s), hg0]
    cases hg : g0 with
    | true => rfl
    | false =>
      have hle : kw_lan (zM 22) b (Int32.ofNat k) s ≤ B - M := by
        have := kw_late (K := zM 22) (b := b) (x := Int32.ofNat k) (T := B - M) (s := s)
        rw [hg0, hg] at this
        have := of_decide_eq_false this.symm
        omega
      have ext := kw_fa_ext (p := kw_bad zK zM M s b k c0) (min 9 (B - M) - kw_lan (zM 22) b (Int32.ofNat k) s) (kw_lan (zM 22) b (Int32.ofNat k) s) 1 (fun i hi => kw_bad_big (by omega))
      rw [show kw_lan (zM 22) b (Int32.ofNat k) s + (min 9 (B - M) - kw_lan (zM 22) b (Int32.ofNat k) s) = min 9 (B - M) from by omega] at ext
      rw [ext, Bool.false_or]
      cases kv_fa (kw_lan (zM 22) b (Int32.ofNat k) s) 1 (kw_bad zK zM M s b k c0) <;> rfl
  rw [fin, ← r']
  simp only [kv_e263_0, kv_e263_1, kv_e263_2, kv_e263_3, kv_e263_4, kv_e263_7, kv_e263_8, kv_e263_11, kv_e263_67, kv_e263_68, kv_o10, not_false_eq_true, not_true, if_true, if_false, kv_then_s, kv_then_v, kv_then_n, List.cons_append, List.nil_append, kv_Ci, kv_Cr, kv_Cn, kv_Cu, kv_C0, kv_catc, kv_gCi, kv_gCl, kv_gCr, kv_nb0, kv_nb1, kv_nbi, kv_nb01, Nat.reduceAdd, Nat.reduceLeDiff, kw_put1 hk, kw_mleft, e14, m5, t104, el, st1]
  rfl
theorem kw_f_weighs (h : kw_R n B W zK zM) (x : Int32) : kw_A (d + 12) 129 264 [some (.ref 0), some (.int x), none, none] [some (.ref 0), some (.int x), none, none] zK zM zl zlM := by
  have hKK := kw_R_KK h
  have hI := kw_R_I h
  have ek := kw_R_km h.2.1.1
  obtain ⟨em, M, m1, m2, m3, m4, m5⟩ := kw_R_min h
  obtain ⟨s, s1, ⟨e1, e2⟩, e3⟩ := h.2.2.1
  have hb : ∀ i, i < s → (zK 168 i = zM 22 i ∧ zK 169 i = Int32.ofNat (zM 23 i).toNatClampNeg ∧ zK 170 i = zM 24 i) ∧ (zM 23 i).toNatClampNeg ≤ 9 ∧ zM 23 i = Int32.ofNat (zM 23 i).toNatClampNeg := fun i hi => by
    obtain ⟨⟨a1, a2, a3⟩, a4⟩ := e3 i hi
    unfold kw_rg at a4
    rw [a2] at a4
    have h0 : (0 : Int32) ≤ zM 23 i := by
      rw [Int32.le_iff_toInt_le]
      show (0 : Int) ≤ _
      omega
    obtain ⟨v, hv, e⟩ := kv_nat h0
    have t : (zM 23 i).toNatClampNeg = v := by rw [e, kv_tn hv]
    rw [e, kv_ti hv] at a4
    exact ⟨⟨a1, by rw [t, a2]; exact e, a3⟩, by rw [t]; omega, by rw [t]; exact e⟩
  by_cases c0 : x < 0
  · refine kw_A0 (r := -1) h ?_ ?_
    · simp only [kv_e129_0, kv_e129_1, kv_e129_2, kv_e129_5, kv_e129_8, kv_e129_9, kv_e129_10, kv_e129_11, kv_e129_12, kv_e129_13, kv_e129_15, kv_e129_17, kv_e129_20, kv_e129_21, kv_e129_22, kv_e129_23, kv_e129_26, kv_e129_29, kv_e129_30, kv_e129_31, kv_e129_32, kv_e129_33, kv_e129_34, kv_e129_35, kv_e129_38, kv_e129_41, kv_e129_42, kv_o10, not_false_eq_true, not_true, if_true, if_false, kv_then_s, kv_then_v, kv_then_n, List.cons_append, List.nil_append, kv_Ci, kv_Cr, kv_Cn, kv_Cu, kv_C0, kv_catc, kv_gCi, kv_gCl, kv_gCr, kv_nb0, kv_nb1, kv_nbi, kv_nb01, Nat.reduceAdd, Nat.reduceLeDiff, kw_KfliesN c0, eq_self]
    · simp only [kv_e264_0, kv_e264_1, kv_e264_2, kv_e264_5, kv_e264_8, kv_e264_9, kv_e264_10, kv_e264_11, kv_e264_14, kv_e264_15, kv_e264_16, kv_e264_17, kv_e264_19, kv_e264_21, kv_e264_24, kv_e264_25, kv_e264_26, kv_e264_27, kv_e264_28, kv_e264_31, kv_e264_34, kv_e264_35, kv_e264_36, kv_e264_37, kv_e264_40, kv_e264_41, kv_e264_42, kv_e264_43, kv_e264_46, kv_e264_49, kv_e264_50, kv_o10, not_false_eq_true, not_true, if_true, if_false, kv_then_s, kv_then_v, kv_then_n, List.cons_append, List.nil_append, kv_Ci, kv_Cr, kv_Cn, kv_Cu, kv_C0, kv_catc, kv_gCi, kv_gCl, kv_gCr, kv_nb0, kv_nb1, kv_nbi, kv_nb01, Nat.reduceAdd, Nat.reduceLeDiff, kw_fliesN c0, eq_self]
  · obtain ⟨k, hk, rfl⟩ := kv_nat (kv_nn0 c0)
    by_cases c1 : km zM k 11 = 0
    · refine kw_A0 (r := -1) h ?_ ?_
      · simp only [kv_e129_0, kv_e129_1, kv_e129_2, kv_e129_5, kv_e129_8, kv_e129_9, kv_e129_10, kv_e129_11, kv_e129_12, kv_e129_13, kv_e129_15, kv_e129_17, kv_e129_20, kv_e129_21, kv_e129_22, kv_e129_23, kv_e129_26, kv_e129_29, kv_e129_30, kv_e129_31, kv_e129_32, kv_e129_33, kv_e129_34, kv_e129_35, kv_e129_38, kv_e129_41, kv_e129_42, kv_o10, not_false_eq_true, not_true, if_true, if_false, kv_then_s, kv_then_v, kv_then_n, List.cons_append, List.nil_append, kv_Ci, kv_Cr, kv_Cn, kv_Cu, kv_C0, kv_catc, kv_gCi, kv_gCl, kv_gCr, kv_nb0, kv_nb1, kv_nbi, kv_nb01, Nat.reduceAdd, Nat.reduceLeDiff, kw_Kflies hKK hk, ek, c1, eq_self]
      · simp only [kv_e264_0, kv_e264_1, kv_e264_2, kv_e264_5, kv_e264_8, kv_e264_9, kv_e264_10, kv_e264_11, kv_e264_14, kv_e264_15, kv_e264_16, kv_e264_17, kv_e264_19, kv_e264_21, kv_e264_24, kv_e264_25, kv_e264_26, kv_e264_27, kv_e264_28, kv_e264_31, kv_e264_34, kv_e264_35, kv_e264_36, kv_e264_37, kv_e264_40, kv_e264_41, kv_e264_42, kv_e264_43, kv_e264_46, kv_e264_49, kv_e264_50, kv_o10, not_false_eq_true, not_true, if_true, if_false, kv_then_s, kv_then_v, kv_then_n, List.cons_append, List.nil_append, kv_Ci, kv_Cr, kv_Cn, kv_Cu, kv_C0, kv_catc, kv_gCi, kv_gCl, kv_gCr, kv_nb0, kv_nb1, kv_nbi, kv_nb01, Nat.reduceAdd, Nat.reduceLeDiff, kw_flies hI.1.1 hk, c1, eq_self]
    · have hk8 := (kw_lt8 h c1).2
      generalize hp : (fun w => decide (1 ≤ w) && kw_sw zK zM B M s (fun i => (zM 23 i).toNatClampNeg) k (kv_pt (km zM) k 1 (Int32.ofNat w))) = p
      have hpw : ∀ w, 1 ≤ w → kw_sw zK zM B M s (fun i => (zM 23 i).toNatClampNeg) k (kv_pt (km zM) k 1 (Int32.ofNat w)) = p w := fun w hw => by
        rw [← hp]
        simp [hw]
      have p0 : p 0 = false := by rw [← hp]; rfl
      have b1 : kv_bs 1 p = 0 := by
        rw [kv_bs_s, p0]
        rfl
      have s9 : ∀ {w : Nat}, w < 10 → ((9 : Int32) < Int32.ofNat w) = False := fun {w} hw => by
        rw [show (9 : Int32) = Int32.ofNat 9 from rfl, kv_nlt (by omega) (by omega)]
        exact eq_false (by omega)
      have s10 : ((9 : Int32) < Int32.ofNat 10) = True := by decide
      have hlK := kv_upk (fun w => 1 ≤ w → ∀ z, kw_XK zK z → ∃ z', kv_Rn (d + 12) 129 14 [some (.ref 0), some (.int (Int32.ofNat k)), some (.int (kv_bs w p)), some (.int (Int32.ofNat w))] [] (kv_h [] z zl) = some (some (.int (kv_bs 10 p)), kv_h [] z' zl) ∧ kw_XK zK z') 10 ?_ ?_
      · have hlM := kv_upk (fun w => 1 ≤ w → ∀ z, kw_J zM z → ∃ z', kv_Rn (d + 12) 264 18 [some (.ref 0), some (.int (Int32.ofNat k)), some (.int (kv_bs w p)), some (.int (Int32.ofNat w))] [] (kv_m z zlM) = some (some (.int (kv_bs 10 p)), kv_m z' zlM) ∧ kw_XM zM z') 10 ?_ ?_
        · obtain ⟨z1, r1, x1⟩ := hlK 1 (by omega) (by omega) zK (kw_XK_rf zK)
          obtain ⟨y1, s1', j1⟩ := kw_aside (d := d + 10) (zM := zM) (zlM := zlM)
          obtain ⟨z2, r2, x2⟩ := hlM 1 (by omega) (by omega) y1 j1
          rw [b1] at r1 r2
          refine kw_A2 (r := kv_bs 10 p) h ?_ ?_ x1 x2
          · simp only [kv_e129_0, kv_e129_1, kv_e129_2, kv_e129_5, kv_e129_10, kv_e129_11, kv_e129_12, kv_e129_13, kv_o10, not_false_eq_true, not_true, if_true, if_false, kv_then_s, kv_then_v, kv_then_n, List.cons_append, List.nil_append, kv_Ci, kv_Cr, kv_Cn, kv_Cu, kv_C0, kv_catc, kv_gCi, kv_gCl, kv_gCr, kv_nb0, kv_nb1, kv_nbi, kv_nb01, Nat.reduceAdd, Nat.reduceLeDiff, kw_Kflies hKK hk, ek, c1]
            exact r1
          · simp only [kv_e264_0, kv_e264_1, kv_e264_2, kv_e264_5, kv_e264_10, kv_e264_11, kv_e264_14, kv_e264_15, kv_e264_16, kv_e264_17, kv_o10, not_false_eq_true, not_true, if_true, if_false, kv_then_s, kv_then_v, kv_then_n, List.cons_append, List.nil_append, kv_Ci, kv_Cr, kv_Cn, kv_Cu, kv_C0, kv_catc, kv_gCi, kv_gCl, kv_gCr, kv_nb0, kv_nb1, kv_nbi, kv_nb01, Nat.reduceAdd, Nat.reduceLeDiff, kw_flies hI.1.1 hk, c1, s1']
            exact r2
        · intro _ z hj
          refine ⟨z, ?_, hj.1⟩
          rw [kv_e264_18]
          simp only [kv_e264_0, kv_e264_1, kv_e264_2, kv_e264_5, kv_e264_8, kv_e264_9, kv_e264_10, kv_e264_11, kv_e264_14, kv_e264_15, kv_e264_16, kv_e264_17, kv_e264_19, kv_e264_21, kv_e264_24, kv_e264_25, kv_e264_26, kv_e264_27, kv_e264_28, kv_e264_31, kv_e264_34, kv_e264_35, kv_e264_36, kv_e264_37, kv_e264_40, kv_e264_41, kv_e264_42, kv_e264_43, kv_e264_46, kv_e264_49, kv_e264_50, kv_o10, not_false_eq_true, not_true, if_true, if_false, kv_then_s, kv_then_v, kv_then_n, List.cons_append, List.nil_append, kv_Ci, kv_Cr, kv_Cn, kv_Cu, kv_C0, kv_catc, kv_gCi, kv_gCl, kv_gCr, kv_nb0, kv_nb1, kv_nbi, kv_nb01, Nat.reduceAdd, Nat.reduceLeDiff, s10]
        · intro w hw ih h1 z hj
          obtain ⟨y1, s1', j1⟩ := kw_soM (d := d + 4) (zlM := zlM) (w := w) h m3 m1 s1 e2 (fun i hi => ⟨(hb i hi).2.2, (hb i hi).2.1⟩) hj hk8 (by omega)
          rw [hpw w h1] at s1'
          obtain ⟨z', r', x'⟩ := ih (by omega) y1 j1
          refine ⟨z', ?_, x'⟩
          rw [← r', kv_e264_18, kv_bs_s]
          cases hpq : p w with
          | true =>
            rw [hpq] at s1'
            simp only [kv_e264_0, kv_e264_1, kv_e264_2, kv_e264_5, kv_e264_8, kv_e264_9, kv_e264_10, kv_e264_11, kv_e264_14, kv_e264_15, kv_e264_16, kv_e264_17, kv_e264_19, kv_e264_21, kv_e264_24, kv_e264_25, kv_e264_26, kv_e264_27, kv_e264_28, kv_e264_31, kv_e264_34, kv_e264_35, kv_e264_36, kv_e264_37, kv_e264_40, kv_e264_41, kv_e264_42, kv_e264_43, kv_e264_46, kv_e264_49, kv_e264_50, kv_o10, not_false_eq_true, not_true, if_true, if_false, kv_then_s, kv_then_v, kv_then_n, List.cons_append, List.nil_append, kv_Ci, kv_Cr, kv_Cn, kv_Cu, kv_C0, kv_catc, kv_gCi, kv_gCl, kv_gCr, kv_nb0, kv_nb1, kv_nbi, kv_nb01, Nat.reduceAdd, Nat.reduceLeDiff, s9 hw, s1', eq_self, kv_suc]
          | false =>
            rw [hpq] at s1'
            simp only [kv_e264_0, kv_e264_1, kv_e264_2, kv_e264_5, kv_e264_8, kv_e264_9, kv_e264_10, kv_e264_11, kv_e264_14, kv_e264_15, kv_e264_16, kv_e264_17, kv_e264_19, kv_e264_21, kv_e264_24, kv_e264_25, kv_e264_26, kv_e264_27, kv_e264_28, kv_e264_31, kv_e264_34, kv_e264_35, kv_e264_36, kv_e264_37, kv_e264_40, kv_e264_41, kv_e264_42, kv_e264_43, kv_e264_46, kv_e264_49, kv_e264_50, kv_o10, not_false_eq_true, not_true, if_true, if_false, kv_then_s, kv_then_v, kv_then_n, List.cons_append, List.nil_append, kv_Ci, kv_Cr, kv_Cn, kv_Cu, kv_C0, kv_catc, kv_gCi, kv_gCl, kv_gCr, kv_nb0, kv_nb1, kv_nbi, kv_nb01, Nat.reduceAdd, Nat.reduceLeDiff, s9 hw, s1', Bool.false_eq_true, Int32.or_zero, eq_self, kv_suc]
      · intro _ z hx
        refine ⟨z, ?_, hx⟩
        rw [kv_e129_14]
        simp only [kv_e129_0, kv_e129_1, kv_e129_2, kv_e129_5, kv_e129_8, kv_e129_9, kv_e129_10, kv_e129_11, kv_e129_12, kv_e129_13, kv_e129_15, kv_e129_17, kv_e129_20, kv_e129_21, kv_e129_22, kv_e129_23, kv_e129_26, kv_e129_29, kv_e129_30, kv_e129_31, kv_e129_32, kv_e129_33, kv_e129_34, kv_e129_35, kv_e129_38, kv_e129_41, kv_e129_42, kv_o10, not_false_eq_true, not_true, if_true, if_false, kv_then_s, kv_then_v, kv_then_n, List.cons_append, List.nil_append, kv_Ci, kv_Cr, kv_Cn, kv_Cu, kv_C0, kv_catc, kv_gCi, kv_gCl, kv_gCr, kv_nb0, kv_nb1, kv_nbi, kv_nb01, Nat.reduceAdd, Nat.reduceLeDiff, s10]
      · intro w hw ih h1 z hx
        obtain ⟨z1, r1, x1⟩ := kw_soK (d := d + 5) (e := []) (zl := zl) (w := w) h m3 m1 s1 e1 (fun i hi => ⟨(hb i hi).1, (hb i hi).2.1⟩) hx hk8 (by omega)
        rw [hpw w h1] at r1
        obtain ⟨z', r', x'⟩ := ih (by omega) z1 x1
        refine ⟨z', ?_, x'⟩
        rw [← r', kv_e129_14, kv_bs_s]
        cases hpq : p w with
        | true =>
          rw [hpq] at r1
          simp only [kv_e129_0, kv_e129_1, kv_e129_2, kv_e129_5, kv_e129_8, kv_e129_9, kv_e129_10, kv_e129_11, kv_e129_12, kv_e129_13, kv_e129_15, kv_e129_17, kv_e129_20, kv_e129_21, kv_e129_22, kv_e129_23, kv_e129_26, kv_e129_29, kv_e129_30, kv_e129_31, kv_e129_32, kv_e129_33, kv_e129_34, kv_e129_35, kv_e129_38, kv_e129_41, kv_e129_42, kv_o10, not_false_eq_true, not_true, if_true, if_false, kv_then_s, kv_then_v, kv_then_n, List.cons_append, List.nil_append, kv_Ci, kv_Cr, kv_Cn, kv_Cu, kv_C0, kv_catc, kv_gCi, kv_gCl, kv_gCr, kv_nb0, kv_nb1, kv_nbi, kv_nb01, Nat.reduceAdd, Nat.reduceLeDiff, s9 hw, r1, eq_self, kv_suc]
        | false =>
          rw [hpq] at r1
          simp only [kv_e129_0, kv_e129_1, kv_e129_2, kv_e129_5, kv_e129_8, kv_e129_9, kv_e129_10, kv_e129_11, kv_e129_12, kv_e129_13, kv_e129_15, kv_e129_17, kv_e129_20, kv_e129_21, kv_e129_22, kv_e129_23, kv_e129_26, kv_e129_29, kv_e129_30, kv_e129_31, kv_e129_32, kv_e129_33, kv_e129_34, kv_e129_35, kv_e129_38, kv_e129_41, kv_e129_42, kv_o10, not_false_eq_true, not_true, if_true, if_false, kv_then_s, kv_then_v, kv_then_n, List.cons_append, List.nil_append, kv_Ci, kv_Cr, kv_Cn, kv_Cu, kv_C0, kv_catc, kv_gCi, kv_gCl, kv_gCr, kv_nb0, kv_nb1, kv_nbi, kv_nb01, Nat.reduceAdd, Nat.reduceLeDiff, s9 hw, r1, Bool.false_eq_true, eq_self, kv_suc]
end
