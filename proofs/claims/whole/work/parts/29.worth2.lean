/-! worth's loop -/
section
variable {d a b : Nat} {e : List kv_E} {z : Nat → Nat → Int32} {zl : Nat → Nat → Int64}
theorem kw_pl_up {p : Nat → Int32} {s : List Int32} {n : Nat} {x : Int32} (h : kw_pl p s) (hn : s.length ≤ n) : kw_pl (upd p n x) s := by
  induction s with
  | nil => trivial
  | cons y s ih =>
    refine ⟨?_, ih h.2 (by simp only [List.length_cons] at hn; omega)⟩
    have h1 : s.length ≠ n := by simp only [List.length_cons] at hn; omega
    show (if s.length = n then x else p s.length) = y
    rw [if_neg h1]
    exact h.1
theorem kw_pl_top {p : Nat → Int32} {s : List Int32} {n : Nat} {x : Int32} (h : kw_pl p s) (hn : s.length = n) : kw_pl (upd p n x) (x :: s) := ⟨by subst hn; exact if_pos rfl, kw_pl_up h (by omega)⟩
theorem kw_zz {α : Type} (z : Nat → Nat → α) (c : Nat) (f g : Nat → α) : kv_z (kv_z z c f) c g = kv_z z c g := by
  funext b
  unfold kv_z
  split <;> rfl
theorem kw_o8 : Int32.ofNat 8 = 8 := id rfl
theorem kw_256 {n : Nat} (h : n < 2147483648) : ((256 : Int32) ≤ Int32.ofNat n) = (256 ≤ n) := kv_nle (a := 256) (by omega) h
theorem kw_1 {n : Nat} (h : n < 2147483648) : ((1 : Int32) ≤ Int32.ofNat n) = (1 ≤ n) := kv_nle (a := 1) (by omega) h
theorem kw_2 {n : Nat} (h : n < 2147483648) : ((2 : Int32) ≤ Int32.ofNat n) = (2 ≤ n) := kv_nle (a := 2) (by omega) h
set_option maxHeartbeats 200000 in
theorem kw_worth_l (hL : kv_isL e a) (h35 : a ≠ 35 ∧ a + 1 ≠ 35) : ∀ (f i : Nat) (s : List Int32) (p : Nat → Int32) (u5 u6 u7 u8 : Option Value), kw_pl p s → s.length ≤ 256 → 257 ≤ f + i → i < 1000000 → kv_c2 u5 = false → kv_c2 u6 = false → kv_c2 u7 = false →
    ∃ p', kv_Rn (d + 1) 35 5 [some (.ref a), some (.ref 34), some (.ref 35), some (.int (Int32.ofNat s.length)), some (.int (Int32.ofNat i)), u5, u6, u7, u8] [] (kv_h e (kv_z z 35 p) zl) = some (some (.int (kw_we (z (a + 1)) (z a 1) (z 34) f i s)), kv_h e (kv_z z 35 p') zl) := by
  have h1 : a + 1 < 300 := hL.2
  have q34 : (34 : Nat) < 300 := by omega
  have q35 : (35 : Nat) < 300 := by omega
  have g1 : ∀ (p : Nat → Int32), kv_z z 35 p (a + 1) = z (a + 1) := fun p => kv_zne _ _ h35.2
  have g2 : ∀ (p : Nat → Int32), kv_z z 35 p a = z a := fun p => kv_zne _ _ h35.1
  have g3 : ∀ (p : Nat → Int32), kv_z z 35 p 34 = z 34 := fun p => kv_zne _ _ (by omega)
  intro f
  induction f with
  | zero =>
    intro i s p u5 u6 u7 u8 hp hs hf hi e5 e6 e7
    refine ⟨p, ?_⟩
    rw [kv_e35_5]
    have c2 : 256 ≤ i := by omega
    by_cases c1 : z a 1 ≤ Int32.ofNat i
    · simp only [kv_e35_7, kv_e35_8, kv_e35_11, kv_e35_242, kv_e35_243, kv_o10, not_false_eq_true, not_true, if_true, if_false, kv_then_s, kv_then_v, kv_then_n, List.cons_append, List.nil_append, kv_Ci, kv_Cr, kv_Cn, kv_Cu, kv_C0, kv_catc, kv_gCi, kv_gCl, kv_gCr, kv_nb0, kv_nb1, kv_nbi, kv_nb01, Nat.reduceAdd, Nat.reduceLeDiff, hL, g2, c1, if_true]
      rfl
    · simp only [kv_e35_7, kv_e35_8, kv_e35_11, kv_e35_14, kv_e35_16, kv_e35_19, kv_e35_242, kv_e35_243, kv_o10, not_false_eq_true, not_true, if_true, if_false, kv_then_s, kv_then_v, kv_then_n, List.cons_append, List.nil_append, kv_Ci, kv_Cr, kv_Cn, kv_Cu, kv_C0, kv_catc, kv_gCi, kv_gCl, kv_gCr, kv_nb0, kv_nb1, kv_nbi, kv_nb01, Nat.reduceAdd, Nat.reduceLeDiff, hL, g2, c1, if_false, kw_256 (show i < 2147483648 by omega), c2, if_true]
      rfl
  | succ f ih =>
    intro i s p u5 u6 u7 u8 hp hs hf hi e5 e6 e7
    rw [kv_e35_5]
    unfold kw_we
    by_cases c1 : z a 1 ≤ Int32.ofNat i
    · refine ⟨p, ?_⟩
      simp only [kv_e35_7, kv_e35_8, kv_e35_11, kv_e35_242, kv_e35_243, kv_o10, not_false_eq_true, not_true, if_true, if_false, kv_then_s, kv_then_v, kv_then_n, List.cons_append, List.nil_append, kv_Ci, kv_Cr, kv_Cn, kv_Cu, kv_C0, kv_catc, kv_gCi, kv_gCl, kv_gCr, kv_nb0, kv_nb1, kv_nbi, kv_nb01, Nat.reduceAdd, Nat.reduceLeDiff, hL, g2, c1, if_true]
    by_cases c2 : 256 ≤ i
    · refine ⟨p, ?_⟩
      simp only [kv_e35_7, kv_e35_8, kv_e35_11, kv_e35_14, kv_e35_16, kv_e35_19, kv_e35_242, kv_e35_243, kv_o10, not_false_eq_true, not_true, if_true, if_false, kv_then_s, kv_then_v, kv_then_n, List.cons_append, List.nil_append, kv_Ci, kv_Cr, kv_Cn, kv_Cu, kv_C0, kv_catc, kv_gCi, kv_gCl, kv_gCr, kv_nb0, kv_nb1, kv_nbi, kv_nb01, Nat.reduceAdd, Nat.reduceLeDiff, hL, g2, c1, if_false, kw_256 (show i < 2147483648 by omega), c2, if_true]
    have hi2 : i < 2147483648 := by omega
    have hsl : s.length < 2147483648 := by omega
    rw [if_neg c1, if_neg c2]
    simp only [kv_e35_7, kv_e35_8, kv_e35_11, kv_e35_14, kv_e35_16, kv_e35_19, kv_e35_22, kv_e35_23, kv_e35_26, kv_e35_28, kv_e35_29, kv_e35_31, kv_e35_32, kv_e35_34, kv_e35_35, kv_e35_38, kv_e35_40, kv_e35_41, kv_e35_43, kv_e35_44, kv_e35_46, kv_e35_48, kv_e35_49, kv_o10, not_false_eq_true, not_true, if_true, if_false, kv_then_s, kv_then_v, kv_then_n, List.cons_append, List.nil_append, kv_Ci, kv_Cr, kv_Cn, kv_Cu, kv_C0, kv_catc, kv_gCi, kv_gCl, kv_gCr, kv_nb0, kv_nb1, kv_nbi, kv_nb01, Nat.reduceAdd, Nat.reduceLeDiff, hL, g1, g2, c1, if_false, kw_256 hi2, c2, kw_n0 hi2, kv_ar_lt h1, kv_rd_lt h1, kv_isL_aw hL, kv_tn hi2, or_self, e5, e6]
    have ga := kw_and16 (z (a + 1) i)
    generalize z (a + 1) i >>> (16 &&& 31) = k
    generalize z (a + 1) i &&& 65535 = x at ga ⊢
    by_cases c3 : k ≤ 1
    · have c3' : ¬ 1 < k := Int32.not_lt.mpr c3
      rw [if_pos c3]
      by_cases c4 : 256 ≤ s.length
      · refine ⟨p, ?_⟩
        simp only [kv_e35_52, kv_e35_53, kv_e35_54, kv_e35_55, kv_e35_71, kv_e35_72, kv_o10, not_false_eq_true, not_true, if_true, if_false, kv_then_s, kv_then_v, kv_then_n, List.cons_append, List.nil_append, kv_Ci, kv_Cr, kv_Cn, kv_Cu, kv_C0, kv_catc, kv_gCi, kv_gCl, kv_gCr, kv_nb0, kv_nb1, kv_nbi, kv_nb01, Nat.reduceAdd, Nat.reduceLeDiff, c3', if_false, kv_ia35, true_or, kv_ar_lt q35, kv_aw35, kw_256 hsl, c4, if_true]
        have : (Int32.ofNat 256 ≤ Int32.ofNat s.length) = True := by rw [kv_nle (by omega) hsl]; exact eq_true c4
        simp only [this, if_true]
      · have c4' : (Int32.ofNat 256 ≤ Int32.ofNat s.length) = False := by rw [kv_nle (by omega) hsl]; exact eq_false c4
        rw [if_neg c4]
        by_cases c5 : k = 1
        · subst c5
          rw [if_pos rfl]
          by_cases c6 : 8 ≤ x
          · rw [if_pos c6]
            refine ⟨p, ?_⟩
            have c6' : (x < 8) = False := eq_false (Int32.not_lt.mpr c6)
            have c33 : ((1 : Int32) < 1) = False := by decide
            simp only [kv_e35_52, kv_e35_53, kv_e35_54, kv_e35_55, kv_e35_58, kv_e35_60, kv_e35_61, kv_e35_64, kv_e35_66, kv_e35_67, kv_e35_68, kv_e35_71, kv_e35_72, kv_o10, not_false_eq_true, not_true, if_true, if_false, kv_then_s, kv_then_v, kv_then_n, List.cons_append, List.nil_append, kv_Ci, kv_Cr, kv_Cn, kv_Cu, kv_C0, kv_catc, kv_gCi, kv_gCl, kv_gCr, kv_nb0, kv_nb1, kv_nbi, kv_nb01, Nat.reduceAdd, Nat.reduceLeDiff, c33, if_false, kv_ia35, kv_ia34, true_or, kv_ar_lt q35, kv_aw35, kv_ar_lt q34, kv_aw34, kw_o8, c4', not_true, c6', if_true]
          · rw [if_neg c6]
            have c6' : x < 8 := Int32.not_le.mp c6
            have c33 : ((1 : Int32) < 1) = False := by decide
            obtain ⟨m, hm, rfl⟩ := kv_nat ga.1
            have c7 : m < 8 := by rw [show (8 : Int32) = Int32.ofNat 8 from rfl, kv_nlt hm (by omega)] at c6'; exact c6'
            obtain ⟨p', ih⟩ := ih (i + 1) (z 34 m :: s) (upd p s.length (z 34 m)) (some (.int 1)) (some (.int (Int32.ofNat m))) u7 u8 (kw_pl_top hp rfl) (by simp only [List.length_cons]; omega) (by omega) (by omega) rfl rfl e7
            refine ⟨p', ?_⟩
            rw [kv_tn hm, ← ih]
            simp only [kv_e35_52, kv_e35_53, kv_e35_54, kv_e35_55, kv_e35_58, kv_e35_60, kv_e35_61, kv_e35_64, kv_e35_66, kv_e35_67, kv_e35_68, kv_e35_73, kv_e35_74, kv_e35_75, kv_e35_77, kv_e35_78, kv_e35_81, kv_e35_82, kv_e35_84, kv_e35_85, kv_e35_90, kv_e35_91, kv_e35_94, kv_e35_236, kv_e35_239, kv_o10, not_false_eq_true, not_true, if_true, if_false, kv_then_s, kv_then_v, kv_then_n, List.cons_append, List.nil_append, kv_Ci, kv_Cr, kv_Cn, kv_Cu, kv_C0, kv_catc, kv_gCi, kv_gCl, kv_gCr, kv_nb0, kv_nb1, kv_nbi, kv_nb01, Nat.reduceAdd, Nat.reduceLeDiff, c33, if_false, kv_ia35, kv_ia34, true_or, kv_ar_lt q35, kv_aw35, kv_ar_lt q34, kv_rd_lt q34, kv_aw34, kw_o8, c4', not_true, c6', if_true, kw_n0 hm, kv_tn hm, kv_lN c7, or_self, kw_n0 hsl, kv_tn hsl, eq_false c4, kv_zs, kw_zz, kv_suc, g3, List.length_cons]
        · rw [if_neg c5]
          obtain ⟨m, hm, rfl⟩ := kv_nat ga.1
          obtain ⟨p', ih⟩ := ih (i + 1) (Int32.ofNat m :: s) (upd p s.length (Int32.ofNat m)) (some (.int k)) (some (.int (Int32.ofNat m))) u7 u8 (kw_pl_top hp rfl) (by simp only [List.length_cons]; omega) (by omega) (by omega) rfl rfl e7
          refine ⟨p', ?_⟩
          rw [← ih]
          simp only [kv_e35_52, kv_e35_53, kv_e35_54, kv_e35_55, kv_e35_58, kv_e35_60, kv_e35_61, kv_e35_73, kv_e35_74, kv_e35_75, kv_e35_77, kv_e35_78, kv_e35_88, kv_e35_90, kv_e35_91, kv_e35_94, kv_e35_236, kv_e35_239, kv_o10, not_false_eq_true, not_true, if_true, if_false, kv_then_s, kv_then_v, kv_then_n, List.cons_append, List.nil_append, kv_Ci, kv_Cr, kv_Cn, kv_Cu, kv_C0, kv_catc, kv_gCi, kv_gCl, kv_gCr, kv_nb0, kv_nb1, kv_nbi, kv_nb01, Nat.reduceAdd, Nat.reduceLeDiff, c3', if_false, kv_ia35, true_or, kv_ar_lt q35, kv_aw35, c4', c5, not_false_eq_true, if_true, or_self, kw_n0 hsl, kv_tn hsl, eq_false c4, kv_zs, kw_zz, kv_suc, List.length_cons]
    · have c3' : 1 < k := Int32.not_le.mp c3
      rw [if_neg c3]
      by_cases d1 : k ≤ 10
      · have d1' : ¬ 10 < k := Int32.not_lt.mpr d1
        rw [if_pos d1]
        match s, hp, hs, hsl with
        | [], hp, hs, hsl =>
          refine ⟨p, ?_⟩
          have d2 : ((2 : Int32) ≤ Int32.ofNat ([] : List Int32).length) = False := by decide
          simp only [kv_e35_97, kv_e35_99, kv_e35_101, kv_e35_104, kv_e35_105, kv_e35_106, kv_e35_109, kv_e35_110, kv_o10, not_false_eq_true, not_true, if_true, if_false, kv_then_s, kv_then_v, kv_then_n, List.cons_append, List.nil_append, kv_Ci, kv_Cr, kv_Cn, kv_Cu, kv_C0, kv_catc, kv_gCi, kv_gCl, kv_gCr, kv_nb0, kv_nb1, kv_nbi, kv_nb01, Nat.reduceAdd, Nat.reduceLeDiff, c3', if_true, d1', if_false, d2]
        | [y], hp, hs, hsl =>
          refine ⟨p, ?_⟩
          have d2 : ((2 : Int32) ≤ Int32.ofNat ([y] : List Int32).length) = False := (show ((2 : Int32) ≤ Int32.ofNat 1) = False from by decide)
          simp only [kv_e35_97, kv_e35_99, kv_e35_101, kv_e35_104, kv_e35_105, kv_e35_106, kv_e35_109, kv_e35_110, kv_o10, not_false_eq_true, not_true, if_true, if_false, kv_then_s, kv_then_v, kv_then_n, List.cons_append, List.nil_append, kv_Ci, kv_Cr, kv_Cn, kv_Cu, kv_C0, kv_catc, kv_gCi, kv_gCl, kv_gCr, kv_nb0, kv_nb1, kv_nbi, kv_nb01, Nat.reduceAdd, Nat.reduceLeDiff, c3', if_true, d1', if_false, d2]
        | y :: x0 :: s, hp, hs, hsl =>
          have n1 : s.length < 2147483648 := by simp only [List.length_cons] at hsl; omega
          have n2 : s.length + 1 < 2147483648 := by simp only [List.length_cons] at hsl; omega
          have n3 : s.length + 1 < 256 := by simp only [List.length_cons] at hs; omega
          have d2 : ((2 : Int32) ≤ Int32.ofNat (s.length + 1 + 1)) = True := by rw [kw_2 (by omega)]; exact eq_true (by omega)
          have m1 : Int32.ofNat (s.length + 1 + 1) - 1 = Int32.ofNat (s.length + 1) := kv_pre _
          have m2 : Int32.ofNat (s.length + 1) - 1 = Int32.ofNat s.length := kv_pre _
          have r1 : p (s.length + 1) = y := hp.1
          have r2 : p s.length = x0 := hp.2.1
          obtain ⟨p', ih⟩ := ih (i + 1) ((if k ≤ 5 then kw_j k x0 y else kw_g k x0 y) :: s) (upd p s.length (if k ≤ 5 then kw_j k x0 y else kw_g k x0 y)) (some (.int k)) (some (.int x)) (some (.int x0)) (some (.int y)) (kw_pl_top hp.2.2 rfl) (by simp only [List.length_cons]; omega) (by omega) (by omega) rfl rfl rfl
          refine ⟨p', ?_⟩
          dsimp only
          rw [← ih]
          by_cases d3 : k ≤ 5
          · have d3' : ¬ 5 < k := Int32.not_lt.mpr d3
            simp only [kv_e35_97, kv_e35_99, kv_e35_101, kv_e35_104, kv_e35_105, kv_e35_106, kv_e35_111, kv_e35_114, kv_e35_115, kv_e35_116, kv_e35_117, kv_e35_118, kv_e35_119, kv_e35_121, kv_e35_122, kv_e35_123, kv_e35_124, kv_e35_126, kv_e35_127, kv_e35_128, kv_e35_129, kv_e35_130, kv_e35_132, kv_e35_133, kv_e35_136, kv_e35_138, kv_e35_140, kv_e35_142, kv_e35_145, kv_e35_157, kv_e35_158, kv_e35_236, kv_e35_239, kv_o10, not_false_eq_true, not_true, if_true, if_false, kv_then_s, kv_then_v, kv_then_n, List.cons_append, List.nil_append, kv_Ci, kv_Cr, kv_Cn, kv_Cu, kv_C0, kv_catc, kv_gCi, kv_gCl, kv_gCr, kv_nb0, kv_nb1, kv_nbi, kv_nb01, Nat.reduceAdd, Nat.reduceLeDiff, c3', if_true, d1', if_false, List.length_cons, d2, kv_m1, m1, m2, kv_ar_lt q35, kv_rd_lt q35, kv_aw35, kw_n0 n1, kw_n0 n2, kv_tn n1, kv_tn n2, kv_lN (show s.length < 256 by omega), kv_lN n3, or_self, kv_zs, r1, r2, d3', d3, kw_joined, kw_zz, kv_suc, e7]
          · have d3' : 5 < k := Int32.not_le.mp d3
            simp only [kv_e35_97, kv_e35_99, kv_e35_101, kv_e35_104, kv_e35_105, kv_e35_106, kv_e35_111, kv_e35_114, kv_e35_115, kv_e35_116, kv_e35_117, kv_e35_118, kv_e35_119, kv_e35_121, kv_e35_122, kv_e35_123, kv_e35_124, kv_e35_126, kv_e35_127, kv_e35_128, kv_e35_129, kv_e35_130, kv_e35_132, kv_e35_133, kv_e35_148, kv_e35_150, kv_e35_152, kv_e35_154, kv_e35_157, kv_e35_158, kv_e35_236, kv_e35_239, kv_o10, not_false_eq_true, not_true, if_true, if_false, kv_then_s, kv_then_v, kv_then_n, List.cons_append, List.nil_append, kv_Ci, kv_Cr, kv_Cn, kv_Cu, kv_C0, kv_catc, kv_gCi, kv_gCl, kv_gCr, kv_nb0, kv_nb1, kv_nbi, kv_nb01, Nat.reduceAdd, Nat.reduceLeDiff, c3', if_true, d1', if_false, List.length_cons, d2, kv_m1, m1, m2, kv_ar_lt q35, kv_rd_lt q35, kv_aw35, kw_n0 n1, kw_n0 n2, kv_tn n1, kv_tn n2, kv_lN (show s.length < 256 by omega), kv_lN n3, or_self, kv_zs, r1, r2, d3', d3, kw_judged, kw_zz, kv_suc, e7]
      · have d1' : 10 < k := Int32.not_le.mp d1
        rw [if_neg d1]
        match s, hp, hs, hsl with
        | [], hp, hs, hsl =>
          refine ⟨p, ?_⟩
          have d2 : ((1 : Int32) ≤ Int32.ofNat ([] : List Int32).length) = False := by decide
          simp only [kv_e35_97, kv_e35_99, kv_e35_101, kv_e35_161, kv_e35_162, kv_e35_163, kv_e35_166, kv_e35_167, kv_o10, not_false_eq_true, not_true, if_true, if_false, kv_then_s, kv_then_v, kv_then_n, List.cons_append, List.nil_append, kv_Ci, kv_Cr, kv_Cn, kv_Cu, kv_C0, kv_catc, kv_gCi, kv_gCl, kv_gCr, kv_nb0, kv_nb1, kv_nbi, kv_nb01, Nat.reduceAdd, Nat.reduceLeDiff, c3', if_true, d1', if_false, d2]
        | v :: s, hp, hs, hsl =>
          have n1 : s.length < 2147483648 := by simp only [List.length_cons] at hsl; omega
          have n3 : s.length < 256 := by simp only [List.length_cons] at hs; omega
          have d2 : ((1 : Int32) ≤ Int32.ofNat (s.length + 1)) = True := by rw [kw_1 (by omega)]; exact eq_true (by omega)
          have m2 : Int32.ofNat (s.length + 1) - 1 = Int32.ofNat s.length := kv_pre _
          have r2 : p s.length = v := hp.1
          dsimp only
          by_cases d3 : k = 13
          · rw [if_pos d3]
            refine ⟨p, ?_⟩
            simp only [kv_e35_97, kv_e35_99, kv_e35_101, kv_e35_161, kv_e35_162, kv_e35_163, kv_e35_168, kv_e35_169, kv_e35_170, kv_e35_171, kv_e35_172, kv_e35_173, kv_e35_175, kv_e35_177, kv_e35_179, kv_e35_182, kv_e35_184, kv_o10, not_false_eq_true, not_true, if_true, if_false, kv_then_s, kv_then_v, kv_then_n, List.cons_append, List.nil_append, kv_Ci, kv_Cr, kv_Cn, kv_Cu, kv_C0, kv_catc, kv_gCi, kv_gCl, kv_gCr, kv_nb0, kv_nb1, kv_nbi, kv_nb01, Nat.reduceAdd, Nat.reduceLeDiff, c3', d1', if_true, if_false, List.length_cons, d2, m2, kv_ar_lt q35, kv_rd_lt q35, kv_aw35, kw_n0 n1, kv_tn n1, kv_lN n3, or_self, kv_zs, r2, eq_true d3, not_true, e6]
          · rw [if_neg d3]
            by_cases d4 : k = 11
            · rw [if_pos d4]
              obtain ⟨p', ih⟩ := ih (i + 1) ((if v = 0 then 1 else 0) :: s) (upd p s.length (if v = 0 then 1 else 0)) (some (.int k)) (some (.int x)) (some (.int v)) u8 (kw_pl_top hp.2 rfl) (by simp only [List.length_cons]; omega) (by omega) (by omega) rfl rfl rfl
              refine ⟨p', ?_⟩
              rw [← ih]
              by_cases d5 : v = 0
              · simp only [kv_e35_97, kv_e35_99, kv_e35_101, kv_e35_161, kv_e35_162, kv_e35_163, kv_e35_168, kv_e35_169, kv_e35_170, kv_e35_171, kv_e35_172, kv_e35_173, kv_e35_175, kv_e35_177, kv_e35_179, kv_e35_185, kv_e35_187, kv_e35_189, kv_e35_192, kv_e35_193, kv_e35_194, kv_e35_195, kv_e35_196, kv_e35_198, kv_e35_201, kv_e35_202, kv_e35_206, kv_e35_207, kv_e35_236, kv_e35_239, kv_o10, not_false_eq_true, not_true, if_true, if_false, kv_then_s, kv_then_v, kv_then_n, List.cons_append, List.nil_append, kv_Ci, kv_Cr, kv_Cn, kv_Cu, kv_C0, kv_catc, kv_gCi, kv_gCl, kv_gCr, kv_nb0, kv_nb1, kv_nbi, kv_nb01, Nat.reduceAdd, Nat.reduceLeDiff, c3', d1', if_true, if_false, List.length_cons, d2, m2, kv_ar_lt q35, kv_rd_lt q35, kv_aw35, kw_n0 n1, kv_tn n1, kv_lN n3, or_self, kv_zs, r2, eq_false d3, eq_true d4, not_true, not_false_eq_true, e6, eq_true d5, kw_zz, kv_suc]
              · simp only [kv_e35_97, kv_e35_99, kv_e35_101, kv_e35_161, kv_e35_162, kv_e35_163, kv_e35_168, kv_e35_169, kv_e35_170, kv_e35_171, kv_e35_172, kv_e35_173, kv_e35_175, kv_e35_177, kv_e35_179, kv_e35_185, kv_e35_187, kv_e35_189, kv_e35_192, kv_e35_193, kv_e35_194, kv_e35_195, kv_e35_196, kv_e35_198, kv_e35_205, kv_e35_206, kv_e35_207, kv_e35_236, kv_e35_239, kv_o10, not_false_eq_true, not_true, if_true, if_false, kv_then_s, kv_then_v, kv_then_n, List.cons_append, List.nil_append, kv_Ci, kv_Cr, kv_Cn, kv_Cu, kv_C0, kv_catc, kv_gCi, kv_gCl, kv_gCr, kv_nb0, kv_nb1, kv_nbi, kv_nb01, Nat.reduceAdd, Nat.reduceLeDiff, c3', d1', if_true, if_false, List.length_cons, d2, m2, kv_ar_lt q35, kv_rd_lt q35, kv_aw35, kw_n0 n1, kv_tn n1, kv_lN n3, or_self, kv_zs, r2, eq_false d3, eq_true d4, not_true, not_false_eq_true, e6, eq_false d5, kw_zz, kv_suc]
            · rw [if_neg d4]
              by_cases d5 : v = 0
              · by_cases d6 : Int32.ofNat i < x
                · rw [if_pos (show v = 0 ∧ Int32.ofNat i < x from ⟨d5, d6⟩)]
                  obtain ⟨m, hm, rfl⟩ := kv_nat ga.1
                  have d7 : i < m := by rw [kv_nlt hi2 hm] at d6; exact d6
                  have d8 : ¬ Int32.ofNat m ≤ Int32.ofNat i := Int32.not_le.mpr d6
                  have d9 := ga.2
                  rw [kv_tn hm] at d9 ⊢
                  obtain ⟨p', ih⟩ := ih m s p (some (.int k)) (some (.int (Int32.ofNat m))) (some (.int v)) u8 hp.2 (by omega) (by omega) (by omega) rfl rfl rfl
                  refine ⟨p', ?_⟩
                  rw [← ih]
                  have m3 : Int32.ofNat m - 1 + 1 = Int32.ofNat m := Int32.sub_add_cancel _ _
                  simp only [kv_e35_97, kv_e35_99, kv_e35_101, kv_e35_161, kv_e35_162, kv_e35_163, kv_e35_168, kv_e35_169, kv_e35_170, kv_e35_171, kv_e35_172, kv_e35_173, kv_e35_175, kv_e35_177, kv_e35_179, kv_e35_185, kv_e35_187, kv_e35_189, kv_e35_210, kv_e35_213, kv_e35_215, kv_e35_218, kv_e35_220, kv_e35_222, kv_e35_225, kv_e35_227, kv_e35_228, kv_e35_229, kv_e35_234, kv_e35_236, kv_e35_239, kv_o10, not_false_eq_true, not_true, if_true, if_false, kv_then_s, kv_then_v, kv_then_n, List.cons_append, List.nil_append, kv_Ci, kv_Cr, kv_Cn, kv_Cu, kv_C0, kv_catc, kv_gCi, kv_gCl, kv_gCr, kv_nb0, kv_nb1, kv_nbi, kv_nb01, Nat.reduceAdd, Nat.reduceLeDiff, c3', d1', if_true, if_false, List.length_cons, d2, kv_m1, m2, kv_ar_lt q35, kv_rd_lt q35, kv_aw35, kw_n0 n1, kv_tn n1, kv_lN n3, or_self, kv_zs, r2, eq_false d3, eq_false d4, not_true, not_false_eq_true, e6, eq_true d5, eq_false d8, m3]
                · rw [if_neg (show ¬ (v = 0 ∧ Int32.ofNat i < x) from fun q => d6 q.2)]
                  have d8 : x ≤ Int32.ofNat i := Int32.not_lt.mp d6
                  obtain ⟨p', ih⟩ := ih (i + 1) s p (some (.int k)) (some (.int x)) (some (.int v)) u8 hp.2 (by omega) (by omega) (by omega) rfl rfl rfl
                  refine ⟨p', ?_⟩
                  rw [← ih]
                  simp only [kv_e35_97, kv_e35_99, kv_e35_101, kv_e35_161, kv_e35_162, kv_e35_163, kv_e35_168, kv_e35_169, kv_e35_170, kv_e35_171, kv_e35_172, kv_e35_173, kv_e35_175, kv_e35_177, kv_e35_179, kv_e35_185, kv_e35_187, kv_e35_189, kv_e35_210, kv_e35_213, kv_e35_215, kv_e35_218, kv_e35_220, kv_e35_222, kv_e35_232, kv_e35_234, kv_e35_236, kv_e35_239, kv_o10, not_false_eq_true, not_true, if_true, if_false, kv_then_s, kv_then_v, kv_then_n, List.cons_append, List.nil_append, kv_Ci, kv_Cr, kv_Cn, kv_Cu, kv_C0, kv_catc, kv_gCi, kv_gCl, kv_gCr, kv_nb0, kv_nb1, kv_nbi, kv_nb01, Nat.reduceAdd, Nat.reduceLeDiff, c3', d1', if_true, if_false, List.length_cons, d2, kv_m1, m2, kv_ar_lt q35, kv_rd_lt q35, kv_aw35, kw_n0 n1, kv_tn n1, kv_lN n3, or_self, kv_zs, r2, eq_false d3, eq_false d4, not_true, not_false_eq_true, e6, eq_true d5, eq_true d8, kv_suc]
              · rw [if_neg (show ¬ (v = 0 ∧ Int32.ofNat i < x) from fun q => d5 q.1)]
                obtain ⟨p', ih⟩ := ih (i + 1) s p (some (.int k)) (some (.int x)) (some (.int v)) u8 hp.2 (by omega) (by omega) (by omega) rfl rfl rfl
                refine ⟨p', ?_⟩
                rw [← ih]
                simp only [kv_e35_97, kv_e35_99, kv_e35_101, kv_e35_161, kv_e35_162, kv_e35_163, kv_e35_168, kv_e35_169, kv_e35_170, kv_e35_171, kv_e35_172, kv_e35_173, kv_e35_175, kv_e35_177, kv_e35_179, kv_e35_185, kv_e35_187, kv_e35_189, kv_e35_210, kv_e35_213, kv_e35_215, kv_e35_232, kv_e35_234, kv_e35_236, kv_e35_239, kv_o10, not_false_eq_true, not_true, if_true, if_false, kv_then_s, kv_then_v, kv_then_n, List.cons_append, List.nil_append, kv_Ci, kv_Cr, kv_Cn, kv_Cu, kv_C0, kv_catc, kv_gCi, kv_gCl, kv_gCr, kv_nb0, kv_nb1, kv_nbi, kv_nb01, Nat.reduceAdd, Nat.reduceLeDiff, c3', d1', if_true, if_false, List.length_cons, d2, kv_m1, m2, kv_ar_lt q35, kv_rd_lt q35, kv_aw35, kw_n0 n1, kv_tn n1, kv_lN n3, or_self, kv_zs, r2, eq_false d3, eq_false d4, not_true, not_false_eq_true, e6, eq_false d5, kv_suc]
theorem kw_worth (hL : kv_isL e a) (h35 : a ≠ 35 ∧ a + 1 ≠ 35) : ∃ p', kv_Rn (d + 1) 35 0 [some (.ref a), some (.ref 34), some (.ref 35), none, none, none, none, none, none] [] (kv_h e z zl) = some (some (.int (kw_we (z (a + 1)) (z a 1) (z 34) 257 0 [])), kv_h e (kv_z z 35 p') zl) := by
  obtain ⟨p', h⟩ := kw_worth_l (d := d) (z := z) (zl := zl) hL h35 257 0 [] (z 35) none none none none trivial (by decide) (by omega) (by omega) rfl rfl rfl
  refine ⟨p', ?_⟩
  have hz : kv_z z 35 (z 35) = z := by
    funext b
    unfold kv_z
    split
    · subst_vars; rfl
    · rfl
  rw [hz] at h
  simp only [kv_e35_0, kv_e35_1, kv_e35_2, kv_e35_3, kv_o10, not_false_eq_true, not_true, if_true, if_false, kv_then_s, kv_then_v, kv_then_n, List.cons_append, List.nil_append, kv_Ci, kv_Cr, kv_Cn, kv_Cu, kv_C0, kv_catc, kv_gCi, kv_gCl, kv_gCr, kv_nb0, kv_nb1, kv_nbi, kv_nb01, Nat.reduceAdd, Nat.reduceLeDiff]
  exact h
end
