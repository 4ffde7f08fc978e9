/-! clan -/
section
variable {d n B W : Nat} {e : List kv_E} {z zK zM zK' zM' : Nat → Nat → Int32} {zl zlM : Nat → Nat → Int64}
/-- alike but for kites that are down in both -/
def kw_e0 (c c' : Nat → Nat → Int32) : Prop := ∀ k, c k = c' k ∨ (c k 11 = 0 ∧ c' k 11 = 0)
theorem kw_e0_climb {fl : Option ((Nat → Int32) → Int32)} {wd : Int32 → Int32 → Int32} {pays m : Int32} {dl : Nat → Int32} {c c' : Nat → Nat → Int32} (h : kw_e0 c c') : kw_e0 (kw_climbM fl wd pays m (kw_md dl c) c) (kw_climbM fl wd pays m (kw_md dl c') c') := by
  intro k
  rcases h k with q | ⟨q1, q2⟩
  · left
    unfold kw_climbM kw_md
    rw [q]
  · right
    unfold kw_climbM
    rw [if_pos q1, if_pos q2]
    exact ⟨q1, q2⟩
theorem kw_e0_wsum {fw : Option ((Nat → Int32) → Int32)} {m : Int32} {c c' : Nat → Nat → Int32} (h : kw_e0 c c') {k : Nat} (hk : c k = c' k) (i : Nat) : kw_wsum fw m c k i = kw_wsum fw m c' k i := by
  unfold kw_wsum
  refine kw_sm_congr (fun o _ => ?_)
  rcases h o with q | ⟨q1, q2⟩
  · rw [hk, q]
  · rw [if_neg (fun r => r.2.1 q1), if_neg (fun r => r.2.1 q2)]
theorem kw_e0_rub {fw : Option ((Nat → Int32) → Int32)} {m : Int32} {c c' : Nat → Nat → Int32} (h : kw_e0 c c') : kw_e0 (kw_rub fw m c) (kw_rub fw m c') := by
  intro k
  rcases h k with q | ⟨q1, q2⟩
  · left
    unfold kw_rub kw_cut kw_rub1
    rw [kw_e0_wsum h q, q]
  · right
    exact ⟨kw_rub_z11 q1, kw_rub_z11 q2⟩
theorem kw_e0_fly {fl fw : Option ((Nat → Int32) → Int32)} {wd : Int32 → Int32 → Int32} {pays : Int32} : ∀ (T : Nat) (m : Int32) (dl : Nat → Int32) (c c' : Nat → Nat → Int32), kw_e0 c c' → kw_e0 (kw_fly fl fw wd pays T m dl c) (kw_fly fl fw wd pays T m dl c') := by
  intro T
  induction T with
  | zero => intro m dl c c' h; exact h
  | succ T ih => intro m dl c c' h; exact ih _ _ _ _ (kw_e0_rub (kw_e0_climb h))
theorem kw_e0_ff {c c' : Nat → Nat → Int32} (h : kw_e0 c c') (w : Nat) (o : Int32) : kv_ff c w o = kv_ff c' w o := by
  unfold kv_ff
  refine kw_sm_congr (fun k _ => ?_)
  rcases h k with q | ⟨q1, q2⟩
  · rw [q]
  · rw [if_neg (fun r => r.1 q1), if_neg (fun r => r.1 q2)]
theorem kw_01_down {c : Nat → Nat → Int32} (h : kw_01 n c) (k : Nat) : kw_01 n (kv_pt c k 11 0) := fun i => by
  by_cases q : i = k
  · subst q
    rw [kw_pt_at]
    exact ⟨Or.inl rfl, fun _ => rfl⟩
  · rw [kw_pt_ne _ _ (fun r => q r.1)]
    exact h i
theorem kw_clanL (hK : kw_K n z) (x : Int32) (v2 v3 v4 : Option Value) (q2 : kv_c2 v2 = false) (q3 : kv_c2 v3 = false) : kv_Rn (d + 3) 261 64 [some (.ref 0), some (.int x), v2, v3, v4] [] (kv_m z zl) = kv_Rn (d + 3) 261 121 [some (.ref 0), some (.int x), v2, some (.int (kv_ff (km z) 7 x)), some (.int (Int32.ofNat n))] [] (kv_m z zl) := by
  have h8 := hK.1.2
  have he : kv_ff (km z) 7 x = kv_sm n (fun k => if ¬ km z k 11 = 0 ∧ km z k 7 = x then 3 * km z k 4 else 0) := by
    have := kw_sm_ext (f := fun k => if ¬ km z k 11 = 0 ∧ km z k 7 = x then 3 * km z k 4 else 0) (m := n) (8 - n) (fun k hk => by rw [(hK.2 k).2 hk]; exact if_neg (fun q => q.1 rfl))
    rw [show n + (8 - n) = 8 from by omega] at this
    exact this
  rw [he]
  have hl := kv_up (fun k => kv_Rn (d + 3) 261 69 [some (.ref 0), some (.int x), v2, some (.int (kv_sm k (fun k => if ¬ km z k 11 = 0 ∧ km z k 7 = x then 3 * km z k 4 else 0))), some (.int (Int32.ofNat k))] [] (kv_m z zl) = kv_Rn (d + 3) 261 121 [some (.ref 0), some (.int x), v2, some (.int (kv_sm n (fun k => if ¬ km z k 11 = 0 ∧ km z k 7 = x then 3 * km z k 4 else 0))), some (.int (Int32.ofNat n))] [] (kv_m z zl)) n ?_ ?_
  · simp only [kv_e261_64, kv_e261_65, kv_e261_66, kv_e261_67, q2, q3, kv_o10, not_false_eq_true, not_true, if_true, if_false, kv_then_s, kv_then_v, kv_then_n, List.cons_append, List.nil_append, kv_Ci, kv_Cr, kv_Cn, kv_Cu, kv_C0, kv_catc, kv_gCi, kv_gCl, kv_gCr, kv_nb0, kv_nb1, kv_nbi, kv_nb01, Nat.reduceAdd, Nat.reduceLeDiff]
    exact hl
  · rw [kv_e261_69]
    simp only [kv_e261_71, kv_e261_72, kv_e261_75, q2, kv_o10, not_false_eq_true, not_true, if_true, if_false, kv_then_s, kv_then_v, kv_then_n, List.cons_append, List.nil_append, kv_Ci, kv_Cr, kv_Cn, kv_Cu, kv_C0, kv_catc, kv_gCi, kv_gCl, kv_gCr, kv_nb0, kv_nb1, kv_nbi, kv_nb01, Nat.reduceAdd, Nat.reduceLeDiff, hK.1.1, kw_ln2 h8 (show n < 2147483648 by omega), Nat.le_refl]
  · intro k hk ih
    have hk8 : k < 8 := by omega
    have hk2 : k < 2147483648 := by omega
    rw [kv_sm_s k] at ih
    rw [kv_e261_69]
    by_cases hc : km z k 11 = 0
    · rw [if_neg (fun q => q.1 hc), Int32.add_zero] at ih
      rw [← ih]
      simp only [kv_e261_0, kv_e261_1, kv_e261_4, kv_e261_7, kv_e261_8, kv_e261_9, kv_e261_10, kv_e261_13, kv_e261_16, kv_e261_17, kv_e261_18, kv_e261_21, kv_e261_22, kv_e261_23, kv_e261_26, kv_e261_29, kv_e261_30, kv_e261_31, kv_e261_33, kv_e261_36, kv_e261_37, kv_e261_40, kv_e261_41, kv_e261_42, kv_e261_43, kv_e261_46, kv_e261_47, kv_e261_48, kv_e261_51, kv_e261_52, kv_e261_53, kv_e261_55, kv_e261_56, kv_e261_59, kv_e261_60, kv_e261_63, kv_e261_64, kv_e261_65, kv_e261_66, kv_e261_67, kv_e261_71, kv_e261_72, kv_e261_75, kv_e261_78, kv_e261_79, kv_e261_80, kv_e261_82, kv_e261_85, kv_e261_88, kv_e261_89, kv_e261_91, kv_e261_93, kv_e261_96, kv_e261_97, kv_e261_100, kv_e261_101, kv_e261_102, kv_e261_104, kv_e261_105, kv_e261_108, kv_e261_109, kv_e261_112, kv_e261_113, kv_e261_114, kv_e261_115, kv_e261_118, kv_e261_121, kv_e261_122, kv_e261_125, kv_e261_126, kv_o10, not_false_eq_true, not_true, if_true, if_false, kv_then_s, kv_then_v, kv_then_n, List.cons_append, List.nil_append, kv_Ci, kv_Cr, kv_Cn, kv_Cu, kv_C0, kv_catc, kv_gCi, kv_gCl, kv_gCr, kv_nb0, kv_nb1, kv_nbi, kv_nb01, Nat.reduceAdd, Nat.reduceLeDiff, q2, hK.1.1, kw_ln2 h8 hk2, eq_false (show ¬ n ≤ k by omega), kw_flies hK hk2, hc, kv_suc, Int32.add_zero, eq_self]
    · by_cases h0 : km z k 7 = x
      · rw [if_pos ⟨hc, h0⟩] at ih
        rw [← ih]
        simp only [kv_e261_0, kv_e261_1, kv_e261_4, kv_e261_7, kv_e261_8, kv_e261_9, kv_e261_10, kv_e261_13, kv_e261_16, kv_e261_17, kv_e261_18, kv_e261_21, kv_e261_22, kv_e261_23, kv_e261_26, kv_e261_29, kv_e261_30, kv_e261_31, kv_e261_33, kv_e261_36, kv_e261_37, kv_e261_40, kv_e261_41, kv_e261_42, kv_e261_43, kv_e261_46, kv_e261_47, kv_e261_48, kv_e261_51, kv_e261_52, kv_e261_53, kv_e261_55, kv_e261_56, kv_e261_59, kv_e261_60, kv_e261_63, kv_e261_64, kv_e261_65, kv_e261_66, kv_e261_67, kv_e261_71, kv_e261_72, kv_e261_75, kv_e261_78, kv_e261_79, kv_e261_80, kv_e261_82, kv_e261_85, kv_e261_88, kv_e261_89, kv_e261_91, kv_e261_93, kv_e261_96, kv_e261_97, kv_e261_100, kv_e261_101, kv_e261_102, kv_e261_104, kv_e261_105, kv_e261_108, kv_e261_109, kv_e261_112, kv_e261_113, kv_e261_114, kv_e261_115, kv_e261_118, kv_e261_121, kv_e261_122, kv_e261_125, kv_e261_126, kv_o10, not_false_eq_true, not_true, if_true, if_false, kv_then_s, kv_then_v, kv_then_n, List.cons_append, List.nil_append, kv_Ci, kv_Cr, kv_Cn, kv_Cu, kv_C0, kv_catc, kv_gCi, kv_gCl, kv_gCr, kv_nb0, kv_nb1, kv_nbi, kv_nb01, Nat.reduceAdd, Nat.reduceLeDiff, q2, hK.1.1, kw_ln2 h8 hk2, eq_false (show ¬ n ≤ k by omega), kw_flies hK hk2, hc, kv_suc, kw_of6 hk8, kw_of3 hk8, h0]
      · rw [if_neg (fun q => h0 q.2), Int32.add_zero] at ih
        rw [← ih]
        simp only [kv_e261_0, kv_e261_1, kv_e261_4, kv_e261_7, kv_e261_8, kv_e261_9, kv_e261_10, kv_e261_13, kv_e261_16, kv_e261_17, kv_e261_18, kv_e261_21, kv_e261_22, kv_e261_23, kv_e261_26, kv_e261_29, kv_e261_30, kv_e261_31, kv_e261_33, kv_e261_36, kv_e261_37, kv_e261_40, kv_e261_41, kv_e261_42, kv_e261_43, kv_e261_46, kv_e261_47, kv_e261_48, kv_e261_51, kv_e261_52, kv_e261_53, kv_e261_55, kv_e261_56, kv_e261_59, kv_e261_60, kv_e261_63, kv_e261_64, kv_e261_65, kv_e261_66, kv_e261_67, kv_e261_71, kv_e261_72, kv_e261_75, kv_e261_78, kv_e261_79, kv_e261_80, kv_e261_82, kv_e261_85, kv_e261_88, kv_e261_89, kv_e261_91, kv_e261_93, kv_e261_96, kv_e261_97, kv_e261_100, kv_e261_101, kv_e261_102, kv_e261_104, kv_e261_105, kv_e261_108, kv_e261_109, kv_e261_112, kv_e261_113, kv_e261_114, kv_e261_115, kv_e261_118, kv_e261_121, kv_e261_122, kv_e261_125, kv_e261_126, kv_o10, not_false_eq_true, not_true, if_true, if_false, kv_then_s, kv_then_v, kv_then_n, List.cons_append, List.nil_append, kv_Ci, kv_Cr, kv_Cn, kv_Cu, kv_C0, kv_catc, kv_gCi, kv_gCl, kv_gCr, kv_nb0, kv_nb1, kv_nbi, kv_nb01, Nat.reduceAdd, Nat.reduceLeDiff, q2, hK.1.1, kw_ln2 h8 hk2, eq_false (show ¬ n ≤ k by omega), kw_flies hK hk2, hc, kv_suc, kw_of6 hk8, h0, Int32.add_zero]
theorem kw_f_clan (h : kw_R n B W zK zM) (x w : Int32) : kw_A (d + 12) 127 261 [some (.ref 0), some (.int x), some (.int w)] [some (.ref 0), some (.int x), some (.int w), none, none] zK zM zl zlM := by
  have hKK := kw_R_KK h
  have hI := kw_R_I h
  have h8 := hI.1.1.1.2
  have ek := kw_R_km h.2.1.1
  have hF := h.1.2.2.1
  have ez : (zM 0 24 = 0) = (n = 0) := by
    rw [hF.1.2.1, show (0 : Int32) = Int32.ofNat 0 from rfl, kv_neq (by omega) (by omega)]
  obtain ⟨em, M, m1, m2, m3, m4, m5⟩ := kw_R_min h
  by_cases c : n = 0
  · replace c := eq_true c
    refine kw_A0 (r := -1) h ?_ ?_
    · simp only [kv_e127_0, kv_e127_1, kv_e127_4, kv_e127_7, kv_e127_8, kv_e127_9, kv_e127_12, kv_e127_15, kv_e127_16, kv_e127_17, kv_e127_18, kv_e127_19, kv_e127_22, kv_e127_23, kv_e127_24, kv_e127_27, kv_e127_30, kv_e127_31, kv_e127_34, kv_e127_35, kv_e127_37, kv_e127_40, kv_e127_41, kv_e127_44, kv_e127_45, kv_e127_46, kv_e127_47, kv_e127_50, kv_e127_51, kv_e127_54, kv_e127_57, kv_e127_58, kv_e127_59, kv_e127_62, kv_e127_63, kv_e127_66, kv_e127_67, kv_e127_70, kv_e127_71, kv_e127_74, kv_e127_75, kv_e127_78, kv_e127_79, kv_e127_82, kv_o10, not_false_eq_true, not_true, if_true, if_false, kv_then_s, kv_then_v, kv_then_n, List.cons_append, List.nil_append, kv_Ci, kv_Cr, kv_Cn, kv_Cu, kv_C0, kv_catc, kv_gCi, kv_gCl, kv_gCr, kv_nb0, kv_nb1, kv_nbi, kv_nb01, Nat.reduceAdd, Nat.reduceLeDiff, kw_KhF h, c, eq_self]
    · simp only [kv_e261_0, kv_e261_1, kv_e261_4, kv_e261_7, kv_e261_8, kv_e261_9, kv_e261_10, kv_e261_13, kv_e261_16, kv_e261_17, kv_e261_18, kv_e261_21, kv_e261_22, kv_e261_23, kv_e261_26, kv_e261_29, kv_e261_30, kv_e261_31, kv_e261_33, kv_e261_36, kv_e261_37, kv_e261_40, kv_e261_41, kv_e261_42, kv_e261_43, kv_e261_46, kv_e261_47, kv_e261_48, kv_e261_51, kv_e261_52, kv_e261_53, kv_e261_55, kv_e261_56, kv_e261_59, kv_e261_60, kv_e261_63, kv_e261_64, kv_e261_65, kv_e261_66, kv_e261_67, kv_e261_71, kv_e261_72, kv_e261_75, kv_e261_78, kv_e261_79, kv_e261_80, kv_e261_82, kv_e261_85, kv_e261_88, kv_e261_89, kv_e261_91, kv_e261_93, kv_e261_96, kv_e261_97, kv_e261_100, kv_e261_101, kv_e261_102, kv_e261_104, kv_e261_105, kv_e261_108, kv_e261_109, kv_e261_112, kv_e261_113, kv_e261_114, kv_e261_115, kv_e261_118, kv_e261_121, kv_e261_122, kv_e261_125, kv_e261_126, kv_o10, not_false_eq_true, not_true, if_true, if_false, kv_then_s, kv_then_v, kv_then_n, List.cons_append, List.nil_append, kv_Ci, kv_Cr, kv_Cn, kv_Cu, kv_C0, kv_catc, kv_gCi, kv_gCl, kv_gCr, kv_nb0, kv_nb1, kv_nbi, kv_nb01, Nat.reduceAdd, Nat.reduceLeDiff, ez, c, eq_self]
  · by_cases c1 : 0 ≤ x ∧ x ≤ 4
    · obtain ⟨t1, t2, t3⟩ := kw_trial h m3
      obtain ⟨y1, s1, j1⟩ := kw_aside (d := d + 10) (zM := zM) (zlM := zlM)
      by_cases w1 : w = -1
      · obtain ⟨z1, r1, x1, k1, b1⟩ := kw_flyK (d := d + 5) (e := []) (zl := zl) h m3 m1 t1 t2 t3
        obtain ⟨y2, s2, j2, k2, I2, b2, mo⟩ := kw_flyM (d := d + 3) (zlM := zlM) h m1 (kw_J_Z j1) (c := km zM) (dl := fun _ => -1) (kw_J_km j1) (by rw [kw_J_m j1, ← em, m3]) (fun i hi => j1.2.2 i (by omega)) hI.1.1.2 hI.2.2.2.1
        obtain ⟨y3, s3, j3⟩ := kw_backM (d := d + 10) (zlM := zlM) j2
        refine kw_A_ (r := kv_ff (kw_Fl zK zM B M (fun _ => -1) (km zM)) 7 x) h ?_ ?_ x1 j3.1
        · simp only [kv_e127_0, kv_e127_1, kv_e127_4, kv_e127_7, kv_e127_8, kv_e127_9, kv_e127_12, kv_e127_15, kv_e127_16, kv_e127_17, kv_e127_18, kv_e127_19, kv_e127_22, kv_e127_23, kv_e127_24, kv_e127_27, kv_e127_30, kv_e127_31, kv_e127_34, kv_e127_35, kv_e127_37, kv_e127_40, kv_e127_41, kv_e127_44, kv_e127_45, kv_e127_46, kv_e127_47, kv_e127_50, kv_e127_51, kv_e127_54, kv_e127_57, kv_e127_58, kv_e127_59, kv_e127_62, kv_e127_63, kv_e127_66, kv_e127_67, kv_e127_70, kv_e127_71, kv_e127_74, kv_e127_75, kv_e127_78, kv_e127_79, kv_e127_82, kv_o10, not_false_eq_true, not_true, if_true, if_false, kv_then_s, kv_then_v, kv_then_n, List.cons_append, List.nil_append, kv_Ci, kv_Cr, kv_Cn, kv_Cu, kv_C0, kv_catc, kv_gCi, kv_gCl, kv_gCr, kv_nb0, kv_nb1, kv_nbi, kv_nb01, Nat.reduceAdd, Nat.reduceLeDiff, kw_KhF h, c, kw_isOut, c1, and_self, eq_self, w1, kv_isS36, kv_isS39, kv_copyS, r1, kv_feetOfClan, k1]
        · simp only [kv_e261_0, kv_e261_1, kv_e261_4, kv_e261_7, kv_e261_8, kv_e261_9, kv_e261_10, kv_e261_13, kv_e261_16, kv_e261_17, kv_e261_18, kv_e261_42, kv_e261_43, kv_e261_46, kv_e261_47, kv_e261_48, kv_e261_59, kv_e261_60, kv_e261_63, kv_o10, not_false_eq_true, not_true, if_true, if_false, kv_then_s, kv_then_v, kv_then_n, List.cons_append, List.nil_append, kv_Ci, kv_Cr, kv_Cn, kv_Cu, kv_C0, kv_catc, kv_gCi, kv_gCl, kv_gCr, kv_nb0, kv_nb1, kv_nbi, kv_nb01, Nat.reduceAdd, Nat.reduceLeDiff, ez, c, kw_in, c1, and_self, w1, eq_self, s1, s2]
          rw [kw_clanL (d := d + 9) I2.1.1 x (some (.int (-1))) none none rfl rfl]
          simp only [kv_e261_121, kv_e261_122, kv_e261_125, kv_e261_126, kv_o10, not_false_eq_true, not_true, if_true, if_false, kv_then_s, kv_then_v, kv_then_n, List.cons_append, List.nil_append, kv_Ci, kv_Cr, kv_Cn, kv_Cu, kv_C0, kv_catc, kv_gCi, kv_gCl, kv_gCr, kv_nb0, kv_nb1, kv_nbi, kv_nb01, Nat.reduceAdd, Nat.reduceLeDiff, s3, k2]
      · by_cases w0 : w < 0
        · refine kw_A0 (r := -1) h ?_ ?_
          · simp only [kv_e127_0, kv_e127_1, kv_e127_4, kv_e127_7, kv_e127_8, kv_e127_9, kv_e127_12, kv_e127_15, kv_e127_16, kv_e127_17, kv_e127_18, kv_e127_19, kv_e127_22, kv_e127_23, kv_e127_24, kv_e127_27, kv_e127_30, kv_e127_31, kv_e127_34, kv_e127_35, kv_e127_37, kv_e127_40, kv_e127_41, kv_e127_44, kv_e127_45, kv_e127_46, kv_e127_47, kv_e127_50, kv_e127_51, kv_e127_54, kv_e127_57, kv_e127_58, kv_e127_59, kv_e127_62, kv_e127_63, kv_e127_66, kv_e127_67, kv_e127_70, kv_e127_71, kv_e127_74, kv_e127_75, kv_e127_78, kv_e127_79, kv_e127_82, kv_o10, not_false_eq_true, not_true, if_true, if_false, kv_then_s, kv_then_v, kv_then_n, List.cons_append, List.nil_append, kv_Ci, kv_Cr, kv_Cn, kv_Cu, kv_C0, kv_catc, kv_gCi, kv_gCl, kv_gCr, kv_nb0, kv_nb1, kv_nbi, kv_nb01, Nat.reduceAdd, Nat.reduceLeDiff, kw_KhF h, c, kw_isOut, c1, and_self, eq_self, w1, kw_KfliesN w0]
          · simp only [kv_e261_0, kv_e261_1, kv_e261_4, kv_e261_7, kv_e261_8, kv_e261_9, kv_e261_10, kv_e261_13, kv_e261_16, kv_e261_17, kv_e261_18, kv_e261_21, kv_e261_22, kv_e261_23, kv_e261_26, kv_e261_29, kv_e261_30, kv_e261_31, kv_e261_33, kv_e261_36, kv_e261_37, kv_e261_40, kv_e261_41, kv_e261_42, kv_e261_43, kv_e261_46, kv_e261_47, kv_e261_48, kv_e261_51, kv_e261_52, kv_e261_53, kv_e261_55, kv_e261_56, kv_e261_59, kv_e261_60, kv_e261_63, kv_e261_64, kv_e261_65, kv_e261_66, kv_e261_67, kv_e261_71, kv_e261_72, kv_e261_75, kv_e261_78, kv_e261_79, kv_e261_80, kv_e261_82, kv_e261_85, kv_e261_88, kv_e261_89, kv_e261_91, kv_e261_93, kv_e261_96, kv_e261_97, kv_e261_100, kv_e261_101, kv_e261_102, kv_e261_104, kv_e261_105, kv_e261_108, kv_e261_109, kv_e261_112, kv_e261_113, kv_e261_114, kv_e261_115, kv_e261_118, kv_e261_121, kv_e261_122, kv_e261_125, kv_e261_126, kv_o10, not_false_eq_true, not_true, if_true, if_false, kv_then_s, kv_then_v, kv_then_n, List.cons_append, List.nil_append, kv_Ci, kv_Cr, kv_Cn, kv_Cu, kv_C0, kv_catc, kv_gCi, kv_gCl, kv_gCr, kv_nb0, kv_nb1, kv_nbi, kv_nb01, Nat.reduceAdd, Nat.reduceLeDiff, ez, c, kw_in, c1, and_self, w1, kw_fliesN w0, eq_self]
        · obtain ⟨k, hk, rfl⟩ := kv_nat (kv_nn0 w0)
          by_cases c2 : km zM k 11 = 0
          · refine kw_A0 (r := -1) h ?_ ?_
            · simp only [kv_e127_0, kv_e127_1, kv_e127_4, kv_e127_7, kv_e127_8, kv_e127_9, kv_e127_12, kv_e127_15, kv_e127_16, kv_e127_17, kv_e127_18, kv_e127_19, kv_e127_22, kv_e127_23, kv_e127_24, kv_e127_27, kv_e127_30, kv_e127_31, kv_e127_34, kv_e127_35, kv_e127_37, kv_e127_40, kv_e127_41, kv_e127_44, kv_e127_45, kv_e127_46, kv_e127_47, kv_e127_50, kv_e127_51, kv_e127_54, kv_e127_57, kv_e127_58, kv_e127_59, kv_e127_62, kv_e127_63, kv_e127_66, kv_e127_67, kv_e127_70, kv_e127_71, kv_e127_74, kv_e127_75, kv_e127_78, kv_e127_79, kv_e127_82, kv_o10, not_false_eq_true, not_true, if_true, if_false, kv_then_s, kv_then_v, kv_then_n, List.cons_append, List.nil_append, kv_Ci, kv_Cr, kv_Cn, kv_Cu, kv_C0, kv_catc, kv_gCi, kv_gCl, kv_gCr, kv_nb0, kv_nb1, kv_nbi, kv_nb01, Nat.reduceAdd, Nat.reduceLeDiff, kw_KhF h, c, kw_isOut, c1, and_self, eq_self, w1, kw_Kflies hKK hk, ek, c2]
            · simp only [kv_e261_0, kv_e261_1, kv_e261_4, kv_e261_7, kv_e261_8, kv_e261_9, kv_e261_10, kv_e261_13, kv_e261_16, kv_e261_17, kv_e261_18, kv_e261_21, kv_e261_22, kv_e261_23, kv_e261_26, kv_e261_29, kv_e261_30, kv_e261_31, kv_e261_33, kv_e261_36, kv_e261_37, kv_e261_40, kv_e261_41, kv_e261_42, kv_e261_43, kv_e261_46, kv_e261_47, kv_e261_48, kv_e261_51, kv_e261_52, kv_e261_53, kv_e261_55, kv_e261_56, kv_e261_59, kv_e261_60, kv_e261_63, kv_e261_64, kv_e261_65, kv_e261_66, kv_e261_67, kv_e261_71, kv_e261_72, kv_e261_75, kv_e261_78, kv_e261_79, kv_e261_80, kv_e261_82, kv_e261_85, kv_e261_88, kv_e261_89, kv_e261_91, kv_e261_93, kv_e261_96, kv_e261_97, kv_e261_100, kv_e261_101, kv_e261_102, kv_e261_104, kv_e261_105, kv_e261_108, kv_e261_109, kv_e261_112, kv_e261_113, kv_e261_114, kv_e261_115, kv_e261_118, kv_e261_121, kv_e261_122, kv_e261_125, kv_e261_126, kv_o10, not_false_eq_true, not_true, if_true, if_false, kv_then_s, kv_then_v, kv_then_n, List.cons_append, List.nil_append, kv_Ci, kv_Cr, kv_Cn, kv_Cu, kv_C0, kv_catc, kv_gCi, kv_gCl, kv_gCr, kv_nb0, kv_nb1, kv_nbi, kv_nb01, Nat.reduceAdd, Nat.reduceLeDiff, ez, c, kw_in, c1, and_self, w1, kw_flies hI.1.1 hk, c2, eq_self]
          · have hk8 := (kw_lt8 h c2).2
            by_cases c3 : km zM k 7 = x
            · -- the class grounds the kite, the model says that it doesn't fly
              generalize hz2 : kv_su (kv_su (kv_su (kv_sc zK 39 36) 39 (Int32.ofNat k) 11 0) 39 (Int32.ofNat k) 4 0) 39 (Int32.ofNat k) 3 0 = z2
              have f2 : ∀ c, c ≠ 39 → c ≠ 40 → c ≠ 41 → z2 c = zK c := fun c a1 a2 a3 => by
                rw [← hz2, kw_su_fr _ _ _ _ _ a2, kw_su_fr _ _ _ _ _ a2, kw_su_fr _ _ _ _ _ a2, kw_sc_fr zK a1 a2 a3]
              have g2 : kc z2 39 = kv_pt (kv_pt (kv_pt (km zM) k 11 0) k 4 0) k 3 0 := by
                rw [← hz2, kw_sk3 _ 39 hk8, kw_sk4 _ 39 hk8, kw_sk11 _ 39 hk8, kw_sc_kc, ek]
              have h2 : z2 39 3 = Int32.ofNat M := by
                rw [← hz2, kw_su_fr _ _ _ _ _ (by omega), kw_su_fr _ _ _ _ _ (by omega), kw_su_fr _ _ _ _ _ (by omega)]
                exact t3
              obtain ⟨z1, r1, x1, k1, b1⟩ := kw_flyK (d := d + 5) (e := []) (zl := zl) (z := z2) h m3 m1 (fun c a1 a2 a3 a4 a5 a6 => f2 c a3 a4 a5) g2 h2
              obtain ⟨y2, s2, j2, k2, I2, b2, mo⟩ := kw_flyM (d := d + 3) (zlM := zlM) (z := kw_mu y1 k 11 0) (c := kv_pt (km zM) k 11 0) (dl := fun _ => -1) h m1 (kw_Z_mu hk8 (by omega) (kw_J_Z j1)) (by rw [kw_mu_km _ hk8 (by omega), kw_J_km j1]) (by rw [(kw_N_mu (z := y1) (v := 0) hk8 (show 11 < 13 by omega)).2 104 (by omega), kw_J_m j1, ← em, m3]) (fun i hi => by rw [kw_mu_fr _ _ _ _ (by omega)]; exact j1.2.2 i (by omega)) (kw_01_down hI.1.1.2 k) (kw_okc_pt hI.2.2.2.1 (by omega))
              obtain ⟨y3, s3, j3⟩ := kw_backM (d := d + 10) (zlM := zlM) j2
              have he : kw_e0 (kv_pt (kv_pt (kv_pt (km zM) k 11 0) k 4 0) k 3 0) (kv_pt (km zM) k 11 0) := fun i => by
                by_cases q : i = k
                · subst q
                  right
                  rw [kw_pt_ne _ _ (by omega), kw_pt_ne _ _ (by omega), kw_pt_at]
                  exact ⟨rfl, rfl⟩
                · left
                  funext j
                  rw [kw_pt_ne _ _ (fun r => q r.1), kw_pt_ne _ _ (fun r => q r.1)]
              have hff := kw_e0_ff (kw_e0_fly (fl := kw_lf zK (zK 7 2)) (fw := kw_lf zK (zK 7 3)) (wd := kw_mwin zM) (pays := zM 14 3) (B - M) (Int32.ofNat M) (fun _ => -1) _ _ he) 7 x
              refine kw_A_ (r := kv_ff (kw_Fl zK zM B M (fun _ => -1) (kv_pt (km zM) k 11 0)) 7 x) h ?_ ?_ x1 j3.1
              · rw [show kw_Fl zK zM B M (fun _ => -1) (kv_pt (km zM) k 11 0) = kw_fly (kw_lf zK (zK 7 2)) (kw_lf zK (zK 7 3)) (kw_mwin zM) (zM 14 3) (B - M) (Int32.ofNat M) (fun _ => -1) (kv_pt (km zM) k 11 0) from rfl, ← hff]
                simp only [kv_e127_0, kv_e127_1, kv_e127_4, kv_e127_7, kv_e127_8, kv_e127_9, kv_e127_12, kv_e127_15, kv_e127_16, kv_e127_17, kv_e127_18, kv_e127_19, kv_e127_22, kv_e127_23, kv_e127_24, kv_e127_27, kv_e127_30, kv_e127_31, kv_e127_34, kv_e127_35, kv_e127_37, kv_e127_40, kv_e127_41, kv_e127_44, kv_e127_45, kv_e127_46, kv_e127_47, kv_e127_50, kv_e127_51, kv_e127_54, kv_e127_57, kv_e127_58, kv_e127_59, kv_e127_62, kv_e127_63, kv_e127_66, kv_e127_67, kv_e127_70, kv_e127_71, kv_e127_74, kv_e127_75, kv_e127_78, kv_e127_79, kv_e127_82, kv_o10, not_false_eq_true, not_true, if_true, if_false, kv_then_s, kv_then_v, kv_then_n, List.cons_append, List.nil_append, kv_Ci, kv_Cr, kv_Cn, kv_Cu, kv_C0, kv_catc, kv_gCi, kv_gCl, kv_gCr, kv_nb0, kv_nb1, kv_nbi, kv_nb01, Nat.reduceAdd, Nat.reduceLeDiff, kw_KhF h, c, kw_isOut, c1, and_self, eq_self, w1, kw_Kflies hKK hk, ek, c2, kv_get, kv_g7 zK 36 hk8, c3, kv_isS36, kv_isS39, kv_copyS, kv_ground, hz2, r1, kv_feetOfClan, k1]
                rfl
              · simp only [kv_e261_0, kv_e261_1, kv_e261_4, kv_e261_7, kv_e261_8, kv_e261_9, kv_e261_10, kv_e261_13, kv_e261_16, kv_e261_17, kv_e261_18, kv_e261_21, kv_e261_22, kv_e261_23, kv_e261_26, kv_e261_29, kv_e261_30, kv_e261_31, kv_e261_33, kv_e261_36, kv_e261_37, kv_e261_42, kv_e261_43, kv_e261_46, kv_e261_47, kv_e261_48, kv_e261_51, kv_e261_52, kv_e261_53, kv_e261_55, kv_e261_56, kv_e261_59, kv_e261_60, kv_e261_63, kv_o10, not_false_eq_true, not_true, if_true, if_false, kv_then_s, kv_then_v, kv_then_n, List.cons_append, List.nil_append, kv_Ci, kv_Cr, kv_Cn, kv_Cu, kv_C0, kv_catc, kv_gCi, kv_gCl, kv_gCr, kv_nb0, kv_nb1, kv_nbi, kv_nb01, Nat.reduceAdd, Nat.reduceLeDiff, ez, c, kw_in, c1, and_self, w1, eq_self, kw_flies hI.1.1 hk, c2, kw_of6 hk8, c3, s1, kw_put11 hk8, s2]
                rw [kw_clanL (d := d + 9) I2.1.1 x (some (.int (Int32.ofNat k))) none none rfl rfl]
                simp only [kv_e261_121, kv_e261_122, kv_e261_125, kv_e261_126, kv_o10, not_false_eq_true, not_true, if_true, if_false, kv_then_s, kv_then_v, kv_then_n, List.cons_append, List.nil_append, kv_Ci, kv_Cr, kv_Cn, kv_Cu, kv_C0, kv_catc, kv_gCi, kv_gCl, kv_gCr, kv_nb0, kv_nb1, kv_nbi, kv_nb01, Nat.reduceAdd, Nat.reduceLeDiff, s3, k2]
            · refine kw_A0 (r := -1) h ?_ ?_
              · simp only [kv_e127_0, kv_e127_1, kv_e127_4, kv_e127_7, kv_e127_8, kv_e127_9, kv_e127_12, kv_e127_15, kv_e127_16, kv_e127_17, kv_e127_18, kv_e127_19, kv_e127_22, kv_e127_23, kv_e127_24, kv_e127_27, kv_e127_30, kv_e127_31, kv_e127_34, kv_e127_35, kv_e127_37, kv_e127_40, kv_e127_41, kv_e127_44, kv_e127_45, kv_e127_46, kv_e127_47, kv_e127_50, kv_e127_51, kv_e127_54, kv_e127_57, kv_e127_58, kv_e127_59, kv_e127_62, kv_e127_63, kv_e127_66, kv_e127_67, kv_e127_70, kv_e127_71, kv_e127_74, kv_e127_75, kv_e127_78, kv_e127_79, kv_e127_82, kv_o10, not_false_eq_true, not_true, if_true, if_false, kv_then_s, kv_then_v, kv_then_n, List.cons_append, List.nil_append, kv_Ci, kv_Cr, kv_Cn, kv_Cu, kv_C0, kv_catc, kv_gCi, kv_gCl, kv_gCr, kv_nb0, kv_nb1, kv_nbi, kv_nb01, Nat.reduceAdd, Nat.reduceLeDiff, kw_KhF h, c, kw_isOut, c1, and_self, eq_self, w1, kw_Kflies hKK hk, ek, c2, kv_isS36, kv_get, kv_g7 zK 36 hk8, c3]
              · simp only [kv_e261_0, kv_e261_1, kv_e261_4, kv_e261_7, kv_e261_8, kv_e261_9, kv_e261_10, kv_e261_13, kv_e261_16, kv_e261_17, kv_e261_18, kv_e261_21, kv_e261_22, kv_e261_23, kv_e261_26, kv_e261_29, kv_e261_30, kv_e261_31, kv_e261_33, kv_e261_36, kv_e261_37, kv_e261_40, kv_e261_41, kv_e261_42, kv_e261_43, kv_e261_46, kv_e261_47, kv_e261_48, kv_e261_51, kv_e261_52, kv_e261_53, kv_e261_55, kv_e261_56, kv_e261_59, kv_e261_60, kv_e261_63, kv_e261_64, kv_e261_65, kv_e261_66, kv_e261_67, kv_e261_71, kv_e261_72, kv_e261_75, kv_e261_78, kv_e261_79, kv_e261_80, kv_e261_82, kv_e261_85, kv_e261_88, kv_e261_89, kv_e261_91, kv_e261_93, kv_e261_96, kv_e261_97, kv_e261_100, kv_e261_101, kv_e261_102, kv_e261_104, kv_e261_105, kv_e261_108, kv_e261_109, kv_e261_112, kv_e261_113, kv_e261_114, kv_e261_115, kv_e261_118, kv_e261_121, kv_e261_122, kv_e261_125, kv_e261_126, kv_o10, not_false_eq_true, not_true, if_true, if_false, kv_then_s, kv_then_v, kv_then_n, List.cons_append, List.nil_append, kv_Ci, kv_Cr, kv_Cn, kv_Cu, kv_C0, kv_catc, kv_gCi, kv_gCl, kv_gCr, kv_nb0, kv_nb1, kv_nbi, kv_nb01, Nat.reduceAdd, Nat.reduceLeDiff, ez, c, kw_in, c1, and_self, w1, kw_flies hI.1.1 hk, c2, kw_of6 hk8, c3, eq_self]
    · refine kw_A0 (r := -1) h ?_ ?_
      · simp only [kv_e127_0, kv_e127_1, kv_e127_4, kv_e127_7, kv_e127_8, kv_e127_9, kv_e127_12, kv_e127_15, kv_e127_16, kv_e127_17, kv_e127_18, kv_e127_19, kv_e127_22, kv_e127_23, kv_e127_24, kv_e127_27, kv_e127_30, kv_e127_31, kv_e127_34, kv_e127_35, kv_e127_37, kv_e127_40, kv_e127_41, kv_e127_44, kv_e127_45, kv_e127_46, kv_e127_47, kv_e127_50, kv_e127_51, kv_e127_54, kv_e127_57, kv_e127_58, kv_e127_59, kv_e127_62, kv_e127_63, kv_e127_66, kv_e127_67, kv_e127_70, kv_e127_71, kv_e127_74, kv_e127_75, kv_e127_78, kv_e127_79, kv_e127_82, kv_o10, not_false_eq_true, not_true, if_true, if_false, kv_then_s, kv_then_v, kv_then_n, List.cons_append, List.nil_append, kv_Ci, kv_Cr, kv_Cn, kv_Cu, kv_C0, kv_catc, kv_gCi, kv_gCl, kv_gCr, kv_nb0, kv_nb1, kv_nbi, kv_nb01, Nat.reduceAdd, Nat.reduceLeDiff, kw_KhF h, c, kw_isOut, c1, eq_self]
      · simp only [kv_e261_0, kv_e261_1, kv_e261_4, kv_e261_7, kv_e261_8, kv_e261_9, kv_e261_10, kv_e261_13, kv_e261_16, kv_e261_17, kv_e261_18, kv_e261_21, kv_e261_22, kv_e261_23, kv_e261_26, kv_e261_29, kv_e261_30, kv_e261_31, kv_e261_33, kv_e261_36, kv_e261_37, kv_e261_40, kv_e261_41, kv_e261_42, kv_e261_43, kv_e261_46, kv_e261_47, kv_e261_48, kv_e261_51, kv_e261_52, kv_e261_53, kv_e261_55, kv_e261_56, kv_e261_59, kv_e261_60, kv_e261_63, kv_e261_64, kv_e261_65, kv_e261_66, kv_e261_67, kv_e261_71, kv_e261_72, kv_e261_75, kv_e261_78, kv_e261_79, kv_e261_80, kv_e261_82, kv_e261_85, kv_e261_88, kv_e261_89, kv_e261_91, kv_e261_93, kv_e261_96, kv_e261_97, kv_e261_100, kv_e261_101, kv_e261_102, kv_e261_104, kv_e261_105, kv_e261_108, kv_e261_109, kv_e261_112, kv_e261_113, kv_e261_114, kv_e261_115, kv_e261_118, kv_e261_121, kv_e261_122, kv_e261_125, kv_e261_126, kv_o10, not_false_eq_true, not_true, if_true, if_false, kv_then_s, kv_then_v, kv_then_n, List.cons_append, List.nil_append, kv_Ci, kv_Cr, kv_Cn, kv_Cu, kv_C0, kv_catc, kv_gCi, kv_gCl, kv_gCr, kv_nb0, kv_nb1, kv_nbi, kv_nb01, Nat.reduceAdd, Nat.reduceLeDiff, ez, c, kw_in, c1, eq_self]
end
