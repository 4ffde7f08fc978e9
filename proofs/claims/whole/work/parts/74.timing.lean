/-! timing, duel -/
section
variable {d n B W : Nat} {e : List kv_E} {z zK zM zK' zM' : Nat → Nat → Int32} {zl zlM : Nat → Nat → Int64}
/-- a kite's height at the bell, starts told, beside the trial's -/
theorem kw_a8_4 {c c' : Nat → Nat → Int32} (h : kw_a8 c c') (k : Nat) : c' k 4 = c k 4 := h k 4 (by omega)
theorem kw_dl_set {y : Nat → Nat → Int32} {k na : Nat} {other : Int32} (hy : ∀ i, i < 8 → y 17 i = -1) (ho : other = -1) (i : Nat) (hi : i < 8) : kv_z y 17 (upd (y 17) k (Int32.ofNat na)) 17 i = kw_D k other na 0 0 i := by
  rw [kv_zs]
  unfold kw_D upd
  by_cases q : i = k
  · rw [if_pos q, if_pos q]
    rfl
  · rw [if_neg q, if_neg q, if_neg, hy i hi]
    rintro ⟨r1, r2⟩
    rw [ho, kw_of_m1 (by omega)] at r2
    exact r2
theorem kw_Z_17 {y : Nat → Nat → Int32} {f : Nat → Int32} (h : kw_Z zM y) : kw_Z zM (kv_z y 17 f) := by
  refine ⟨fun c a1 a2 a3 a4 a5 a6 a7 => ?_, fun i hi => ?_, fun i hi => ?_⟩
  · rw [kv_zne _ _ a4]
    exact h.1 c a1 a2 a3 a4 a5 a6 a7
  · rw [kv_zne _ _ (by omega)]
    exact h.2.1 i hi
  · rw [kv_zne _ _ (by omega)]
    exact h.2.2 i hi
theorem kw_f_timing (h : kw_R n B W zK zM) (x w : Int32) : kw_A (d + 12) 110 245 [some (.ref 0), some (.int x), some (.int w), none, none, none, none, none] [some (.ref 0), some (.int x), some (.int w), none, none, none, none, none] zK zM zl zlM := by
  have hKK := kw_R_KK h
  have hI := kw_R_I h
  have h8 := hI.1.1.1.2
  have ek := kw_R_km h.2.1.1
  obtain ⟨em, M, m1, m2, m3, m4, m5⟩ := kw_R_min h
  have el : Int32.ofNat B - Int32.ofNat M = Int32.ofNat (B - M) := by
    have := @kw_subN M (B - M)
    rw [show M + (B - M) = B from by omega] at this
    exact this
  have em2 : zM 16 104 = Int32.ofNat M := by rw [← em, m3]
  by_cases c0 : x < 0
  · refine kw_A0 (r := -1) h ?_ ?_
    · simp only [kv_e110_0, kv_e110_1, kv_e110_2, kv_e110_5, kv_e110_8, kv_e110_9, kv_e110_10, kv_e110_13, kv_e110_16, kv_e110_17, kv_e110_18, kv_e110_19, kv_e110_22, kv_e110_23, kv_e110_24, kv_e110_26, kv_e110_27, kv_e110_29, kv_e110_30, kv_e110_34, kv_e110_35, kv_e110_38, kv_e110_39, kv_e110_40, kv_e110_42, kv_e110_43, kv_e110_44, kv_e110_47, kv_e110_48, kv_e110_51, kv_e110_52, kv_e110_53, kv_e110_56, kv_e110_58, kv_e110_60, kv_e110_62, kv_e110_65, kv_e110_67, kv_e110_69, kv_e110_71, kv_e110_73, kv_e110_76, kv_e110_79, kv_e110_80, kv_e110_83, kv_e110_85, kv_e110_88, kv_e110_90, kv_o10, not_false_eq_true, not_true, if_true, if_false, kv_then_s, kv_then_v, kv_then_n, List.cons_append, List.nil_append, kv_Ci, kv_Cr, kv_Cn, kv_Cu, kv_C0, kv_catc, kv_gCi, kv_gCl, kv_gCr, kv_nb0, kv_nb1, kv_nbi, kv_nb01, Nat.reduceAdd, Nat.reduceLeDiff, kw_KfliesN c0, eq_self]
    · simp only [kv_e245_0, kv_e245_1, kv_e245_2, kv_e245_5, kv_e245_8, kv_e245_9, kv_e245_10, kv_e245_11, kv_e245_14, kv_e245_17, kv_e245_18, kv_e245_19, kv_e245_20, kv_e245_23, kv_e245_24, kv_e245_25, kv_e245_26, kv_e245_28, kv_e245_29, kv_e245_32, kv_e245_34, kv_e245_35, kv_e245_39, kv_e245_41, kv_e245_44, kv_e245_45, kv_e245_48, kv_e245_49, kv_e245_51, kv_e245_52, kv_e245_53, kv_e245_54, kv_e245_57, kv_e245_59, kv_e245_61, kv_e245_63, kv_e245_66, kv_e245_68, kv_e245_71, kv_e245_72, kv_e245_73, kv_e245_75, kv_e245_77, kv_e245_80, kv_e245_82, kv_e245_85, kv_e245_88, kv_e245_89, kv_e245_92, kv_e245_93, kv_e245_96, kv_e245_98, kv_o10, not_false_eq_true, not_true, if_true, if_false, kv_then_s, kv_then_v, kv_then_n, List.cons_append, List.nil_append, kv_Ci, kv_Cr, kv_Cn, kv_Cu, kv_C0, kv_catc, kv_gCi, kv_gCl, kv_gCr, kv_nb0, kv_nb1, kv_nbi, kv_nb01, Nat.reduceAdd, Nat.reduceLeDiff, kw_fliesN c0, eq_self]
  · obtain ⟨k, hk, rfl⟩ := kv_nat (kv_nn0 c0)
    by_cases c1 : km zM k 11 = 0
    · refine kw_A0 (r := -1) h ?_ ?_
      · simp only [kv_e110_0, kv_e110_1, kv_e110_2, kv_e110_5, kv_e110_8, kv_e110_9, kv_e110_10, kv_e110_13, kv_e110_16, kv_e110_17, kv_e110_18, kv_e110_19, kv_e110_22, kv_e110_23, kv_e110_24, kv_e110_26, kv_e110_27, kv_e110_29, kv_e110_30, kv_e110_34, kv_e110_35, kv_e110_38, kv_e110_39, kv_e110_40, kv_e110_42, kv_e110_43, kv_e110_44, kv_e110_47, kv_e110_48, kv_e110_51, kv_e110_52, kv_e110_53, kv_e110_56, kv_e110_58, kv_e110_60, kv_e110_62, kv_e110_65, kv_e110_67, kv_e110_69, kv_e110_71, kv_e110_73, kv_e110_76, kv_e110_79, kv_e110_80, kv_e110_83, kv_e110_85, kv_e110_88, kv_e110_90, kv_o10, not_false_eq_true, not_true, if_true, if_false, kv_then_s, kv_then_v, kv_then_n, List.cons_append, List.nil_append, kv_Ci, kv_Cr, kv_Cn, kv_Cu, kv_C0, kv_catc, kv_gCi, kv_gCl, kv_gCr, kv_nb0, kv_nb1, kv_nbi, kv_nb01, Nat.reduceAdd, Nat.reduceLeDiff, kw_Kflies hKK hk, ek, c1, eq_self]
      · simp only [kv_e245_0, kv_e245_1, kv_e245_2, kv_e245_5, kv_e245_8, kv_e245_9, kv_e245_10, kv_e245_11, kv_e245_14, kv_e245_17, kv_e245_18, kv_e245_19, kv_e245_20, kv_e245_23, kv_e245_24, kv_e245_25, kv_e245_26, kv_e245_28, kv_e245_29, kv_e245_32, kv_e245_34, kv_e245_35, kv_e245_39, kv_e245_41, kv_e245_44, kv_e245_45, kv_e245_48, kv_e245_49, kv_e245_51, kv_e245_52, kv_e245_53, kv_e245_54, kv_e245_57, kv_e245_59, kv_e245_61, kv_e245_63, kv_e245_66, kv_e245_68, kv_e245_71, kv_e245_72, kv_e245_73, kv_e245_75, kv_e245_77, kv_e245_80, kv_e245_82, kv_e245_85, kv_e245_88, kv_e245_89, kv_e245_92, kv_e245_93, kv_e245_96, kv_e245_98, kv_o10, not_false_eq_true, not_true, if_true, if_false, kv_then_s, kv_then_v, kv_then_n, List.cons_append, List.nil_append, kv_Ci, kv_Cr, kv_Cn, kv_Cu, kv_C0, kv_catc, kv_gCi, kv_gCl, kv_gCr, kv_nb0, kv_nb1, kv_nbi, kv_nb01, Nat.reduceAdd, Nat.reduceLeDiff, kw_flies hI.1.1 hk, c1, eq_self]
    · have hk8 := (kw_lt8 h c1).2
      by_cases c2 : 0 ≤ w ∧ w ≤ 1
      · generalize hv : (fun p => kw_Fl zK zM B M (kw_D k (-1) p 0 0) (km zM) k 4) = v
        have hvp : ∀ p, kw_Fl zK zM B M (kw_D k (-1) p 0 0) (km zM) k 4 = v p := fun p => congrFun hv p
        have hv0 : ∀ p, -1 < v p := fun p => by
          rw [← hvp p, Int32.lt_iff_toInt_lt]
          have h2 := (kw_Fl_ok h (M := M) (dl := kw_D k (-1) p 0 0) hI.2.2.2.1 k).2.1.1
          show (-1 : Int) < _
          omega
        have hs := kw_fo_some (q := fun _ => True) hv0 (B - M + 1) ⟨0, by omega, trivial⟩
        have hlK := kv_up (fun p => ∀ z u7, kw_XK zK z → ∃ z', kv_Rn (d + 12) 110 32 [some (.ref 0), some (.int (Int32.ofNat k)), some (.int w), some (.int (Int32.ofNat (B - M))), some (.int (kw_ob 0 (kw_fo (fun _ => True) v p).1)), some (.int (kw_fo (fun _ => True) v p).2), some (.int (Int32.ofNat p)), u7] [] (kv_h [] z zl) = some (some (.int (if w = 0 then kw_ob 0 (kw_fo (fun _ => True) v (B - M + 1)).1 else (kw_fo (fun _ => True) v (B - M + 1)).2)), kv_h [] z' zl) ∧ kw_XK zK z') (B - M + 1) ?_ ?_
        · have hlM := kv_up (fun p => ∀ z u7, kw_J zM z → ∃ z', kv_Rn (d + 12) 245 37 [some (.ref 0), some (.int (Int32.ofNat k)), some (.int w), some (.int (kw_ob (-1) (kw_fo (fun _ => True) v p).1)), some (.int (kw_fo (fun _ => True) v p).2), some (.int (Int32.ofNat (B - M))), some (.int (Int32.ofNat p)), u7] [] (kv_m z zlM) = some (some (.int (if w = 0 then kw_ob (-1) (kw_fo (fun _ => True) v (B - M + 1)).1 else (kw_fo (fun _ => True) v (B - M + 1)).2)), kv_m z' zlM) ∧ kw_XM zM z') (B - M + 1) ?_ ?_
          · obtain ⟨z1, r1, x1⟩ := hlK zK none (kw_XK_rf zK)
            obtain ⟨y1, s1, j1⟩ := kw_aside (d := d + 10) (zM := zM) (zlM := zlM)
            obtain ⟨z2, r2, x2⟩ := hlM y1 none j1
            rw [kw_ob_eq (x := -1) (y := 0) hs] at r2
            refine kw_A2 (r := if w = 0 then kw_ob 0 (kw_fo (fun _ => True) v (B - M + 1)).1 else (kw_fo (fun _ => True) v (B - M + 1)).2) h ?_ ?_ x1 x2
            · simp only [kv_e110_0, kv_e110_1, kv_e110_2, kv_e110_5, kv_e110_8, kv_e110_9, kv_e110_10, kv_e110_13, kv_e110_18, kv_e110_19, kv_e110_22, kv_e110_23, kv_e110_24, kv_e110_26, kv_e110_27, kv_e110_29, kv_e110_30, kv_o10, not_false_eq_true, not_true, if_true, if_false, kv_then_s, kv_then_v, kv_then_n, List.cons_append, List.nil_append, kv_Ci, kv_Cr, kv_Cn, kv_Cu, kv_C0, kv_catc, kv_gCi, kv_gCl, kv_gCr, kv_nb0, kv_nb1, kv_nbi, kv_nb01, Nat.reduceAdd, Nat.reduceLeDiff, kw_Kflies hKK hk, ek, c1, kw_isOut, c2, and_self, eq_self, kw_left, m4, m3, el]
              exact r1
            · have j14 : y1 14 = zM 14 := j1.1 14 (by omega) (by omega) (by omega) (by omega) (by omega) (by omega)
              simp only [kv_e245_0, kv_e245_1, kv_e245_2, kv_e245_5, kv_e245_8, kv_e245_9, kv_e245_10, kv_e245_11, kv_e245_14, kv_e245_19, kv_e245_20, kv_e245_23, kv_e245_24, kv_e245_25, kv_e245_26, kv_e245_28, kv_e245_29, kv_e245_32, kv_e245_34, kv_e245_35, kv_o10, not_false_eq_true, not_true, if_true, if_false, kv_then_s, kv_then_v, kv_then_n, List.cons_append, List.nil_append, kv_Ci, kv_Cr, kv_Cn, kv_Cu, kv_C0, kv_catc, kv_gCi, kv_gCl, kv_gCr, kv_nb0, kv_nb1, kv_nbi, kv_nb01, Nat.reduceAdd, Nat.reduceLeDiff, kw_flies hI.1.1 hk, c1, kw_in, c2, and_self, s1, kw_mleft, j14, m5, kw_J_m j1, em2, el]
              exact r2
          · intro z u7 hj
            refine ⟨z, ?_, hj.1⟩
            have q1 : (Int32.ofNat (B - M) < Int32.ofNat (B - M + 1)) = True := by rw [kv_nlt (by omega) (by omega)]; exact eq_true (by omega)
            rw [kv_e245_37]
            by_cases w0 : w = 0
            · simp only [kv_e245_39, kv_e245_41, kv_e245_88, kv_e245_89, kv_e245_92, kv_e245_93, kv_e245_98, kv_o10, not_false_eq_true, not_true, if_true, if_false, kv_then_s, kv_then_v, kv_then_n, List.cons_append, List.nil_append, kv_Ci, kv_Cr, kv_Cn, kv_Cu, kv_C0, kv_catc, kv_gCi, kv_gCl, kv_gCr, kv_nb0, kv_nb1, kv_nbi, kv_nb01, Nat.reduceAdd, Nat.reduceLeDiff, q1, w0, eq_self]
            · simp only [kv_e245_39, kv_e245_41, kv_e245_88, kv_e245_89, kv_e245_96, kv_e245_98, kv_o10, not_false_eq_true, not_true, if_true, if_false, kv_then_s, kv_then_v, kv_then_n, List.cons_append, List.nil_append, kv_Ci, kv_Cr, kv_Cn, kv_Cu, kv_C0, kv_catc, kv_gCi, kv_gCl, kv_gCr, kv_nb0, kv_nb1, kv_nbi, kv_nb01, Nat.reduceAdd, Nat.reduceLeDiff, q1, w0]
          · intro p hp ih z u7 hj
            have hp2 : p < 2147483648 := by omega
            have q1 : (Int32.ofNat (B - M) < Int32.ofNat p) = False := by rw [kv_nlt (by omega) (by omega)]; exact eq_false (by omega)
            obtain ⟨y2, s2, j2⟩ := kw_hAB (d := d + 2) (zlM := zlM) (z := kv_z z 17 (upd (z 17) k (Int32.ofNat p))) (c := km zM) (dl := kw_D k (-1) p 0 0) h m1 (kw_Z_17 (kw_J_Z hj)) (by rw [kw_km_fr (kv_zne _ _ (by omega)), kw_J_km hj]) (by rw [kv_zne _ _ (by omega), kw_J_m hj, em2]) (fun i hi => kw_dl_set hj.2.2 rfl i (by omega)) hI.1.1.2 hI.2.2.2.1 hk8
            rw [hvp p] at s2
            by_cases c7 : (kw_fo (fun _ => True) v p).2 < v p
            · rw [kw_fo_1 ⟨trivial, c7⟩] at ih
              obtain ⟨z', r', x'⟩ := ih y2 (some (.int (v p))) j2
              refine ⟨z', ?_, x'⟩
              have mx : kv_mx (kw_fo (fun _ => True) v p).2 (v p) = v p := if_pos c7
              have c8 : ¬ v p ≤ (kw_fo (fun _ => True) v p).2 := Int32.not_le.mpr c7
              rw [← r', kv_e245_37]
              simp only [kv_e245_0, kv_e245_1, kv_e245_2, kv_e245_5, kv_e245_8, kv_e245_9, kv_e245_10, kv_e245_11, kv_e245_14, kv_e245_17, kv_e245_18, kv_e245_19, kv_e245_20, kv_e245_23, kv_e245_24, kv_e245_25, kv_e245_26, kv_e245_28, kv_e245_29, kv_e245_32, kv_e245_34, kv_e245_35, kv_e245_39, kv_e245_41, kv_e245_44, kv_e245_45, kv_e245_48, kv_e245_49, kv_e245_51, kv_e245_52, kv_e245_53, kv_e245_54, kv_e245_57, kv_e245_59, kv_e245_61, kv_e245_63, kv_e245_66, kv_e245_68, kv_e245_71, kv_e245_72, kv_e245_73, kv_e245_75, kv_e245_77, kv_e245_80, kv_e245_82, kv_e245_85, kv_e245_88, kv_e245_89, kv_e245_92, kv_e245_93, kv_e245_96, kv_e245_98, kv_o10, not_false_eq_true, not_true, if_true, if_false, kv_then_s, kv_then_v, kv_then_n, List.cons_append, List.nil_append, kv_Ci, kv_Cr, kv_Cn, kv_Cu, kv_C0, kv_catc, kv_gCi, kv_gCl, kv_gCr, kv_nb0, kv_nb1, kv_nbi, kv_nb01, Nat.reduceAdd, Nat.reduceLeDiff, q1, kv_am17, kw_n0 hk, kv_tn hk, kv_lN hk8, or_self, s2, c8, mx, kv_suc, kw_ob]
            · rw [kw_fo_0 (fun r => c7 r.2)] at ih
              obtain ⟨z', r', x'⟩ := ih y2 (some (.int (v p))) j2
              refine ⟨z', ?_, x'⟩
              have mx : kv_mx (kw_fo (fun _ => True) v p).2 (v p) = (kw_fo (fun _ => True) v p).2 := if_neg c7
              have c8 : v p ≤ (kw_fo (fun _ => True) v p).2 := Int32.not_lt.mp c7
              rw [← r', kv_e245_37]
              simp only [kv_e245_0, kv_e245_1, kv_e245_2, kv_e245_5, kv_e245_8, kv_e245_9, kv_e245_10, kv_e245_11, kv_e245_14, kv_e245_17, kv_e245_18, kv_e245_19, kv_e245_20, kv_e245_23, kv_e245_24, kv_e245_25, kv_e245_26, kv_e245_28, kv_e245_29, kv_e245_32, kv_e245_34, kv_e245_35, kv_e245_39, kv_e245_41, kv_e245_44, kv_e245_45, kv_e245_48, kv_e245_49, kv_e245_51, kv_e245_52, kv_e245_53, kv_e245_54, kv_e245_57, kv_e245_59, kv_e245_61, kv_e245_63, kv_e245_66, kv_e245_68, kv_e245_71, kv_e245_72, kv_e245_73, kv_e245_75, kv_e245_77, kv_e245_80, kv_e245_82, kv_e245_85, kv_e245_88, kv_e245_89, kv_e245_92, kv_e245_93, kv_e245_96, kv_e245_98, kv_o10, not_false_eq_true, not_true, if_true, if_false, kv_then_s, kv_then_v, kv_then_n, List.cons_append, List.nil_append, kv_Ci, kv_Cr, kv_Cn, kv_Cu, kv_C0, kv_catc, kv_gCi, kv_gCl, kv_gCr, kv_nb0, kv_nb1, kv_nbi, kv_nb01, Nat.reduceAdd, Nat.reduceLeDiff, q1, kv_am17, kw_n0 hk, kv_tn hk, kv_lN hk8, or_self, s2, c8, mx, kv_suc]
        · intro z u7 hx
          refine ⟨z, ?_, hx⟩
          have q1 : (Int32.ofNat (B - M) < Int32.ofNat (B - M + 1)) = True := by rw [kv_nlt (by omega) (by omega)]; exact eq_true (by omega)
          rw [kv_e110_32]
          by_cases w0 : w = 0
          · simp only [kv_e110_34, kv_e110_35, kv_e110_79, kv_e110_80, kv_e110_83, kv_e110_85, kv_e110_90, kv_o10, not_false_eq_true, not_true, if_true, if_false, kv_then_s, kv_then_v, kv_then_n, List.cons_append, List.nil_append, kv_Ci, kv_Cr, kv_Cn, kv_Cu, kv_C0, kv_catc, kv_gCi, kv_gCl, kv_gCr, kv_nb0, kv_nb1, kv_nbi, kv_nb01, Nat.reduceAdd, Nat.reduceLeDiff, q1, w0, eq_self]
          · simp only [kv_e110_34, kv_e110_35, kv_e110_79, kv_e110_80, kv_e110_88, kv_e110_90, kv_o10, not_false_eq_true, not_true, if_true, if_false, kv_then_s, kv_then_v, kv_then_n, List.cons_append, List.nil_append, kv_Ci, kv_Cr, kv_Cn, kv_Cu, kv_C0, kv_catc, kv_gCi, kv_gCl, kv_gCr, kv_nb0, kv_nb1, kv_nbi, kv_nb01, Nat.reduceAdd, Nat.reduceLeDiff, q1, w0]
        · intro p hp ih z u7 hx
          have hp2 : p < 2147483648 := by omega
          have q1 : (Int32.ofNat (B - M) < Int32.ofNat p) = False := by rw [kv_nlt (by omega) (by omega)]; exact eq_false (by omega)
          obtain ⟨z1, r1, x1, a1, -⟩ := kw_startK (d := d + 5) (e := []) (zl := zl) (other := -1) h m3 m1 hx hk8 hp2 (show 0 < 2147483648 by omega) (Or.inl rfl)
          rw [show Int32.ofNat 0 = (0 : Int32) from rfl] at r1
          have g4 : kv_gt z1 39 (Int32.ofNat k) 4 = v p := by rw [kv_g4 _ 39 hk8, kw_a8_4 a1, hvp p]
          by_cases c7 : (kw_fo (fun _ => True) v p).2 < v p
          · rw [kw_fo_1 ⟨trivial, c7⟩] at ih
            obtain ⟨z', r', x'⟩ := ih z1 (some (.int (v p))) x1
            refine ⟨z', ?_, x'⟩
            have c8 : ¬ v p ≤ (kw_fo (fun _ => True) v p).2 := Int32.not_le.mpr c7
            rw [← r', kv_e110_32]
            simp only [kv_e110_0, kv_e110_1, kv_e110_2, kv_e110_5, kv_e110_8, kv_e110_9, kv_e110_10, kv_e110_13, kv_e110_16, kv_e110_17, kv_e110_18, kv_e110_19, kv_e110_22, kv_e110_23, kv_e110_24, kv_e110_26, kv_e110_27, kv_e110_29, kv_e110_30, kv_e110_34, kv_e110_35, kv_e110_38, kv_e110_39, kv_e110_40, kv_e110_42, kv_e110_43, kv_e110_44, kv_e110_47, kv_e110_48, kv_e110_51, kv_e110_52, kv_e110_53, kv_e110_56, kv_e110_58, kv_e110_60, kv_e110_62, kv_e110_65, kv_e110_67, kv_e110_69, kv_e110_71, kv_e110_73, kv_e110_76, kv_e110_79, kv_e110_80, kv_e110_83, kv_e110_85, kv_e110_88, kv_e110_90, kv_o10, not_false_eq_true, not_true, if_true, if_false, kv_then_s, kv_then_v, kv_then_n, List.cons_append, List.nil_append, kv_Ci, kv_Cr, kv_Cn, kv_Cu, kv_C0, kv_catc, kv_gCi, kv_gCl, kv_gCr, kv_nb0, kv_nb1, kv_nbi, kv_nb01, Nat.reduceAdd, Nat.reduceLeDiff, q1, r1, kv_isS39, kv_get, g4, c8, kv_suc, kw_ob]
          · rw [kw_fo_0 (fun r => c7 r.2)] at ih
            obtain ⟨z', r', x'⟩ := ih z1 (some (.int (v p))) x1
            refine ⟨z', ?_, x'⟩
            have c8 : v p ≤ (kw_fo (fun _ => True) v p).2 := Int32.not_lt.mp c7
            rw [← r', kv_e110_32]
            simp only [kv_e110_0, kv_e110_1, kv_e110_2, kv_e110_5, kv_e110_8, kv_e110_9, kv_e110_10, kv_e110_13, kv_e110_16, kv_e110_17, kv_e110_18, kv_e110_19, kv_e110_22, kv_e110_23, kv_e110_24, kv_e110_26, kv_e110_27, kv_e110_29, kv_e110_30, kv_e110_34, kv_e110_35, kv_e110_38, kv_e110_39, kv_e110_40, kv_e110_42, kv_e110_43, kv_e110_44, kv_e110_47, kv_e110_48, kv_e110_51, kv_e110_52, kv_e110_53, kv_e110_56, kv_e110_58, kv_e110_60, kv_e110_62, kv_e110_65, kv_e110_67, kv_e110_69, kv_e110_71, kv_e110_73, kv_e110_76, kv_e110_79, kv_e110_80, kv_e110_83, kv_e110_85, kv_e110_88, kv_e110_90, kv_o10, not_false_eq_true, not_true, if_true, if_false, kv_then_s, kv_then_v, kv_then_n, List.cons_append, List.nil_append, kv_Ci, kv_Cr, kv_Cn, kv_Cu, kv_C0, kv_catc, kv_gCi, kv_gCl, kv_gCr, kv_nb0, kv_nb1, kv_nbi, kv_nb01, Nat.reduceAdd, Nat.reduceLeDiff, q1, r1, kv_isS39, kv_get, g4, c8, kv_suc]
      · refine kw_A0 (r := -1) h ?_ ?_
        · simp only [kv_e110_0, kv_e110_1, kv_e110_2, kv_e110_5, kv_e110_8, kv_e110_9, kv_e110_10, kv_e110_13, kv_e110_16, kv_e110_17, kv_e110_18, kv_e110_19, kv_e110_22, kv_e110_23, kv_e110_24, kv_e110_26, kv_e110_27, kv_e110_29, kv_e110_30, kv_e110_34, kv_e110_35, kv_e110_38, kv_e110_39, kv_e110_40, kv_e110_42, kv_e110_43, kv_e110_44, kv_e110_47, kv_e110_48, kv_e110_51, kv_e110_52, kv_e110_53, kv_e110_56, kv_e110_58, kv_e110_60, kv_e110_62, kv_e110_65, kv_e110_67, kv_e110_69, kv_e110_71, kv_e110_73, kv_e110_76, kv_e110_79, kv_e110_80, kv_e110_83, kv_e110_85, kv_e110_88, kv_e110_90, kv_o10, not_false_eq_true, not_true, if_true, if_false, kv_then_s, kv_then_v, kv_then_n, List.cons_append, List.nil_append, kv_Ci, kv_Cr, kv_Cn, kv_Cu, kv_C0, kv_catc, kv_gCi, kv_gCl, kv_gCr, kv_nb0, kv_nb1, kv_nbi, kv_nb01, Nat.reduceAdd, Nat.reduceLeDiff, kw_Kflies hKK hk, ek, c1, kw_isOut, c2, eq_self]
        · simp only [kv_e245_0, kv_e245_1, kv_e245_2, kv_e245_5, kv_e245_8, kv_e245_9, kv_e245_10, kv_e245_11, kv_e245_14, kv_e245_17, kv_e245_18, kv_e245_19, kv_e245_20, kv_e245_23, kv_e245_24, kv_e245_25, kv_e245_26, kv_e245_28, kv_e245_29, kv_e245_32, kv_e245_34, kv_e245_35, kv_e245_39, kv_e245_41, kv_e245_44, kv_e245_45, kv_e245_48, kv_e245_49, kv_e245_51, kv_e245_52, kv_e245_53, kv_e245_54, kv_e245_57, kv_e245_59, kv_e245_61, kv_e245_63, kv_e245_66, kv_e245_68, kv_e245_71, kv_e245_72, kv_e245_73, kv_e245_75, kv_e245_77, kv_e245_80, kv_e245_82, kv_e245_85, kv_e245_88, kv_e245_89, kv_e245_92, kv_e245_93, kv_e245_96, kv_e245_98, kv_o10, not_false_eq_true, not_true, if_true, if_false, kv_then_s, kv_then_v, kv_then_n, List.cons_append, List.nil_append, kv_Ci, kv_Cr, kv_Cn, kv_Cu, kv_C0, kv_catc, kv_gCi, kv_gCl, kv_gCr, kv_nb0, kv_nb1, kv_nbi, kv_nb01, Nat.reduceAdd, Nat.reduceLeDiff, kw_flies hI.1.1 hk, c1, kw_in, c2, eq_self]
/-- what a duel comes to -/
noncomputable def kw_du (zK zM : Nat → Nat → Int32) (B M k o a b : Nat) : Int32 := kw_Fl zK zM B M (kw_D k (Int32.ofNat o) a b 0) (km zM) k 4 - kw_Fl zK zM B M (kw_D k (Int32.ofNat o) a b 0) (km zM) o 4
theorem kw_dl_set2 {y : Nat → Nat → Int32} {k o a b : Nat} (hy : ∀ i, i < 8 → y 17 i = -1) (ho : o < 8) (hko : ¬ k = o) (i : Nat) (hi : i < 8) : kv_z (kv_z y 17 (upd (y 17) k (Int32.ofNat a))) 17 (upd (upd (y 17) k (Int32.ofNat a)) o (Int32.ofNat b)) 17 i = kw_D k (Int32.ofNat o) a b 0 i := by
  rw [kv_zs]
  unfold kw_D upd
  by_cases q0 : i = o
  · rw [if_pos q0, if_neg (fun r => hko (r.symm.trans q0)), if_pos ⟨hi, by rw [q0]⟩]
    rfl
  · rw [if_neg q0]
    by_cases q : i = k
    · rw [if_pos q, if_pos q]
      rfl
    · rw [if_neg q, if_neg q, if_neg, hy i hi]
      rintro ⟨r1, r2⟩
      rw [kv_neq (by omega) (by omega)] at r2
      exact q0 r2
theorem kw_inj {v v' : Option Value} {z z' : Nat → Nat → Int32} {zl zl' : Nat → Nat → Int64} {o : Option (Option Value × kv_H)} (h : o = some (v, kv_m z zl)) (g : o = some (v', kv_m z' zl')) : z = z' := by
  rw [h] at g
  exact congrArg (fun q => q.2.2.1) (Option.some.inj g)
theorem kw_21a {z' : Nat → Nat → Int32} (r : kv_Rn (d + 1) 236 0 [some (.ref 0), none] [] (kv_m z zlM) = some (none, kv_m z' zlM)) : z' 21 = z 21 := by
  rw [kw_inj r kw_put_aside, kv_zne _ _ (by omega)]
  exact kv_zne _ _ (by omega)
theorem kw_21c {z' : Nat → Nat → Int32} (r : kv_Rn (d + 1) 237 0 [some (.ref 0), none] [] (kv_m z zlM) = some (none, kv_m z' zlM)) : z' 21 = z 21 := by
  rw [kw_inj r kw_take_back, kv_zne _ _ (by omega)]
  exact kv_zne _ _ (by omega)
theorem kw_21b (h : kw_R n B W zK zM) {M : Nat} (hM : M ≤ B) (hz : kw_Z zM z) (h1 : kw_01 n (km z)) (h2 : kw_okc (km z)) (hm : z 16 104 = Int32.ofNat M) {v : Option Value} {z' : Nat → Nat → Int32} (r : kv_Rn (d + 8) 238 0 [some (.ref 0), none] [] (kv_m z zlM) = some (v, kv_m z' zlM)) : z' 21 = z 21 := by
  obtain ⟨em, M', m1, m2, m3, m4, m5⟩ := kw_R_min h
  have e14 := hz.1 14 (by omega) (by omega) (by omega) (by omega) (by omega) (by omega) (by omega)
  obtain ⟨z2, r2, q, k, t, i, mo⟩ := kw_toBell (d := d + 1) (zl := zlM) (B - M) M z (z 17) 0 (kw_Z_I h hz.1 h1 h2) hm (by rw [e14, m5]; congr 1; omega) (by omega) (fun _ _ => rfl)
  simp only [kv_e238_0, kv_e238_1, kv_o10, not_false_eq_true, not_true, if_true, if_false, kv_then_s, kv_then_v, kv_then_n, List.cons_append, List.nil_append, kv_Ci, kv_Cr, kv_Cn, kv_Cu, kv_C0, kv_catc, kv_gCi, kv_gCl, kv_gCr, kv_nb0, kv_nb1, kv_nbi, kv_nb01, Nat.reduceAdd, Nat.reduceLeDiff] at r
  rw [kw_inj r r2]
  exact q.1 21 (by omega) (by omega) (by omega) (by omega) (by omega)
theorem kw_duelM (h : kw_R n B W zK zM) {M : Nat} (hM : zK 36 3 = Int32.ofNat M) (hB : M ≤ B) (hx : kw_XM zM z) {k o a b : Nat} (hk : k < 8) (ho : o < 8) (hko : ¬ k = o) : ∃ z', kv_Rn (d + 9) 257 0 [some (.ref 0), some (.int (Int32.ofNat k)), some (.int (Int32.ofNat o)), some (.int (Int32.ofNat a)), some (.int (Int32.ofNat b)), none] [] (kv_m z zlM) = some (some (.int (kw_du zK zM B M k o a b)), kv_m z' zlM) ∧ kw_XM zM z' ∧ z' 21 = z 21 := by
  have hI := kw_R_I h
  have h8 := hI.1.1.1.2
  obtain ⟨em, -⟩ := kw_R_min h
  obtain ⟨y1, s1, j1⟩ := kw_aside' (d := d + 7) (zlM := zlM) hx
  obtain ⟨y2, s2, j2, k2, I2, b2, mo⟩ := kw_flyM (d := d) (zlM := zlM) (z := kv_z (kv_z y1 17 (upd (y1 17) k (Int32.ofNat a))) 17 (upd (upd (y1 17) k (Int32.ofNat a)) o (Int32.ofNat b))) (c := km zM) (dl := kw_D k (Int32.ofNat o) a b 0) h hB (kw_Z_17 (kw_Z_17 (kw_J_Z j1))) (by rw [kw_km_fr ((kv_zne _ _ (by omega)).trans (kv_zne _ _ (by omega))), kw_J_km j1]) (by rw [kv_zne _ _ (by omega), kv_zne _ _ (by omega), kw_J_m j1, ← em, hM]) (fun i hi => kw_dl_set2 j1.2.2 ho hko i (by omega)) hI.1.1.2 hI.2.2.2.1
  obtain ⟨y3, s3, j3⟩ := kw_backM (d := d + 7) (zlM := zlM) j2
  have kmy : km (kv_z (kv_z y1 17 (upd (y1 17) k (Int32.ofNat a))) 17 (upd (upd (y1 17) k (Int32.ofNat a)) o (Int32.ofNat b))) = km zM := by rw [kw_km_fr ((kv_zne _ _ (by omega)).trans (kv_zne _ _ (by omega))), kw_J_km j1]
  have g2 := kw_21b (d := d) h hB (kw_Z_17 (kw_Z_17 (kw_J_Z j1))) (by rw [kmy]; exact hI.1.1.2) (by rw [kmy]; exact hI.2.2.2.1) (by rw [kv_zne _ _ (by omega), kv_zne _ _ (by omega), kw_J_m j1, ← em, hM]) s2
  refine ⟨y3, ?_, j3.1, (kw_21c s3).trans (g2.trans ((kv_zne _ _ (by omega)).trans ((kv_zne _ _ (by omega)).trans (kw_21a s1))))⟩
  simp only [kv_e257_0, kv_e257_1, kv_e257_4, kv_e257_5, kv_e257_8, kv_e257_9, kv_e257_10, kv_e257_11, kv_e257_12, kv_e257_15, kv_e257_16, kv_e257_18, kv_e257_19, kv_e257_20, kv_e257_23, kv_e257_24, kv_e257_25, kv_e257_26, kv_e257_27, kv_e257_30, kv_e257_31, kv_e257_32, kv_e257_33, kv_e257_36, kv_e257_37, kv_e257_39, kv_e257_40, kv_e257_43, kv_e257_45, kv_o10, not_false_eq_true, not_true, if_true, if_false, kv_then_s, kv_then_v, kv_then_n, List.cons_append, List.nil_append, kv_Ci, kv_Cr, kv_Cn, kv_Cu, kv_C0, kv_catc, kv_gCi, kv_gCl, kv_gCr, kv_nb0, kv_nb1, kv_nbi, kv_nb01, Nat.reduceAdd, Nat.reduceLeDiff, s1, kv_am17, kv_zs, kw_n0 (show k < 2147483648 by omega), kv_tn (show k < 2147483648 by omega), kv_lN hk, kw_n0 (show o < 2147483648 by omega), kv_tn (show o < 2147483648 by omega), kv_lN ho, or_self, s2, kw_of3 hk, kw_of3 ho, k2, s3]
  rfl
theorem kw_f_duel (h : kw_R n B W zK zM) (x y u v : Int32) : kw_A (d + 12) 122 258 [some (.ref 0), some (.int x), some (.int y), some (.int u), some (.int v)] [some (.ref 0), some (.int x), some (.int y), some (.int u), some (.int v)] zK zM zl zlM := by
  have hKK := kw_R_KK h
  have hI := kw_R_I h
  have ek := kw_R_km h.2.1.1
  obtain ⟨em, M, m1, m2, m3, m4, m5⟩ := kw_R_min h
  by_cases c0 : x < 0
  · refine kw_A0 (r := -1000000) h ?_ ?_
    · simp only [kv_e122_0, kv_e122_1, kv_e122_2, kv_e122_3, kv_e122_6, kv_e122_9, kv_e122_10, kv_e122_11, kv_e122_14, kv_e122_17, kv_e122_19, kv_e122_20, kv_e122_23, kv_e122_26, kv_e122_28, kv_e122_29, kv_e122_30, kv_e122_31, kv_e122_32, kv_e122_33, kv_e122_35, kv_e122_38, kv_e122_39, kv_e122_42, kv_e122_43, kv_e122_44, kv_e122_47, kv_e122_48, kv_e122_51, kv_e122_52, kv_e122_53, kv_e122_56, kv_e122_57, kv_o10, not_false_eq_true, not_true, if_true, if_false, kv_then_s, kv_then_v, kv_then_n, List.cons_append, List.nil_append, kv_Ci, kv_Cr, kv_Cn, kv_Cu, kv_C0, kv_catc, kv_gCi, kv_gCl, kv_gCr, kv_nb0, kv_nb1, kv_nbi, kv_nb01, Nat.reduceAdd, Nat.reduceLeDiff, kw_KareTwoN1 c0, eq_self]
    · simp only [kv_e258_0, kv_e258_1, kv_e258_2, kv_e258_3, kv_e258_6, kv_e258_9, kv_e258_10, kv_e258_11, kv_e258_12, kv_e258_15, kv_e258_18, kv_e258_20, kv_e258_21, kv_e258_22, kv_e258_25, kv_e258_28, kv_e258_29, kv_e258_30, kv_e258_31, kv_e258_32, kv_e258_34, kv_e258_37, kv_e258_40, kv_e258_43, kv_e197_0, kv_e197_1, kv_e197_2, kv_e197_5, kv_e197_8, kv_e197_9, kv_e197_10, kv_e197_13, kv_e197_16, kv_e197_17, kv_e197_18, kv_e197_21, kv_e197_22, kv_e197_25, kv_e197_26, kv_o10, not_false_eq_true, not_true, if_true, if_false, kv_then_s, kv_then_v, kv_then_n, List.cons_append, List.nil_append, kv_Ci, kv_Cr, kv_Cn, kv_Cu, kv_C0, kv_catc, kv_gCi, kv_gCl, kv_gCr, kv_nb0, kv_nb1, kv_nbi, kv_nb01, Nat.reduceAdd, Nat.reduceLeDiff, kw_fliesN c0, eq_self]
  · obtain ⟨k, hk, rfl⟩ := kv_nat (kv_nn0 c0)
    by_cases c2 : y < 0
    · refine kw_A0 (r := -1000000) h ?_ ?_
      · simp only [kv_e122_0, kv_e122_1, kv_e122_2, kv_e122_3, kv_e122_6, kv_e122_9, kv_e122_10, kv_e122_11, kv_e122_14, kv_e122_17, kv_e122_19, kv_e122_20, kv_e122_23, kv_e122_26, kv_e122_28, kv_e122_29, kv_e122_30, kv_e122_31, kv_e122_32, kv_e122_33, kv_e122_35, kv_e122_38, kv_e122_39, kv_e122_42, kv_e122_43, kv_e122_44, kv_e122_47, kv_e122_48, kv_e122_51, kv_e122_52, kv_e122_53, kv_e122_56, kv_e122_57, kv_o10, not_false_eq_true, not_true, if_true, if_false, kv_then_s, kv_then_v, kv_then_n, List.cons_append, List.nil_append, kv_Ci, kv_Cr, kv_Cn, kv_Cu, kv_C0, kv_catc, kv_gCi, kv_gCl, kv_gCr, kv_nb0, kv_nb1, kv_nbi, kv_nb01, Nat.reduceAdd, Nat.reduceLeDiff, kw_KareTwoN2 hKK hk c2, eq_self]
      · simp only [kv_e258_0, kv_e258_1, kv_e258_2, kv_e258_3, kv_e258_6, kv_e258_9, kv_e258_10, kv_e258_11, kv_e258_12, kv_e258_15, kv_e258_18, kv_e258_20, kv_e258_21, kv_e258_22, kv_e258_25, kv_e258_28, kv_e258_29, kv_e258_30, kv_e258_31, kv_e258_32, kv_e258_34, kv_e258_37, kv_e258_40, kv_e258_43, kv_e197_0, kv_e197_1, kv_e197_2, kv_e197_5, kv_e197_8, kv_e197_9, kv_e197_10, kv_e197_13, kv_e197_16, kv_e197_17, kv_e197_18, kv_e197_21, kv_e197_22, kv_e197_25, kv_e197_26, kv_o10, not_false_eq_true, not_true, if_true, if_false, kv_then_s, kv_then_v, kv_then_n, List.cons_append, List.nil_append, kv_Ci, kv_Cr, kv_Cn, kv_Cu, kv_C0, kv_catc, kv_gCi, kv_gCl, kv_gCr, kv_nb0, kv_nb1, kv_nbi, kv_nb01, Nat.reduceAdd, Nat.reduceLeDiff, kw_flies hI.1.1 hk, kw_fliesN c2, eq_self, kv_i01]
        by_cases c1 : km zM k 11 = 0 <;> simp only [c1, kv_o10, not_false_eq_true, not_true, if_true, if_false, kv_then_s, kv_then_v, kv_then_n, List.cons_append, List.nil_append, kv_Ci, kv_Cr, kv_Cn, kv_Cu, kv_C0, kv_catc, kv_gCi, kv_gCl, kv_gCr, kv_nb0, kv_nb1, kv_nbi, kv_nb01, Nat.reduceAdd, Nat.reduceLeDiff, kv_e258_0, kv_e258_1, kv_e258_2, kv_e258_3, kv_e258_6, kv_e258_9, kv_e258_10, kv_e258_11, kv_e258_12, kv_e258_15, kv_e258_18, kv_e258_20, kv_e258_21, kv_e258_22, kv_e258_25, kv_e258_28, kv_e258_29, kv_e258_30, kv_e258_31, kv_e258_32, kv_e258_34, kv_e258_37, kv_e258_40, kv_e258_43, eq_self]
    · obtain ⟨o, ho, rfl⟩ := kv_nat (kv_nn0 c2)
      by_cases c1 : ¬ km zM k 11 = 0 ∧ ¬ km zM o 11 = 0 ∧ ¬ k = o
      · have hk8 := (kw_lt8 h c1.1).2
        have ho8 := (kw_lt8 h c1.2.1).2
        by_cases c3 : 0 ≤ u ∧ u ≤ 5
        · by_cases c4 : 0 ≤ v ∧ v ≤ 5
          · obtain ⟨a, ha, rfl⟩ := kv_nat c3.1
            obtain ⟨b, hb, rfl⟩ := kv_nat c4.1
            obtain ⟨z1, r1, x1, a1, -⟩ := kw_startK (d := d + 5) (e := []) (zl := zl) (other := Int32.ofNat o) h m3 m1 (kw_XK_rf zK) hk8 ha hb (Or.inr ⟨o, ho8, rfl, fun q => c1.2.2 q.symm⟩)
            obtain ⟨y1, s1, j1, -⟩ := kw_duelM (d := d + 2) (zlM := zlM) (a := a) (b := b) h m3 m1 (kw_XM_rf zM) hk8 ho8 c1.2.2
            have g4 : kv_gt z1 39 (Int32.ofNat k) 4 - kv_gt z1 39 (Int32.ofNat o) 4 = kw_du zK zM B M k o a b := by
              rw [kv_g4 _ 39 hk8, kv_g4 _ 39 ho8, kw_a8_4 a1, kw_a8_4 a1]
              rfl
            refine kw_A2 (r := kw_du zK zM B M k o a b) h ?_ ?_ x1 j1
            · simp only [kv_e122_0, kv_e122_1, kv_e122_2, kv_e122_3, kv_e122_6, kv_e122_9, kv_e122_10, kv_e122_11, kv_e122_14, kv_e122_17, kv_e122_19, kv_e122_20, kv_e122_23, kv_e122_26, kv_e122_28, kv_e122_29, kv_e122_30, kv_e122_31, kv_e122_32, kv_e122_33, kv_e122_35, kv_e122_38, kv_e122_39, kv_e122_42, kv_e122_43, kv_e122_44, kv_e122_47, kv_e122_48, kv_e122_51, kv_e122_52, kv_e122_53, kv_e122_56, kv_e122_57, kv_o10, not_false_eq_true, not_true, if_true, if_false, kv_then_s, kv_then_v, kv_then_n, List.cons_append, List.nil_append, kv_Ci, kv_Cr, kv_Cn, kv_Cu, kv_C0, kv_catc, kv_gCi, kv_gCl, kv_gCr, kv_nb0, kv_nb1, kv_nbi, kv_nb01, Nat.reduceAdd, Nat.reduceLeDiff, kw_KareTwo hKK hk ho, ek, c1, and_self, kw_isOut, c3, c4, eq_self, r1, kv_isS39, kv_get, g4]
            · simp only [kv_e258_0, kv_e258_1, kv_e258_2, kv_e258_3, kv_e258_6, kv_e258_9, kv_e258_10, kv_e258_11, kv_e258_12, kv_e258_15, kv_e258_18, kv_e258_20, kv_e258_21, kv_e258_22, kv_e258_25, kv_e258_28, kv_e258_29, kv_e258_30, kv_e258_31, kv_e258_32, kv_e258_34, kv_e258_37, kv_e258_40, kv_e258_43, kv_o10, not_false_eq_true, not_true, if_true, if_false, kv_then_s, kv_then_v, kv_then_n, List.cons_append, List.nil_append, kv_Ci, kv_Cr, kv_Cn, kv_Cu, kv_C0, kv_catc, kv_gCi, kv_gCl, kv_gCr, kv_nb0, kv_nb1, kv_nbi, kv_nb01, Nat.reduceAdd, Nat.reduceLeDiff, kw_areTwo hI.1.1 hk ho, c1, and_self, kw_in, c3, c4, s1]
          · refine kw_A0 (r := -1000000) h ?_ ?_
            · simp only [kv_e122_0, kv_e122_1, kv_e122_2, kv_e122_3, kv_e122_6, kv_e122_9, kv_e122_10, kv_e122_11, kv_e122_14, kv_e122_17, kv_e122_19, kv_e122_20, kv_e122_23, kv_e122_26, kv_e122_28, kv_e122_29, kv_e122_30, kv_e122_31, kv_e122_32, kv_e122_33, kv_e122_35, kv_e122_38, kv_e122_39, kv_e122_42, kv_e122_43, kv_e122_44, kv_e122_47, kv_e122_48, kv_e122_51, kv_e122_52, kv_e122_53, kv_e122_56, kv_e122_57, kv_o10, not_false_eq_true, not_true, if_true, if_false, kv_then_s, kv_then_v, kv_then_n, List.cons_append, List.nil_append, kv_Ci, kv_Cr, kv_Cn, kv_Cu, kv_C0, kv_catc, kv_gCi, kv_gCl, kv_gCr, kv_nb0, kv_nb1, kv_nbi, kv_nb01, Nat.reduceAdd, Nat.reduceLeDiff, kw_KareTwo hKK hk ho, ek, c1, and_self, kw_isOut, c3, c4, eq_self]
            · simp only [kv_e258_0, kv_e258_1, kv_e258_2, kv_e258_3, kv_e258_6, kv_e258_9, kv_e258_10, kv_e258_11, kv_e258_12, kv_e258_15, kv_e258_18, kv_e258_20, kv_e258_21, kv_e258_22, kv_e258_25, kv_e258_28, kv_e258_29, kv_e258_30, kv_e258_31, kv_e258_32, kv_e258_34, kv_e258_37, kv_e258_40, kv_e258_43, kv_o10, not_false_eq_true, not_true, if_true, if_false, kv_then_s, kv_then_v, kv_then_n, List.cons_append, List.nil_append, kv_Ci, kv_Cr, kv_Cn, kv_Cu, kv_C0, kv_catc, kv_gCi, kv_gCl, kv_gCr, kv_nb0, kv_nb1, kv_nbi, kv_nb01, Nat.reduceAdd, Nat.reduceLeDiff, kw_areTwo hI.1.1 hk ho, c1, and_self, kw_in, c3, c4, eq_self]
        · refine kw_A0 (r := -1000000) h ?_ ?_
          · simp only [kv_e122_0, kv_e122_1, kv_e122_2, kv_e122_3, kv_e122_6, kv_e122_9, kv_e122_10, kv_e122_11, kv_e122_14, kv_e122_17, kv_e122_19, kv_e122_20, kv_e122_23, kv_e122_26, kv_e122_28, kv_e122_29, kv_e122_30, kv_e122_31, kv_e122_32, kv_e122_33, kv_e122_35, kv_e122_38, kv_e122_39, kv_e122_42, kv_e122_43, kv_e122_44, kv_e122_47, kv_e122_48, kv_e122_51, kv_e122_52, kv_e122_53, kv_e122_56, kv_e122_57, kv_o10, not_false_eq_true, not_true, if_true, if_false, kv_then_s, kv_then_v, kv_then_n, List.cons_append, List.nil_append, kv_Ci, kv_Cr, kv_Cn, kv_Cu, kv_C0, kv_catc, kv_gCi, kv_gCl, kv_gCr, kv_nb0, kv_nb1, kv_nbi, kv_nb01, Nat.reduceAdd, Nat.reduceLeDiff, kw_KareTwo hKK hk ho, ek, c1, and_self, kw_isOut, c3, eq_self]
          · simp only [kv_e258_0, kv_e258_1, kv_e258_2, kv_e258_3, kv_e258_6, kv_e258_9, kv_e258_10, kv_e258_11, kv_e258_12, kv_e258_15, kv_e258_18, kv_e258_20, kv_e258_21, kv_e258_22, kv_e258_25, kv_e258_28, kv_e258_29, kv_e258_30, kv_e258_31, kv_e258_32, kv_e258_34, kv_e258_37, kv_e258_40, kv_e258_43, kv_o10, not_false_eq_true, not_true, if_true, if_false, kv_then_s, kv_then_v, kv_then_n, List.cons_append, List.nil_append, kv_Ci, kv_Cr, kv_Cn, kv_Cu, kv_C0, kv_catc, kv_gCi, kv_gCl, kv_gCr, kv_nb0, kv_nb1, kv_nbi, kv_nb01, Nat.reduceAdd, Nat.reduceLeDiff, kw_areTwo hI.1.1 hk ho, c1, and_self, kw_in, c3, eq_self]
      · refine kw_A0 (r := -1000000) h ?_ ?_
        · simp only [kv_e122_0, kv_e122_1, kv_e122_2, kv_e122_3, kv_e122_6, kv_e122_9, kv_e122_10, kv_e122_11, kv_e122_14, kv_e122_17, kv_e122_19, kv_e122_20, kv_e122_23, kv_e122_26, kv_e122_28, kv_e122_29, kv_e122_30, kv_e122_31, kv_e122_32, kv_e122_33, kv_e122_35, kv_e122_38, kv_e122_39, kv_e122_42, kv_e122_43, kv_e122_44, kv_e122_47, kv_e122_48, kv_e122_51, kv_e122_52, kv_e122_53, kv_e122_56, kv_e122_57, kv_o10, not_false_eq_true, not_true, if_true, if_false, kv_then_s, kv_then_v, kv_then_n, List.cons_append, List.nil_append, kv_Ci, kv_Cr, kv_Cn, kv_Cu, kv_C0, kv_catc, kv_gCi, kv_gCl, kv_gCr, kv_nb0, kv_nb1, kv_nbi, kv_nb01, Nat.reduceAdd, Nat.reduceLeDiff, kw_KareTwo hKK hk ho, ek, c1, eq_self]
        · simp only [kv_e258_0, kv_e258_1, kv_e258_2, kv_e258_3, kv_e258_6, kv_e258_9, kv_e258_10, kv_e258_11, kv_e258_12, kv_e258_15, kv_e258_18, kv_e258_20, kv_e258_21, kv_e258_22, kv_e258_25, kv_e258_28, kv_e258_29, kv_e258_30, kv_e258_31, kv_e258_32, kv_e258_34, kv_e258_37, kv_e258_40, kv_e258_43, kv_o10, not_false_eq_true, not_true, if_true, if_false, kv_then_s, kv_then_v, kv_then_n, List.cons_append, List.nil_append, kv_Ci, kv_Cr, kv_Cn, kv_Cu, kv_C0, kv_catc, kv_gCi, kv_gCl, kv_gCr, kv_nb0, kv_nb1, kv_nbi, kv_nb01, Nat.reduceAdd, Nat.reduceLeDiff, kw_areTwo hI.1.1 hk ho, c1, eq_self]
end
