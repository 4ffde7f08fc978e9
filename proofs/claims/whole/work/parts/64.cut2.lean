/-! cut, asked -/
section
variable {d n B W : Nat} {e : List kv_E} {z zK zM zK' zM' : Nat → Nat → Int32} {zl zlM : Nat → Nat → Int64}
noncomputable def kw_rt (zK zM : Nat → Nat → Int32) (M : Nat) (w : Int32) : Nat → Nat → Int32
  | 0, _ => -1
  | t + 1, i => if kw_cb (kw_ci zK zM M 0) (kw_ci zK zM M (i + 1)) 8 = 0 then kw_rt zK zM M w t (i + 1) else if w = 0 then kw_lw 8 0 (kv_bt (kw_cb (kw_ci zK zM M 0) (kw_ci zK zM M (i + 1)) 8)) else Int32.ofNat (M + (i + 1))
theorem kw_rt_0 {M t i : Nat} {w : Int32} (h : kw_cb (kw_ci zK zM M 0) (kw_ci zK zM M (i + 1)) 8 = 0) : kw_rt zK zM M w (t + 1) i = kw_rt zK zM M w t (i + 1) := if_pos h
theorem kw_rt_1 {M t i : Nat} {w : Int32} (h : ¬ kw_cb (kw_ci zK zM M 0) (kw_ci zK zM M (i + 1)) 8 = 0) : kw_rt zK zM M w (t + 1) i = if w = 0 then kw_lw 8 0 (kv_bt (kw_cb (kw_ci zK zM M 0) (kw_ci zK zM M (i + 1)) 8)) else Int32.ofNat (M + (i + 1)) := if_neg h
theorem kw_ci_mono {M k : Nat} : ∀ i, kw_ci zK zM M 0 k 11 = 0 → kw_ci zK zM M i k 11 = 0 := by
  intro i
  induction i with
  | zero => exact fun q => q
  | succ i ih => exact fun q => kw_passM_11 (ih q)
theorem kw_lw_cb (c c' : Nat → Nat → Int32) : kw_lw 8 0 (kv_bt (kw_cb c c' 8)) = kw_lw 8 0 (fun k => decide (¬ c k 11 = 0 ∧ c' k 11 = 0)) := kw_lw_congr 8 0 (fun i _ hi => kw_bt_bs _ (by omega))
theorem kw_f_cut (h : kw_R n B W zK zM) (w : Int32) : kw_A (d + 12) 108 241 [some (.ref 0), some (.int w), none, none, none, none] [some (.ref 0), some (.int w), none, none] zK zM zl zlM := by
  have hI := kw_R_I h
  have h8 := hI.1.1.1.2
  have ek := kw_R_km h.2.1.1
  have hF := h.1.2.2.1
  have ez : (zM 0 24 = 0) = (n = 0) := by
    rw [hF.1.2.1, show (0 : Int32) = Int32.ofNat 0 from rfl, kv_neq (by omega) (by omega)]
  obtain ⟨em, M, m1, m2, m3, m4, m5⟩ := kw_R_min h
  have el : Int32.ofNat B - Int32.ofNat M = Int32.ofNat (B - M) := by
    have := @kw_subN M (B - M)
    rw [show M + (B - M) = B from by omega] at this
    exact this
  have em2 : zM 16 104 = Int32.ofNat M := by rw [← em, m3]
  by_cases c : n = 0
  · replace c := eq_true c
    refine kw_A0 (r := -1) h ?_ ?_
    · simp only [kv_e108_0, kv_e108_1, kv_e108_4, kv_e108_7, kv_e108_8, kv_e108_9, kv_e108_12, kv_e108_15, kv_e108_16, kv_e108_17, kv_e108_18, kv_e108_21, kv_e108_24, kv_e108_25, kv_e108_26, kv_e108_29, kv_e108_30, kv_e108_33, kv_e108_36, kv_e108_37, kv_e108_40, kv_e108_41, kv_e108_42, kv_e108_46, kv_e108_47, kv_e108_50, kv_e108_51, kv_e108_54, kv_e108_55, kv_e108_58, kv_e108_61, kv_e108_62, kv_e108_63, kv_e108_66, kv_e108_69, kv_e108_70, kv_e108_71, kv_e108_72, kv_e108_74, kv_e108_76, kv_e108_79, kv_e108_80, kv_e108_83, kv_e108_85, kv_e108_88, kv_e108_91, kv_e108_92, kv_e108_95, kv_e108_98, kv_e108_99, kv_e108_102, kv_e108_105, kv_e108_106, kv_o10, not_false_eq_true, not_true, if_true, if_false, kv_then_s, kv_then_v, kv_then_n, List.cons_append, List.nil_append, kv_Ci, kv_Cr, kv_Cn, kv_Cu, kv_C0, kv_catc, kv_gCi, kv_gCl, kv_gCr, kv_nb0, kv_nb1, kv_nbi, kv_nb01, Nat.reduceAdd, Nat.reduceLeDiff, kw_KhF h, c, eq_self]
    · simp only [kv_e241_0, kv_e241_1, kv_e241_4, kv_e241_7, kv_e241_8, kv_e241_9, kv_e241_10, kv_e241_13, kv_e241_16, kv_e241_17, kv_e241_18, kv_e241_19, kv_e241_22, kv_e241_23, kv_e241_25, kv_e241_28, kv_e241_31, kv_e241_32, kv_e241_35, kv_e241_36, kv_e241_39, kv_e241_40, kv_e241_43, kv_e241_44, kv_e241_47, kv_e241_48, kv_e241_51, kv_e241_52, kv_e241_55, kv_e241_56, kv_e241_59, kv_e241_62, kv_e241_63, kv_e241_66, kv_e241_68, kv_e241_69, kv_e241_70, kv_e241_71, kv_e241_74, kv_e241_75, kv_o10, not_false_eq_true, not_true, if_true, if_false, kv_then_s, kv_then_v, kv_then_n, List.cons_append, List.nil_append, kv_Ci, kv_Cr, kv_Cn, kv_Cu, kv_C0, kv_catc, kv_gCi, kv_gCl, kv_gCr, kv_nb0, kv_nb1, kv_nbi, kv_nb01, Nat.reduceAdd, Nat.reduceLeDiff, ez, c]
  · by_cases c1 : 0 ≤ w ∧ w ≤ 1
    · have hlK : ∀ t i, i + t = B - M → ∀ (z : Nat → Nat → Int32) (u5 : Option Value), kw_XK zK z → kc z 39 = kw_ci zK zM M i → z 39 3 = Int32.ofNat (M + i) → ∃ z', kv_Rn (d + 12) 108 44 [some (.ref 0), some (.int w), some (.int (kw_fs (km zM))), some (.int (Int32.ofNat (B - M))), some (.int (Int32.ofNat i)), u5] [] (kv_h [] z zl) = some (some (.int (kw_rt zK zM M w t i)), kv_h [] z' zl) ∧ kw_XK zK z' := by
        intro t
        induction t with
        | zero =>
          intro i hi z u5 hx hc hm
          have q2 : (Int32.ofNat (B - M) ≤ Int32.ofNat i) = True := by rw [kv_nle (by omega) (by omega)]; exact eq_true (by omega)
          refine ⟨z, ?_, hx⟩
          rw [kv_e108_44]
          simp only [kv_e108_0, kv_e108_1, kv_e108_4, kv_e108_7, kv_e108_8, kv_e108_9, kv_e108_12, kv_e108_15, kv_e108_16, kv_e108_17, kv_e108_18, kv_e108_21, kv_e108_24, kv_e108_25, kv_e108_26, kv_e108_29, kv_e108_30, kv_e108_33, kv_e108_36, kv_e108_37, kv_e108_40, kv_e108_41, kv_e108_42, kv_e108_46, kv_e108_47, kv_e108_50, kv_e108_51, kv_e108_54, kv_e108_55, kv_e108_58, kv_e108_61, kv_e108_62, kv_e108_63, kv_e108_66, kv_e108_69, kv_e108_70, kv_e108_71, kv_e108_72, kv_e108_74, kv_e108_76, kv_e108_79, kv_e108_80, kv_e108_83, kv_e108_85, kv_e108_88, kv_e108_91, kv_e108_92, kv_e108_95, kv_e108_98, kv_e108_99, kv_e108_102, kv_e108_105, kv_e108_106, kv_o10, not_false_eq_true, not_true, if_true, if_false, kv_then_s, kv_then_v, kv_then_n, List.cons_append, List.nil_append, kv_Ci, kv_Cr, kv_Cn, kv_Cu, kv_C0, kv_catc, kv_gCi, kv_gCl, kv_gCr, kv_nb0, kv_nb1, kv_nbi, kv_nb01, Nat.reduceAdd, Nat.reduceLeDiff, q2]
          rfl
        | succ t ih =>
          intro i hi z u5 hx hc hm
          have q2 : (Int32.ofNat (B - M) ≤ Int32.ofNat i) = False := by rw [kv_nle (by omega) (by omega)]; exact eq_false (by omega)
          obtain ⟨z2, r2, x2, c2, m2'⟩ := kw_stepK (d := d + 7) (e := []) (zl := zl) h hx hc hm
          have fl := @kv_flyers (d + 9) 39 [] z2 zl (kv_isS39 [])
          have fl2 : kv_Rn (d + 11) 62 0 [some (.ref 39), none, none] [] (kv_h [] z2 zl) = some (some (.int (kw_fs (kw_ci zK zM M (i + 1)))), kv_h [] z2 zl) := by rw [← c2]; exact fl
          have cb := kw_fs_cb (km zM) (kw_ci zK zM M (i + 1))
          by_cases c3 : kw_cb (kw_ci zK zM M 0) (kw_ci zK zM M (i + 1)) 8 = 0
          · obtain ⟨z', r', x'⟩ := ih (i + 1) (by omega) z2 (some (.int 0)) x2 c2 m2'
            refine ⟨z', ?_, x'⟩
            have c3' : kw_cb (km zM) (kw_ci zK zM M (i + 1)) 8 = 0 := c3
            rw [kw_rt_0 c3, ← r', kv_e108_44]
            simp only [kv_e108_0, kv_e108_1, kv_e108_4, kv_e108_7, kv_e108_8, kv_e108_9, kv_e108_12, kv_e108_15, kv_e108_16, kv_e108_17, kv_e108_18, kv_e108_21, kv_e108_24, kv_e108_25, kv_e108_26, kv_e108_29, kv_e108_30, kv_e108_33, kv_e108_36, kv_e108_37, kv_e108_40, kv_e108_41, kv_e108_42, kv_e108_46, kv_e108_47, kv_e108_50, kv_e108_51, kv_e108_54, kv_e108_55, kv_e108_58, kv_e108_61, kv_e108_62, kv_e108_63, kv_e108_66, kv_e108_69, kv_e108_70, kv_e108_71, kv_e108_72, kv_e108_74, kv_e108_76, kv_e108_79, kv_e108_80, kv_e108_83, kv_e108_85, kv_e108_88, kv_e108_91, kv_e108_92, kv_e108_95, kv_e108_98, kv_e108_99, kv_e108_102, kv_e108_105, kv_e108_106, kv_o10, not_false_eq_true, not_true, if_true, if_false, kv_then_s, kv_then_v, kv_then_n, List.cons_append, List.nil_append, kv_Ci, kv_Cr, kv_Cn, kv_Cu, kv_C0, kv_catc, kv_gCi, kv_gCl, kv_gCr, kv_nb0, kv_nb1, kv_nbi, kv_nb01, Nat.reduceAdd, Nat.reduceLeDiff, q2, r2, kv_isS39, fl2, cb, c3', eq_self, kv_suc]
          · refine ⟨z2, ?_, x2⟩
            have c3' : ¬ kw_cb (km zM) (kw_ci zK zM M (i + 1)) 8 = 0 := c3
            rw [kw_rt_1 c3, kv_e108_44]
            by_cases w0 : w = 0
            · simp only [kv_e108_0, kv_e108_1, kv_e108_4, kv_e108_7, kv_e108_8, kv_e108_9, kv_e108_12, kv_e108_15, kv_e108_16, kv_e108_17, kv_e108_18, kv_e108_21, kv_e108_24, kv_e108_25, kv_e108_26, kv_e108_29, kv_e108_30, kv_e108_33, kv_e108_36, kv_e108_37, kv_e108_40, kv_e108_41, kv_e108_42, kv_e108_46, kv_e108_47, kv_e108_50, kv_e108_51, kv_e108_54, kv_e108_55, kv_e108_58, kv_e108_61, kv_e108_62, kv_e108_63, kv_e108_66, kv_e108_69, kv_e108_70, kv_e108_71, kv_e108_72, kv_e108_74, kv_e108_76, kv_e108_79, kv_e108_80, kv_e108_83, kv_e108_85, kv_e108_88, kv_e108_91, kv_e108_92, kv_e108_95, kv_e108_98, kv_e108_99, kv_e108_102, kv_e108_105, kv_e108_106, kv_o10, not_false_eq_true, not_true, if_true, if_false, kv_then_s, kv_then_v, kv_then_n, List.cons_append, List.nil_append, kv_Ci, kv_Cr, kv_Cn, kv_Cu, kv_C0, kv_catc, kv_gCi, kv_gCl, kv_gCr, kv_nb0, kv_nb1, kv_nbi, kv_nb01, Nat.reduceAdd, Nat.reduceLeDiff, q2, r2, kv_isS39, fl2, cb, c3', w0, eq_self, kw_lowestOf]
              rfl
            · simp only [kv_e108_0, kv_e108_1, kv_e108_4, kv_e108_7, kv_e108_8, kv_e108_9, kv_e108_12, kv_e108_15, kv_e108_16, kv_e108_17, kv_e108_18, kv_e108_21, kv_e108_24, kv_e108_25, kv_e108_26, kv_e108_29, kv_e108_30, kv_e108_33, kv_e108_36, kv_e108_37, kv_e108_40, kv_e108_41, kv_e108_42, kv_e108_46, kv_e108_47, kv_e108_50, kv_e108_51, kv_e108_54, kv_e108_55, kv_e108_58, kv_e108_61, kv_e108_62, kv_e108_63, kv_e108_66, kv_e108_69, kv_e108_70, kv_e108_71, kv_e108_72, kv_e108_74, kv_e108_76, kv_e108_79, kv_e108_80, kv_e108_83, kv_e108_85, kv_e108_88, kv_e108_91, kv_e108_92, kv_e108_95, kv_e108_98, kv_e108_99, kv_e108_102, kv_e108_105, kv_e108_106, kv_o10, not_false_eq_true, not_true, if_true, if_false, kv_then_s, kv_then_v, kv_then_n, List.cons_append, List.nil_append, kv_Ci, kv_Cr, kv_Cn, kv_Cu, kv_C0, kv_catc, kv_gCi, kv_gCl, kv_gCr, kv_nb0, kv_nb1, kv_nbi, kv_nb01, Nat.reduceAdd, Nat.reduceLeDiff, q2, r2, kv_isS39, fl2, cb, c3', w0, m2']
      have hlM : ∀ t i, i + t = B - M → ∀ (z : Nat → Nat → Int32), kw_cb (kw_ci zK zM M 0) (kw_ci zK zM M i) 8 = 0 → kw_Z zM z → km z = kw_ci zK zM M i → z 16 104 = Int32.ofNat (M + i) → (∀ i, i < n → z 17 i = -1) → ∃ z', kv_Rn (d + 12) 241 24 [some (.ref 0), some (.int w), some (.int 0), none] [] (kv_m z zlM) = some (some (.int (kw_rt zK zM M w t i)), kv_m z' zlM) ∧ kw_XM zM z' := by
        intro t
        induction t with
        | zero =>
          intro i hi z h0 hz hc hm hd
          have e14 := hz.1 14 (by omega) (by omega) (by omega) (by omega) (by omega) (by omega) (by omega)
          have el2 : (Int32.ofNat B - Int32.ofNat (M + i) ≤ 0) = True := by
            rw [show M + i = B from by omega, Int32.sub_self]
            decide
          obtain ⟨y3, s3, j3⟩ := kw_backM (d := d + 10) (zlM := zlM) hz
          refine ⟨y3, ?_, j3.1⟩
          rw [kv_e241_24]
          simp only [kv_e241_0, kv_e241_1, kv_e241_4, kv_e241_7, kv_e241_8, kv_e241_9, kv_e241_10, kv_e241_13, kv_e241_16, kv_e241_17, kv_e241_18, kv_e241_19, kv_e241_22, kv_e241_23, kv_e241_25, kv_e241_28, kv_e241_31, kv_e241_32, kv_e241_35, kv_e241_36, kv_e241_39, kv_e241_40, kv_e241_43, kv_e241_44, kv_e241_47, kv_e241_48, kv_e241_51, kv_e241_52, kv_e241_55, kv_e241_56, kv_e241_59, kv_e241_62, kv_e241_63, kv_e241_66, kv_e241_68, kv_e241_69, kv_e241_70, kv_e241_71, kv_e241_74, kv_e241_75, kv_o10, not_false_eq_true, not_true, if_true, if_false, kv_then_s, kv_then_v, kv_then_n, List.cons_append, List.nil_append, kv_Ci, kv_Cr, kv_Cn, kv_Cu, kv_C0, kv_catc, kv_gCi, kv_gCl, kv_gCr, kv_nb0, kv_nb1, kv_nbi, kv_nb01, Nat.reduceAdd, Nat.reduceLeDiff, kw_mleft, e14, m5, hm, el2, eq_self, s3]
          rfl
        | succ t ih =>
          intro i hi z h0 hz hc hm hd
          have e14 := hz.1 14 (by omega) (by omega) (by omega) (by omega) (by omega) (by omega) (by omega)
          have el2 : (Int32.ofNat B - Int32.ofNat (M + i) ≤ 0) = False := by
            have := @kw_subN (M + i) (t + 1)
            rw [show M + i + (t + 1) = B from by omega] at this
            rw [this]
            exact eq_false (fun q => by
              have := (kv_nle (a := t + 1) (b := 0) (by omega) (by omega)).mp q
              omega)
          obtain ⟨z2, r2, z2Z, c2, m2', d2⟩ := kw_stepM (d := d + 5) (zlM := zlM) h (show M + i ≤ 1000 by omega) hz hc hm hd
          have cb : kw_cb (kw_ci zK zM M i) (kw_ci zK zM M (i + 1)) 8 = kw_cb (kw_ci zK zM M 0) (kw_ci zK zM M (i + 1)) 8 := by
            have := kw_cb_tr (c := kw_ci zK zM M 0) (c1 := kw_ci zK zM M i) (c2 := kw_ci zK zM M (i + 1)) (fun k q => kw_ci_mono i q) (fun k q => kw_passM_11 q)
            rw [h0, Int32.zero_or] at this
            exact this
          rw [cb] at r2
          by_cases c3 : kw_cb (kw_ci zK zM M 0) (kw_ci zK zM M (i + 1)) 8 = 0
          · obtain ⟨z', r', x'⟩ := ih (i + 1) (by omega) z2 c3 z2Z c2 m2' d2
            refine ⟨z', ?_, x'⟩
            rw [c3] at r2
            rw [kw_rt_0 c3, ← r', kv_e241_24]
            simp only [kv_e241_0, kv_e241_1, kv_e241_4, kv_e241_7, kv_e241_8, kv_e241_9, kv_e241_10, kv_e241_13, kv_e241_16, kv_e241_17, kv_e241_18, kv_e241_19, kv_e241_22, kv_e241_23, kv_e241_25, kv_e241_28, kv_e241_31, kv_e241_32, kv_e241_35, kv_e241_36, kv_e241_39, kv_e241_40, kv_e241_43, kv_e241_44, kv_e241_47, kv_e241_48, kv_e241_51, kv_e241_52, kv_e241_55, kv_e241_56, kv_e241_59, kv_e241_62, kv_e241_63, kv_e241_66, kv_e241_68, kv_e241_69, kv_e241_70, kv_e241_71, kv_e241_74, kv_e241_75, kv_o10, not_false_eq_true, not_true, if_true, if_false, kv_then_s, kv_then_v, kv_then_n, List.cons_append, List.nil_append, kv_Ci, kv_Cr, kv_Cn, kv_Cu, kv_C0, kv_catc, kv_gCi, kv_gCl, kv_gCr, kv_nb0, kv_nb1, kv_nbi, kv_nb01, Nat.reduceAdd, Nat.reduceLeDiff, kw_mleft, e14, m5, hm, el2, eq_self, r2]
          · obtain ⟨y3, s3, j3⟩ := kw_backM (d := d + 10) (zlM := zlM) z2Z
            refine ⟨y3, ?_, j3.1⟩
            have tz : kw_tz (kw_cb (kw_ci zK zM M 0) (kw_ci zK zM M (i + 1)) 8) = kw_lw 8 0 (kv_bt (kw_cb (kw_ci zK zM M 0) (kw_ci zK zM M (i + 1)) 8)) := by
              rw [kw_lw_cb]
              exact kw_tz_lw _ c3
            have e14' := z2Z.1 14 (by omega) (by omega) (by omega) (by omega) (by omega) (by omega) (by omega)
            rw [kw_rt_1 c3, kv_e241_24]
            simp only [kv_e241_25, kv_e241_28, kv_e241_31, kv_e241_32, kv_e241_35, kv_e241_36, kv_e241_39, kv_e241_40, kv_o10, not_false_eq_true, not_true, if_true, if_false, kv_then_s, kv_then_v, kv_then_n, List.cons_append, List.nil_append, kv_Ci, kv_Cr, kv_Cn, kv_Cu, kv_C0, kv_catc, kv_gCi, kv_gCl, kv_gCr, kv_nb0, kv_nb1, kv_nbi, kv_nb01, Nat.reduceAdd, Nat.reduceLeDiff, kw_mleft, e14, m5, hm, el2, eq_self, r2]
            generalize kw_cb (kw_ci zK zM M 0) (kw_ci zK zM M (i + 1)) 8 = cc at c3 tz
            have fin : kv_Rn (d + 12) 241 43 [some (.ref 0), some (.int w), some (.int cc), none] [] (kv_m z2 zlM) = some (some (.int (if w = 0 then kw_lw 8 0 (kv_bt cc) else Int32.ofNat (M + (i + 1)))), kv_m y3 zlM) := by
              by_cases w0 : w = 0
              · simp only [kv_e241_0, kv_e241_1, kv_e241_4, kv_e241_7, kv_e241_8, kv_e241_9, kv_e241_10, kv_e241_13, kv_e241_16, kv_e241_17, kv_e241_18, kv_e241_19, kv_e241_22, kv_e241_23, kv_e241_25, kv_e241_28, kv_e241_31, kv_e241_32, kv_e241_35, kv_e241_36, kv_e241_39, kv_e241_40, kv_e241_43, kv_e241_44, kv_e241_47, kv_e241_48, kv_e241_51, kv_e241_52, kv_e241_55, kv_e241_56, kv_e241_59, kv_e241_62, kv_e241_63, kv_e241_66, kv_e241_68, kv_e241_69, kv_e241_70, kv_e241_71, kv_e241_74, kv_e241_75, kv_o10, not_false_eq_true, not_true, if_true, if_false, kv_then_s, kv_then_v, kv_then_n, List.cons_append, List.nil_append, kv_Ci, kv_Cr, kv_Cn, kv_Cu, kv_C0, kv_catc, kv_gCi, kv_gCl, kv_gCr, kv_nb0, kv_nb1, kv_nbi, kv_nb01, Nat.reduceAdd, Nat.reduceLeDiff, c3, w0, eq_self, kw_ntz, tz, s3]
              · simp only [kv_e241_0, kv_e241_1, kv_e241_4, kv_e241_7, kv_e241_8, kv_e241_9, kv_e241_10, kv_e241_13, kv_e241_16, kv_e241_17, kv_e241_18, kv_e241_19, kv_e241_22, kv_e241_23, kv_e241_25, kv_e241_28, kv_e241_31, kv_e241_32, kv_e241_35, kv_e241_36, kv_e241_39, kv_e241_40, kv_e241_43, kv_e241_44, kv_e241_47, kv_e241_48, kv_e241_51, kv_e241_52, kv_e241_55, kv_e241_56, kv_e241_59, kv_e241_62, kv_e241_63, kv_e241_66, kv_e241_68, kv_e241_69, kv_e241_70, kv_e241_71, kv_e241_74, kv_e241_75, kv_o10, not_false_eq_true, not_true, if_true, if_false, kv_then_s, kv_then_v, kv_then_n, List.cons_append, List.nil_append, kv_Ci, kv_Cr, kv_Cn, kv_Cu, kv_C0, kv_catc, kv_gCi, kv_gCl, kv_gCr, kv_nb0, kv_nb1, kv_nbi, kv_nb01, Nat.reduceAdd, Nat.reduceLeDiff, c3, w0, kv_ar_lt (show 16 < 300 by omega), kv_rd_lt (show 16 < 300 by omega), kv_am16, kv_l104, kv_t104, or_self, m2', s3]
            by_cases c4 : Int32.ofNat B - Int32.ofNat (M + (i + 1)) ≤ 0
            · conv => lhs; rw [kv_e241_24]
              simp only [kv_e241_25, kv_e241_28, kv_o10, not_false_eq_true, not_true, if_true, if_false, kv_then_s, kv_then_v, kv_then_n, List.cons_append, List.nil_append, kv_Ci, kv_Cr, kv_Cn, kv_Cu, kv_C0, kv_catc, kv_gCi, kv_gCl, kv_gCr, kv_nb0, kv_nb1, kv_nbi, kv_nb01, Nat.reduceAdd, Nat.reduceLeDiff, kw_mleft, e14', m5, m2', c4]
              exact fin
            · conv => lhs; rw [kv_e241_24]
              simp only [kv_e241_25, kv_e241_28, kv_e241_31, kv_e241_32, kv_o10, not_false_eq_true, not_true, if_true, if_false, kv_then_s, kv_then_v, kv_then_n, List.cons_append, List.nil_append, kv_Ci, kv_Cr, kv_Cn, kv_Cu, kv_C0, kv_catc, kv_gCi, kv_gCl, kv_gCr, kv_nb0, kv_nb1, kv_nbi, kv_nb01, Nat.reduceAdd, Nat.reduceLeDiff, kw_mleft, e14', m5, m2', c4, c3]
              exact fin
      obtain ⟨t1, t2, t3⟩ := kw_trial h m3
      obtain ⟨z1, r1, x1⟩ := hlK (B - M) 0 (by omega) (kv_sc zK 39 36) none t1 t2 t3
      obtain ⟨y1, s1, j1⟩ := kw_aside (d := d + 10) (zM := zM) (zlM := zlM)
      obtain ⟨z2, r2, x2⟩ := hlM (B - M) 0 (by omega) y1 (kw_cb_0 _) (kw_J_Z j1) (kw_J_km j1) (by rw [kw_J_m j1]; exact em2) (fun i hi => j1.2.2 i (by omega))
      refine kw_A2 (r := kw_rt zK zM M w (B - M) 0) h ?_ ?_ x1 x2
      · have l36 : kv_sc zK 39 36 3 = zK 3 ∧ kv_sc zK 39 36 36 = zK 36 := ⟨kw_sc_fr zK (by omega) (by omega) (by omega), kw_sc_fr zK (by omega) (by omega) (by omega)⟩
        have fl := @kv_flyers (d + 9) 36 [] zK zl (kv_isS36 [])
        have fl2 : kv_Rn (d + 11) 62 0 [some (.ref 36), none, none] [] (kv_h [] zK zl) = some (some (.int (kw_fs (km zM))), kv_h [] zK zl) := by rw [← ek]; exact fl
        simp only [kv_e108_0, kv_e108_1, kv_e108_4, kv_e108_7, kv_e108_8, kv_e108_9, kv_e108_12, kv_e108_17, kv_e108_18, kv_e108_21, kv_e108_24, kv_e108_25, kv_e108_26, kv_e108_29, kv_e108_30, kv_e108_33, kv_e108_36, kv_e108_37, kv_e108_40, kv_e108_41, kv_e108_42, kv_o10, not_false_eq_true, not_true, if_true, if_false, kv_then_s, kv_then_v, kv_then_n, List.cons_append, List.nil_append, kv_Ci, kv_Cr, kv_Cn, kv_Cu, kv_C0, kv_catc, kv_gCi, kv_gCl, kv_gCr, kv_nb0, kv_nb1, kv_nbi, kv_nb01, Nat.reduceAdd, Nat.reduceLeDiff, kw_KhF h, c, eq_self, kw_isOut, c1, and_self, kv_isS36, kv_isS39, fl2, kv_copyS, kw_left, l36.1, l36.2, m4, m3, el]
        exact r1
      · simp only [kv_e241_0, kv_e241_1, kv_e241_4, kv_e241_7, kv_e241_8, kv_e241_9, kv_e241_10, kv_e241_13, kv_e241_18, kv_e241_19, kv_e241_22, kv_e241_23, kv_o10, not_false_eq_true, not_true, if_true, if_false, kv_then_s, kv_then_v, kv_then_n, List.cons_append, List.nil_append, kv_Ci, kv_Cr, kv_Cn, kv_Cu, kv_C0, kv_catc, kv_gCi, kv_gCl, kv_gCr, kv_nb0, kv_nb1, kv_nbi, kv_nb01, Nat.reduceAdd, Nat.reduceLeDiff, ez, c, kw_in, c1, and_self, s1]
        exact r2
    · refine kw_A0 (r := -1) h ?_ ?_
      · simp only [kv_e108_0, kv_e108_1, kv_e108_4, kv_e108_7, kv_e108_8, kv_e108_9, kv_e108_12, kv_e108_15, kv_e108_16, kv_e108_17, kv_e108_18, kv_e108_21, kv_e108_24, kv_e108_25, kv_e108_26, kv_e108_29, kv_e108_30, kv_e108_33, kv_e108_36, kv_e108_37, kv_e108_40, kv_e108_41, kv_e108_42, kv_e108_46, kv_e108_47, kv_e108_50, kv_e108_51, kv_e108_54, kv_e108_55, kv_e108_58, kv_e108_61, kv_e108_62, kv_e108_63, kv_e108_66, kv_e108_69, kv_e108_70, kv_e108_71, kv_e108_72, kv_e108_74, kv_e108_76, kv_e108_79, kv_e108_80, kv_e108_83, kv_e108_85, kv_e108_88, kv_e108_91, kv_e108_92, kv_e108_95, kv_e108_98, kv_e108_99, kv_e108_102, kv_e108_105, kv_e108_106, kv_o10, not_false_eq_true, not_true, if_true, if_false, kv_then_s, kv_then_v, kv_then_n, List.cons_append, List.nil_append, kv_Ci, kv_Cr, kv_Cn, kv_Cu, kv_C0, kv_catc, kv_gCi, kv_gCl, kv_gCr, kv_nb0, kv_nb1, kv_nbi, kv_nb01, Nat.reduceAdd, Nat.reduceLeDiff, kw_KhF h, c, kw_isOut, c1, eq_self]
      · simp only [kv_e241_0, kv_e241_1, kv_e241_4, kv_e241_7, kv_e241_8, kv_e241_9, kv_e241_10, kv_e241_13, kv_e241_16, kv_e241_17, kv_e241_18, kv_e241_19, kv_e241_22, kv_e241_23, kv_e241_25, kv_e241_28, kv_e241_31, kv_e241_32, kv_e241_35, kv_e241_36, kv_e241_39, kv_e241_40, kv_e241_43, kv_e241_44, kv_e241_47, kv_e241_48, kv_e241_51, kv_e241_52, kv_e241_55, kv_e241_56, kv_e241_59, kv_e241_62, kv_e241_63, kv_e241_66, kv_e241_68, kv_e241_69, kv_e241_70, kv_e241_71, kv_e241_74, kv_e241_75, kv_o10, not_false_eq_true, not_true, if_true, if_false, kv_then_s, kv_then_v, kv_then_n, List.cons_append, List.nil_append, kv_Ci, kv_Cr, kv_Cn, kv_Cu, kv_C0, kv_catc, kv_gCi, kv_gCl, kv_gCr, kv_nb0, kv_nb1, kv_nbi, kv_nb01, Nat.reduceAdd, Nat.reduceLeDiff, ez, c, kw_in, c1, eq_self]
end
