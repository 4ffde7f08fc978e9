/-! image, back; a minute keeps the relation -/
section
variable {d n B W : Nat} {e : List kv_E} {z zK zM zK' zM' : Nat → Nat → Int32} {zl zlM : Nat → Nat → Int64}
theorem kw_mimg : kv_Rn d 268 11 [some (.ref 0), some (.int (Int32.ofNat 0))] [] (kv_m zM zlM) = some (some (.int (zM 16 104)), kv_m (kv_z (kv_z zM 25 (kw_ov (zM 25) (zM 16) 0 147)) 0 (upd (zM 0) 42 1)) zlM) := by
  have g0 : ∀ f, kv_z zM 25 f 0 = zM 0 := fun f => kv_zne _ _ (by omega)
  have g16 : ∀ f, kv_z zM 25 f 16 = zM 16 := fun f => kv_zne _ _ (by omega)
  have hl := kv_up (fun k => kv_Rn d 268 11 [some (.ref 0), some (.int (Int32.ofNat k))] [] (kv_m (kv_z zM 25 (kw_ov (zM 25) (zM 16) 0 k)) zlM) = some (some (.int (zM 16 104)), kv_m (kv_z (kv_z zM 25 (kw_ov (zM 25) (zM 16) 0 147)) 0 (upd (zM 0) 42 1)) zlM)) 147 ?_ ?_
  · rw [kw_ov_0, kw_zid] at hl
    exact hl
  · have g2 : ∀ f, kv_z (kv_z zM 25 (kw_ov (zM 25) (zM 16) 0 147)) 0 f 16 = zM 16 := fun f => by rw [kv_zne _ _ (by omega), kv_zne _ _ (by omega)]
    rw [kv_e268_11]
    simp only [kv_e268_12, kv_e268_15, kv_e268_36, kv_e268_37, kv_e268_38_1, kv_e268_41, kv_e268_42, kv_e268_45, kv_e268_47, kv_e268_48, kv_o10, not_false_eq_true, not_true, if_true, if_false, kv_then_s, kv_then_v, kv_then_n, List.cons_append, List.nil_append, kv_Ci, kv_Cr, kv_Cn, kv_Cu, kv_C0, kv_catc, kv_gCi, kv_gCl, kv_gCr, kv_nb0, kv_nb1, kv_nbi, kv_nb01, Nat.reduceAdd, Nat.reduceLeDiff, kw_le147', g0, g2, kv_ar_lt (show 16 < 300 by omega), kv_rd_lt (show 16 < 300 by omega), kv_am16, kv_l104, kv_t104, or_self]
  · intro k hk ih
    have hk2 : k < 2147483648 := by omega
    have hs := kw_ov_s (zM 25) (zM 16) 0 k
    rw [Nat.zero_add] at hs
    rw [kv_e268_11]
    simp only [kv_e268_12, kv_e268_15, kv_e268_18, kv_e268_19, kv_e268_22, kv_e268_23, kv_e268_24, kv_e268_27, kv_e268_28, kv_e268_29, kv_e268_30, kv_e268_33, kv_o10, not_false_eq_true, not_true, if_true, if_false, kv_then_s, kv_then_v, kv_then_n, List.cons_append, List.nil_append, kv_Ci, kv_Cr, kv_Cn, kv_Cu, kv_C0, kv_catc, kv_gCi, kv_gCl, kv_gCr, kv_nb0, kv_nb1, kv_nbi, kv_nb01, Nat.reduceAdd, Nat.reduceLeDiff, kw_le147 hk, g16, kv_ar_lt (show 16 < 300 by omega), kv_rd_lt (show 16 < 300 by omega), kv_am16, kv_am25, kw_n0 hk2, kv_tn hk2, kv_lN hk, or_self, kv_zs, kw_zz, hs, kv_suc]
    exact ih
theorem kw_mbck : kv_Rn d 269 11 [some (.ref 0), some (.int (Int32.ofNat 0))] [] (kv_m zM zlM) = some (some (.int (zM 25 104)), kv_m (kv_z (kv_z zM 16 (kw_ov (zM 16) (zM 25) 0 147)) 0 (upd (zM 0) 33 0)) zlM) := by
  have g0 : ∀ f, kv_z zM 16 f 0 = zM 0 := fun f => kv_zne _ _ (by omega)
  have g25 : ∀ f, kv_z zM 16 f 25 = zM 25 := fun f => kv_zne _ _ (by omega)
  have hl := kv_up (fun k => kv_Rn d 269 11 [some (.ref 0), some (.int (Int32.ofNat k))] [] (kv_m (kv_z zM 16 (kw_ov (zM 16) (zM 25) 0 k)) zlM) = some (some (.int (zM 25 104)), kv_m (kv_z (kv_z zM 16 (kw_ov (zM 16) (zM 25) 0 147)) 0 (upd (zM 0) 33 0)) zlM)) 147 ?_ ?_
  · rw [kw_ov_0, kw_zid] at hl
    exact hl
  · have g2 : ∀ f, kv_z (kv_z zM 16 (kw_ov (zM 16) (zM 25) 0 147)) 0 f 16 = kw_ov (zM 16) (zM 25) 0 147 := fun f => by rw [kv_zne _ _ (by omega), kv_zs]
    have g3 : kw_ov (zM 16) (zM 25) 0 147 104 = zM 25 104 := if_pos (by omega)
    rw [kv_e269_11]
    simp only [kv_e269_12, kv_e269_15, kv_e269_36, kv_e269_37, kv_e269_38, kv_e269_41, kv_e269_42, kv_e269_45, kv_e269_47, kv_e269_48, kv_o10, not_false_eq_true, not_true, if_true, if_false, kv_then_s, kv_then_v, kv_then_n, List.cons_append, List.nil_append, kv_Ci, kv_Cr, kv_Cn, kv_Cu, kv_C0, kv_catc, kv_gCi, kv_gCl, kv_gCr, kv_nb0, kv_nb1, kv_nbi, kv_nb01, Nat.reduceAdd, Nat.reduceLeDiff, kw_le147', g0, g2, g3, kv_ar_lt (show 16 < 300 by omega), kv_rd_lt (show 16 < 300 by omega), kv_am16, kv_l104, kv_t104, or_self]
  · intro k hk ih
    have hk2 : k < 2147483648 := by omega
    have hs := kw_ov_s (zM 16) (zM 25) 0 k
    rw [Nat.zero_add] at hs
    rw [kv_e269_11]
    simp only [kv_e269_12, kv_e269_15, kv_e269_18, kv_e269_19, kv_e269_22, kv_e269_23, kv_e269_24, kv_e269_27, kv_e269_28, kv_e269_29, kv_e269_30, kv_e269_33, kv_o10, not_false_eq_true, not_true, if_true, if_false, kv_then_s, kv_then_v, kv_then_n, List.cons_append, List.nil_append, kv_Ci, kv_Cr, kv_Cn, kv_Cu, kv_C0, kv_catc, kv_gCi, kv_gCl, kv_gCr, kv_nb0, kv_nb1, kv_nbi, kv_nb01, Nat.reduceAdd, Nat.reduceLeDiff, kw_le147 hk, g25, kv_ar_lt (show 25 < 300 by omega), kv_rd_lt (show 25 < 300 by omega), kv_am16, kv_am25, kw_n0 hk2, kv_tn hk2, kv_lN hk, or_self, kv_zs, kw_zz, hs, kv_suc]
    exact ih
theorem kw_f_image (h : kw_R n B W zK zM) : kw_A (d + 12) 134 268 [some (.ref 0)] [some (.ref 0), none] zK zM zl zlM := by
  have hF := h.1.2.2.1
  have v7 : zK 36 3 = zM 16 104 := (kw_R_min h).1
  have e0 : (zM 0 24 = 0) = (n = 0) := by
    rw [hF.1.2.1, show (0 : Int32) = Int32.ofNat 0 from rfl, kv_neq (by have := hF.1.2.2; omega) (by omega)]
  by_cases c : n = 0
  · replace c := eq_true c
    refine kw_A0 (r := -1) h ?_ ?_
    · simp only [kv_e134_0, kv_e134_1, kv_e134_4, kv_e134_7, kv_e134_8, kv_e134_9, kv_e134_10, kv_e134_13, kv_e134_14, kv_e134_17, kv_e134_20, kv_e134_21, kv_e134_22_0, kv_e134_22_1, kv_e134_25, kv_e134_26, kv_e134_29, kv_e134_32, kv_o10, not_false_eq_true, not_true, if_true, if_false, kv_then_s, kv_then_v, kv_then_n, List.cons_append, List.nil_append, kv_Ci, kv_Cr, kv_Cn, kv_Cu, kv_C0, kv_catc, kv_gCi, kv_gCl, kv_gCr, kv_nb0, kv_nb1, kv_nbi, kv_nb01, Nat.reduceAdd, Nat.reduceLeDiff, kw_KhF h, c, eq_self]
    · simp only [kv_e268_0, kv_e268_1, kv_e268_4, kv_e268_7, kv_e268_8, kv_e268_9, kv_e268_10, kv_e268_12, kv_e268_15, kv_e268_18, kv_e268_19, kv_e268_22, kv_e268_23, kv_e268_24, kv_e268_27, kv_e268_28, kv_e268_29, kv_e268_30, kv_e268_33, kv_e268_36, kv_e268_37, kv_e268_38_0, kv_e268_38_1, kv_e268_41, kv_e268_42, kv_e268_45, kv_e268_47, kv_e268_48, kv_o10, not_false_eq_true, not_true, if_true, if_false, kv_then_s, kv_then_v, kv_then_n, List.cons_append, List.nil_append, kv_Ci, kv_Cr, kv_Cn, kv_Cu, kv_C0, kv_catc, kv_gCi, kv_gCl, kv_gCr, kv_nb0, kv_nb1, kv_nbi, kv_nb01, Nat.reduceAdd, Nat.reduceLeDiff, e0, c]
  · have kf : ∀ c, c ≠ 0 → c ≠ 42 → c ≠ 43 → c ≠ 44 → kv_z (kv_sc zK 42 36) 0 (upd (zK 0) 9 1) c = zK c := fun c a0 a1 a2 a3 => by rw [kv_zne _ _ a0, kw_sc_fr zK a1 a2 a3]
    have mf : ∀ c, c ≠ 0 → c ≠ 25 → kv_z (kv_z zM 25 (kw_ov (zM 25) (zM 16) 0 147)) 0 (upd (zM 0) 42 1) c = zM c := fun c a1 a2 => (kv_zne _ _ a1).trans (kv_zne _ _ a2)
    refine kw_A1 (r := zM 16 104) (n := n) (B := B) (W := W) (zK' := kv_z (kv_sc zK 42 36) 0 (upd (zK 0) 9 1)) (zM' := kv_z (kv_z zM 25 (kw_ov (zM 25) (zM 16) 0 147)) 0 (upd (zM 0) 42 1)) ?_ ?_ ?_
    · obtain ⟨⟨hT, hA, hF, hL⟩, ⟨hN, hI, hC⟩, hE, hG⟩ := h
      have e1 : kw_vk (kv_z (kv_sc zK 42 36) 0 (upd (zK 0) 9 1)) 42 = kw_vk zK 36 := kw_vk_of (z := zK) (by omega) (fun c hc => kv_zne _ _ (by omega))
      refine ⟨⟨kw_RT_fr hT (kf 1 (by omega) (by omega) (by omega) (by omega)) (kf 2 (by omega) (by omega) (by omega) (by omega)) rfl (mf 1 (by omega) (by omega)), kw_RA_fr hA (fun c a b => kf c (by omega) (by omega) (by omega) (by omega)) rfl (mf 15 (by omega) (by omega)), kw_RF_fr hF (kf 3 (by omega) (by omega) (by omega) (by omega)) rfl (mf 14 (by omega) (by omega)), kw_RL_fr hL (fun c a b => kf c (by omega) (by omega) (by omega) (by omega)) ⟨rfl, rfl, rfl⟩ (fun c a b => mf c (by omega) (by omega))⟩, ⟨kw_RN_fr hN (fun c a b => kf c (by omega) (by omega) (by omega) (by omega)) (mf 16 (by omega) (by omega)), ⟨rfl, Or.inr ⟨rfl, ?_, by rw [e1]; exact hN.2⟩⟩, kw_RC_fr hC (fun c a b => kf c (by omega) (by omega) (by omega) (by omega)) rfl (mf 19 (by omega) (by omega))⟩, kw_RE_fr hE (fun c a b => kf c (by omega) (by omega) (by omega) (by omega)) rfl (fun c a b => mf c (by omega) (by omega)), ?_⟩
      · rw [e1, hN.1]
        refine (kw_vm_ov _ _ 16 25 0 0 (fun i hi => ?_)).symm
        rw [kv_zne _ _ (by omega), kv_zs]
        unfold kw_ov
        rw [if_pos (by omega)]
      · exact kw_RG_fr hG rfl rfl
    · have g0 : kv_sc zK 42 36 0 = zK 0 := kw_sc_fr zK (by omega) (by omega) (by omega)
      have g36 : ∀ f, kv_z (kv_sc zK 42 36) 0 f 36 = zK 36 := fun f => by rw [kv_zne _ _ (by omega), kw_sc_fr zK (by omega) (by omega) (by omega)]
      simp only [kv_e134_0, kv_e134_1, kv_e134_4, kv_e134_7, kv_e134_8, kv_e134_9, kv_e134_10, kv_e134_13, kv_e134_14, kv_e134_17, kv_e134_20, kv_e134_21, kv_e134_22_0, kv_e134_22_1, kv_e134_25, kv_e134_26, kv_e134_29, kv_e134_32, kv_o10, not_false_eq_true, not_true, if_true, if_false, kv_then_s, kv_then_v, kv_then_n, List.cons_append, List.nil_append, kv_Ci, kv_Cr, kv_Cn, kv_Cu, kv_C0, kv_catc, kv_gCi, kv_gCl, kv_gCr, kv_nb0, kv_nb1, kv_nbi, kv_nb01, Nat.reduceAdd, Nat.reduceLeDiff, kw_KhF h, c, kv_isS36, kv_isS42, kv_copyS, g0, g36, v7]
    · simp only [kv_e268_0, kv_e268_1, kv_e268_4, kv_e268_9, kv_e268_10, kv_o10, not_false_eq_true, not_true, if_true, if_false, kv_then_s, kv_then_v, kv_then_n, List.cons_append, List.nil_append, kv_Ci, kv_Cr, kv_Cn, kv_Cu, kv_C0, kv_catc, kv_gCi, kv_gCl, kv_gCr, kv_nb0, kv_nb1, kv_nbi, kv_nb01, Nat.reduceAdd, Nat.reduceLeDiff, e0, c]
      exact kw_mimg
theorem kw_f_back (h : kw_R n B W zK zM) : kw_A (d + 12) 135 269 [some (.ref 0)] [some (.ref 0), none] zK zM zl zlM := by
  obtain ⟨i1, i2⟩ := h.2.1.2.1
  rcases i2 with i2 | ⟨i2, i3, i4⟩
  · refine kw_A0 (r := -1) h ?_ ?_
    · simp only [kv_e135_0, kv_e135_1, kv_e135_4, kv_e135_7, kv_e135_8, kv_e135_9, kv_e135_10, kv_e135_13, kv_e135_14, kv_e135_17, kv_e135_20, kv_e135_21, kv_e135_24, kv_e135_27, kv_e135_28, kv_e135_31, kv_e135_34, kv_o10, not_false_eq_true, not_true, if_true, if_false, kv_then_s, kv_then_v, kv_then_n, List.cons_append, List.nil_append, kv_Ci, kv_Cr, kv_Cn, kv_Cu, kv_C0, kv_catc, kv_gCi, kv_gCl, kv_gCr, kv_nb0, kv_nb1, kv_nbi, kv_nb01, Nat.reduceAdd, Nat.reduceLeDiff, i2, eq_self]
    · rw [i2] at i1
      simp only [kv_e269_0, kv_e269_1, kv_e269_4, kv_e269_7, kv_e269_8, kv_e269_9, kv_e269_10, kv_e269_12, kv_e269_15, kv_e269_18, kv_e269_19, kv_e269_22, kv_e269_23, kv_e269_24, kv_e269_27, kv_e269_28, kv_e269_29, kv_e269_30, kv_e269_33, kv_e269_36, kv_e269_37, kv_e269_38, kv_e269_41, kv_e269_42, kv_e269_45, kv_e269_47, kv_e269_48, kv_o10, not_false_eq_true, not_true, if_true, if_false, kv_then_s, kv_then_v, kv_then_n, List.cons_append, List.nil_append, kv_Ci, kv_Cr, kv_Cn, kv_Cu, kv_C0, kv_catc, kv_gCi, kv_gCl, kv_gCr, kv_nb0, kv_nb1, kv_nbi, kv_nb01, Nat.reduceAdd, Nat.reduceLeDiff, ← i1, eq_self]
  · have i5 : zM 0 42 = 1 := by rw [← i1, i2]
    have kf : ∀ c, c ≠ 45 → c ≠ 36 → c ≠ 37 → c ≠ 38 → kv_z (kv_sc zK 36 42) 45 (upd (zK 45) 2 0) c = zK c := fun c a0 a1 a2 a3 => by rw [kv_zne _ _ a0, kw_sc_fr zK a1 a2 a3]
    have mf : ∀ c, c ≠ 0 → c ≠ 16 → kv_z (kv_z zM 16 (kw_ov (zM 16) (zM 25) 0 147)) 0 (upd (zM 0) 33 0) c = zM c := fun c a1 a2 => (kv_zne _ _ a1).trans (kv_zne _ _ a2)
    have m0 : ∀ j, j ≠ 33 → kv_z (kv_z zM 16 (kw_ov (zM 16) (zM 25) 0 147)) 0 (upd (zM 0) 33 0) 0 j = zM 0 j := fun j hj => by
      rw [kv_zs]
      unfold upd
      rw [if_neg hj]
    obtain ⟨q, p, ⟨q1, q2⟩, ⟨q3, q4, q5⟩, q6⟩ := h.2.1.2.2
    have v7 : zK 42 3 = zM 25 104 := congrArg (fun v : kw_V => v.2.2.2.1) i3
    refine kw_A1 (r := zM 25 104) (zK' := kv_z (kv_sc zK 36 42) 45 (upd (zK 45) 2 0)) (zM' := kv_z (kv_z zM 16 (kw_ov (zM 16) (zM 25) 0 147)) 0 (upd (zM 0) 33 0)) (kw_R_C h (fun c hc => kf c (by omega) (by omega) (by omega) (by omega)) (fun c a1 a2 a3 => mf c a1 a2) m0 ?_ ?_) ?_ ?_
    · have e1 : kw_vk (kv_z (kv_sc zK 36 42) 45 (upd (zK 45) 2 0)) 36 = kw_vk zK 42 := kw_vk_of (z := zK) (by omega) (fun c hc => kv_zne _ _ (by omega))
      refine ⟨?_, by rw [e1]; exact i4⟩
      rw [e1, i3]
      refine (kw_vm_ov _ _ 25 16 0 0 (fun i hi => ?_)).symm
      rw [kv_zne _ _ (by omega), kv_zs]
      unfold kw_ov
      rw [if_pos (by omega)]
    · exact ⟨0, p, ⟨by omega, q2⟩, ⟨rfl, rfl, q5⟩, fun i hi => by omega⟩
    · have g45 : kv_sc zK 36 42 45 = zK 45 := kw_sc_fr zK (by omega) (by omega) (by omega)
      have g36 : kv_z (kv_sc zK 36 42) 45 (upd (zK 45) 2 0) 36 3 = zM 25 104 := by
        rw [kv_zne _ _ (by omega), kw_sc_0 zK (by omega), ← v7]
        rfl
      simp only [kv_e135_0, kv_e135_1, kv_e135_4, kv_e135_7, kv_e135_8, kv_e135_9, kv_e135_10, kv_e135_13, kv_e135_14, kv_e135_17, kv_e135_20, kv_e135_21, kv_e135_24, kv_e135_27, kv_e135_28, kv_e135_31, kv_e135_34, kv_e3_0, kv_e3_1, kv_e3_2, kv_e3_5, kv_o10, not_false_eq_true, not_true, if_true, if_false, kv_then_s, kv_then_v, kv_then_n, List.cons_append, List.nil_append, kv_Ci, kv_Cr, kv_Cn, kv_Cu, kv_C0, kv_catc, kv_gCi, kv_gCl, kv_gCr, kv_nb0, kv_nb1, kv_nbi, kv_nb01, Nat.reduceAdd, Nat.reduceLeDiff, i2, kv_isS36, kv_isS42, kv_copyS, g45, g36]
    · simp only [kv_e269_0, kv_e269_1, kv_e269_4, kv_e269_9, kv_e269_10, kv_o10, not_false_eq_true, not_true, if_true, if_false, kv_then_s, kv_then_v, kv_then_n, List.cons_append, List.nil_append, kv_Ci, kv_Cr, kv_Cn, kv_Cu, kv_C0, kv_catc, kv_gCi, kv_gCl, kv_gCr, kv_nb0, kv_nb1, kv_nbi, kv_nb01, Nat.reduceAdd, Nat.reduceLeDiff, i5]
      exact kw_mbck
end
