/-! undo, image, back -/
section
variable {d n B W : Nat} {e : List kv_E} {z zK zM zK' zM' : Nat → Nat → Int32} {zl zlM : Nat → Nat → Int64}
theorem kw_vk_of {z' : Nat → Nat → Int32} {a b : Nat} (h : a + 3 ≤ b ∨ b + 3 ≤ a) (hz : ∀ c, c = a ∨ c = a + 1 ∨ c = a + 2 → z' c = kv_sc z a b c) : kw_vk z' a = kw_vk z b := by
  rw [← kw_sc_vk z h]
  exact kw_vk_fr hz
theorem kw_mod39 {p : Nat} (h : p < 40) : Int32.ofNat p + 40 - 1 - (Int32.ofNat p + 40 - 1) / 40 * 40 = Int32.ofNat ((p + 39) % 40) := by
  have : ∀ p, p < 40 → Int32.ofNat p + 40 - 1 - (Int32.ofNat p + 40 - 1) / 40 * 40 = Int32.ofNat ((p + 39) % 40) := by decide +kernel
  exact this p h
theorem kw_takeBackK {p q : Nat} (hp : p < 40) (hq : q + 1 ≤ 40) (h1 : zK 45 1 = Int32.ofNat p) (h2 : zK 45 2 = Int32.ofNat (q + 1)) : kv_Rn (d + 2) 2 0 [some (.ref 45), some (.ref 36), none] [] (kv_h e zK zl) = some (some (.int 1), kv_h e (kv_f3 (kv_f3 (kv_sc zK 36 (47 + 3 * ((p + 39) % 40))) 45 1 (Int32.ofNat ((p + 39) % 40))) 45 2 (Int32.ofNat q)) zl) := by
  have hs : (p + 39) % 40 < 40 := Nat.mod_lt _ (by omega)
  generalize hg : (p + 39) % 40 = s at hs
  have hm := kw_mod39 hp
  rw [hg] at hm
  have hs2 : s < 2147483648 := by omega
  have l1 : (Int32.ofNat (q + 1) < 1) = False := by
    rw [show (1 : Int32) = Int32.ofNat 1 from rfl, kv_nlt (by omega) (by omega)]
    exact eq_false (by omega)
  have h40 : (40 ≤ Int32.ofNat s) = False := kv_ln_ (m := 40) hs (by omega)
  have p40 : (Int32.ofNat s < 40) = True := by
    rw [show (40 : Int32) = Int32.ofNat 40 from rfl, kv_nlt hs2 (by omega)]
    exact eq_true hs
  have e45 : kv_sc zK 36 (47 + 3 * s) 45 = zK 45 := kw_sc_fr zK (by omega) (by omega) (by omega)
  simp only [kv_e2_0, kv_e2_1, kv_e2_4, kv_e2_6, kv_e2_7, kv_e2_8, kv_e2_9, kv_e2_11, kv_e2_12, kv_e2_13, kv_e2_14, kv_e2_17, kv_e2_18, kv_e2_21, kv_e2_22, kv_e2_25, kv_e2_26, kv_e2_27, kv_e2_30, kv_e2_31, kv_e2_34, kv_e2_35, kv_e2_36, kv_e2_37, kv_e2_38, kv_e2_41, kv_e2_42, kv_e2_43, kv_e2_46, kv_e2_47, kv_e2_48, kv_e2_51, kv_e2_52, kv_e2_53, kv_e2_56, kv_e2_57, kv_e2_58, kv_e2_61, kv_e2_62, kv_o10, not_false_eq_true, not_true, if_true, if_false, kv_then_s, kv_then_v, kv_then_n, List.cons_append, List.nil_append, kv_Ci, kv_Cr, kv_Cn, kv_Cu, kv_C0, kv_catc, kv_gCi, kv_gCl, kv_gCr, kv_nb0, kv_nb1, kv_nbi, kv_nb01, Nat.reduceAdd, Nat.reduceLeDiff, h1, h2, hm, l1, kw_n0 hs2, h40, p40, kv_tn hs2, kv_lN hs, or_self, kv_isS36, kw_isSn hs, kv_copyS, e45, show ((40 : Int32) = 0) = False from by decide, kv_zs]
  simp only [upd, show (2 : Nat) = 1 ↔ False from by decide, if_false, h2, kv_pre, kv_e2_0, kv_e2_1, kv_e2_4, kv_e2_6, kv_e2_7, kv_e2_8, kv_e2_9, kv_e2_11, kv_e2_12, kv_e2_13, kv_e2_14, kv_e2_17, kv_e2_18, kv_e2_21, kv_e2_22, kv_e2_25, kv_e2_26, kv_e2_27, kv_e2_30, kv_e2_31, kv_e2_34, kv_e2_35, kv_e2_36, kv_e2_37, kv_e2_38, kv_e2_41, kv_e2_42, kv_e2_43, kv_e2_46, kv_e2_47, kv_e2_48, kv_e2_51, kv_e2_52, kv_e2_53, kv_e2_56, kv_e2_57, kv_e2_58, kv_e2_61, kv_e2_62, kv_o10, not_false_eq_true, not_true, if_true, if_false, kv_then_s, kv_then_v, kv_then_n, List.cons_append, List.nil_append, kv_Ci, kv_Cr, kv_Cn, kv_Cu, kv_C0, kv_catc, kv_gCi, kv_gCl, kv_gCr, kv_nb0, kv_nb1, kv_nbi, kv_nb01, Nat.reduceAdd, Nat.reduceLeDiff, kv_zs]
  unfold kv_f3
  rw [kv_zs, e45]
theorem kw_R_C (h : kw_R n B W zK zM) (k : ∀ c, c < 36 ∨ 166 < c ∨ (39 ≤ c ∧ c < 45) → zK' c = zK c) (m : ∀ c, c ≠ 0 → c ≠ 16 → c ≠ 19 → zM' c = zM c) (m0 : ∀ j, j ≠ 33 → zM' 0 j = zM 0 j) (hN : kw_RN n B W zK' zM') (hC : kw_RC n B W zK' zM') : kw_R n B W zK' zM' := by
  obtain ⟨⟨hT, hA, hF, hL⟩, ⟨-, hI, -⟩, hE, hG⟩ := h
  exact ⟨⟨kw_RT_fr hT (k 1 (by omega)) (k 2 (by omega)) (m0 2 (by omega)) (m 1 (by omega) (by omega) (by omega)), kw_RA_fr hA (fun c a b => k c (by omega)) (m0 25 (by omega)) (m 15 (by omega) (by omega) (by omega)), kw_RF_fr hF (k 3 (by omega)) (m0 24 (by omega)) (m 14 (by omega) (by omega) (by omega)), kw_RL_fr hL (fun c a b => k c (by omega)) ⟨m0 13 (by omega), m0 27 (by omega), m0 28 (by omega)⟩ (fun c a b => m c (by omega) (by omega) (by omega))⟩, ⟨hN, kw_RI_fr hI (by rw [k 0 (by omega)]) (fun c a b => k c (by omega)) (m0 42 (by omega)) (m 25 (by omega) (by omega) (by omega)), hC⟩, kw_RE_fr hE (fun c a b => k c (by omega)) (m0 40 (by omega)) (fun c a b => m c (by omega) (by omega) (by omega)), kw_RG_fr hG (by rw [k 0 (by omega)]) (m0 29 (by omega))⟩
theorem kw_mundo {q : Nat} (hq : q + 1 ≤ 40) (h : zM 0 33 = Int32.ofNat (q + 1)) : kv_Rn d 235 0 [some (.ref 0), none] [] (kv_m zM zlM) = some (some (.int (Int32.ofNat q)), kv_m (kv_z (kv_z zM 0 (upd (zM 0) 33 (Int32.ofNat q))) 16 (kw_ov (zM 16) (fun i => zM 19 (147 * q + i)) 0 147)) zlM) := by
  have g0 : ∀ f, kv_z (kv_z zM 0 (upd (zM 0) 33 (Int32.ofNat q))) 16 f 0 = upd (zM 0) 33 (Int32.ofNat q) := fun f => by rw [kv_zne _ _ (by omega), kv_zs]
  have g19 : ∀ f, kv_z (kv_z zM 0 (upd (zM 0) 33 (Int32.ofNat q))) 16 f 19 = zM 19 := fun f => by rw [kv_zne _ _ (by omega), kv_zne _ _ (by omega)]
  have g16 : kv_z zM 0 (upd (zM 0) 33 (Int32.ofNat q)) 16 = zM 16 := kv_zne _ _ (by omega)
  have u33 : upd (zM 0) 33 (Int32.ofNat q) 33 = Int32.ofNat q := if_pos rfl
  have hl := kv_up (fun k => kv_Rn d 235 21 [some (.ref 0), some (.int (Int32.ofNat k))] [] (kv_m (kv_z (kv_z zM 0 (upd (zM 0) 33 (Int32.ofNat q))) 16 (kw_ov (zM 16) (fun i => zM 19 (147 * q + i)) 0 k)) zlM) = some (some (.int (Int32.ofNat q)), kv_m (kv_z (kv_z zM 0 (upd (zM 0) 33 (Int32.ofNat q))) 16 (kw_ov (zM 16) (fun i => zM 19 (147 * q + i)) 0 147)) zlM)) 147 ?_ ?_
  · rw [kw_ov_0, ← g16, kw_zid] at hl
    rw [← g16]
    have n0 : ¬ Int32.ofNat (q + 1) = 0 := by
      rw [show (0 : Int32) = Int32.ofNat 0 from rfl, kv_neq (by omega) (by omega)]
      omega
    have hp : Int32.ofNat (q + 1) - 1 = Int32.ofNat q := kv_pre q
    simp only [kv_e235_0, kv_e235_1, kv_e235_4, kv_e235_9, kv_e235_10, kv_e235_11, kv_e235_14, kv_e235_15, kv_e235_16, kv_e235_19, kv_e235_20, kv_o10, not_false_eq_true, not_true, if_true, if_false, kv_then_s, kv_then_v, kv_then_n, List.cons_append, List.nil_append, kv_Ci, kv_Cr, kv_Cn, kv_Cu, kv_C0, kv_catc, kv_gCi, kv_gCl, kv_gCr, kv_nb0, kv_nb1, kv_nbi, kv_nb01, Nat.reduceAdd, Nat.reduceLeDiff, h, n0, hp]
    exact hl
  · rw [kv_e235_21]
    simp only [kv_e235_22, kv_e235_25, kv_e235_55, kv_e235_56, kv_e235_59, kv_o10, not_false_eq_true, not_true, if_true, if_false, kv_then_s, kv_then_v, kv_then_n, List.cons_append, List.nil_append, kv_Ci, kv_Cr, kv_Cn, kv_Cu, kv_C0, kv_catc, kv_gCi, kv_gCl, kv_gCr, kv_nb0, kv_nb1, kv_nbi, kv_nb01, Nat.reduceAdd, Nat.reduceLeDiff, kw_le147', g0, u33]
  · intro k hk ih
    have hk2 : k < 2147483648 := by omega
    have hk3 : 147 * q + k < 2147483648 := by omega
    have hs := kw_ov_s (zM 16) (fun i => zM 19 (147 * q + i)) 0 k
    rw [Nat.zero_add] at hs
    rw [kv_e235_21]
    simp only [kv_e235_22, kv_e235_25, kv_e235_28, kv_e235_29, kv_e235_32, kv_e235_33, kv_e235_34, kv_e235_37, kv_e235_40, kv_e235_41, kv_e235_44, kv_e235_45, kv_e235_46, kv_e235_47, kv_e235_48, kv_e235_49, kv_e235_52, kv_o10, not_false_eq_true, not_true, if_true, if_false, kv_then_s, kv_then_v, kv_then_n, List.cons_append, List.nil_append, kv_Ci, kv_Cr, kv_Cn, kv_Cu, kv_C0, kv_catc, kv_gCi, kv_gCl, kv_gCr, kv_nb0, kv_nb1, kv_nbi, kv_nb01, Nat.reduceAdd, Nat.reduceLeDiff, kw_le147 hk, g0, u33, g19, kw_147, kw_addN, kv_ar_lt (show 19 < 300 by omega), kv_rd_lt (show 19 < 300 by omega), kv_am19, kv_am16, kw_n0 hk3, kv_tn hk3, kv_lN (show 147 * q + k < 5880 by omega), kw_n0 hk2, kv_tn hk2, kv_lN hk, or_self, kv_zs, kw_zz, hs, kv_suc]
    exact ih
theorem kw_f_undo (h : kw_R n B W zK zM) : kw_A (d + 12) 105 235 [some (.ref 0)] [some (.ref 0), none] zK zM zl zlM := by
  obtain ⟨q, p, ⟨q1, q2⟩, ⟨q3, q4, q5⟩, q6⟩ := h.2.1.2.2
  cases q with
  | zero =>
    refine kw_A0 (r := -1) h ?_ ?_
    · have l1 : (Int32.ofNat 0 < 1) = True := by decide
      simp only [kv_e105_0, kv_e105_1, kv_e105_4, kv_e105_5, kv_e105_8, kv_e105_11, kv_e105_14, kv_e105_15, kv_e105_18, kv_e105_21, kv_e105_24, kv_e105_25, kv_e2_0, kv_e2_1, kv_e2_4, kv_e2_6, kv_e2_7, kv_e2_8, kv_e2_9, kv_e2_11, kv_e2_12, kv_e2_13, kv_e2_14, kv_e2_17, kv_e2_18, kv_e2_21, kv_e2_22, kv_e2_25, kv_e2_26, kv_e2_27, kv_e2_30, kv_e2_31, kv_e2_34, kv_e2_35, kv_e2_36, kv_e2_37, kv_e2_38, kv_e2_41, kv_e2_42, kv_e2_43, kv_e2_46, kv_e2_47, kv_e2_48, kv_e2_51, kv_e2_52, kv_e2_53, kv_e2_56, kv_e2_57, kv_e2_58, kv_e2_61, kv_e2_62, kv_o10, not_false_eq_true, not_true, if_true, if_false, kv_then_s, kv_then_v, kv_then_n, List.cons_append, List.nil_append, kv_Ci, kv_Cr, kv_Cn, kv_Cu, kv_C0, kv_catc, kv_gCi, kv_gCl, kv_gCr, kv_nb0, kv_nb1, kv_nbi, kv_nb01, Nat.reduceAdd, Nat.reduceLeDiff, q3, l1, kv_isS36, show ((40 : Int32) = 0) = False from by decide, eq_self]
    · simp only [kv_e235_0, kv_e235_1, kv_e235_4, kv_e235_7, kv_e235_8, kv_e235_9, kv_e235_10, kv_e235_11, kv_e235_14, kv_e235_15, kv_e235_16, kv_e235_19, kv_e235_20, kv_e235_22, kv_e235_25, kv_e235_28, kv_e235_29, kv_e235_32, kv_e235_33, kv_e235_34, kv_e235_37, kv_e235_40, kv_e235_41, kv_e235_44, kv_e235_45, kv_e235_46, kv_e235_47, kv_e235_48, kv_e235_49, kv_e235_52, kv_e235_55, kv_e235_56, kv_e235_59, kv_o10, not_false_eq_true, not_true, if_true, if_false, kv_then_s, kv_then_v, kv_then_n, List.cons_append, List.nil_append, kv_Ci, kv_Cr, kv_Cn, kv_Cu, kv_C0, kv_catc, kv_gCi, kv_gCl, kv_gCr, kv_nb0, kv_nb1, kv_nbi, kv_nb01, Nat.reduceAdd, Nat.reduceLeDiff, q4, show (Int32.ofNat 0 = 0) = True from by decide]
  | succ q =>
    have hs : (p + 39) % 40 < 40 := Nat.mod_lt _ (by omega)
    have ea : kw_at_ p (q + 1) q = 47 + 3 * ((p + 39) % 40) := by
      unfold kw_at_
      omega
    have vq := q6 q (by omega)
    rw [ea] at vq
    have kfr : ∀ c, c ≠ 45 → c ≠ 36 → c ≠ 37 → c ≠ 38 → kv_f3 (kv_f3 (kv_sc zK 36 (47 + 3 * ((p + 39) % 40))) 45 1 (Int32.ofNat ((p + 39) % 40))) 45 2 (Int32.ofNat q) c = zK c := by
      intro c a1 a2 a3 a4
      unfold kv_f3
      rw [kv_zne _ _ a1, kv_zne _ _ a1, kw_sc_fr zK a2 a3 a4]
    have mfr : ∀ c, c ≠ 0 → c ≠ 16 → kv_z (kv_z zM 0 (upd (zM 0) 33 (Int32.ofNat q))) 16 (kw_ov (zM 16) (fun i => zM 19 (147 * q + i)) 0 147) c = zM c := fun c a1 a2 => (kv_zne _ _ a2).trans (kv_zne _ _ a1)
    have m0 : ∀ j, j ≠ 33 → kv_z (kv_z zM 0 (upd (zM 0) 33 (Int32.ofNat q))) 16 (kw_ov (zM 16) (fun i => zM 19 (147 * q + i)) 0 147) 0 j = zM 0 j := fun j hj => by
      rw [kv_zne _ _ (by omega), kv_zs]
      unfold upd
      rw [if_neg hj]
    refine kw_A1 (r := Int32.ofNat q) (zK' := kv_f3 (kv_f3 (kv_sc zK 36 (47 + 3 * ((p + 39) % 40))) 45 1 (Int32.ofNat ((p + 39) % 40))) 45 2 (Int32.ofNat q)) (zM' := kv_z (kv_z zM 0 (upd (zM 0) 33 (Int32.ofNat q))) 16 (kw_ov (zM 16) (fun i => zM 19 (147 * q + i)) 0 147)) (kw_R_C h (fun c hc => kfr c (by omega) (by omega) (by omega) (by omega)) (fun c a1 a2 a3 => mfr c a1 a2) m0 ?_ ?_) ?_ ?_
    · have e1 : kw_vk (kv_f3 (kv_f3 (kv_sc zK 36 (47 + 3 * ((p + 39) % 40))) 45 1 (Int32.ofNat ((p + 39) % 40))) 45 2 (Int32.ofNat q)) 36 = kw_vk zK (47 + 3 * ((p + 39) % 40)) := kw_vk_of (z := zK) (by omega) (fun c hc => by unfold kv_f3; rw [kv_zne _ _ (by omega), kv_zne _ _ (by omega)])
      refine ⟨?_, by rw [e1]; exact vq.2⟩
      rw [e1, vq.1]
      refine (kw_vm_ov _ _ 19 16 (147 * q) 0 (fun i hi => ?_)).symm
      rw [kv_zs]
      unfold kw_ov
      rw [if_pos (by omega), Nat.zero_add]
    · refine ⟨q, (p + 39) % 40, ⟨by omega, hs⟩, ⟨rfl, ?_, ?_⟩, fun i hi => ?_⟩
      · rw [kv_zne _ _ (by omega), kv_zs]
        rfl
      · rfl
      · have e2 : kw_at_ ((p + 39) % 40) q i = kw_at_ p (q + 1) i := by
          unfold kw_at_
          omega
        have := kw_at_lt p (q + 1) i
        rw [e2, kw_vk_fr (z' := kv_f3 (kv_f3 (kv_sc zK 36 (47 + 3 * ((p + 39) % 40))) 45 1 (Int32.ofNat ((p + 39) % 40))) 45 2 (Int32.ofNat q)) (z := zK) (a := kw_at_ p (q + 1) i) (fun c hc => kfr c (by omega) (by omega) (by omega) (by omega)), kw_vm_fr (mfr 19 (by omega) (by omega))]
        exact q6 i (by omega)
    · have u2 : kv_f3 (kv_f3 (kv_sc zK 36 (47 + 3 * ((p + 39) % 40))) 45 1 (Int32.ofNat ((p + 39) % 40))) 45 2 (Int32.ofNat q) 45 2 = Int32.ofNat q := rfl
      simp only [kv_e105_0, kv_e105_1, kv_e105_4, kv_e105_5, kv_e105_8, kv_e105_11, kv_e105_14, kv_e105_15, kv_e105_18, kv_e105_21, kv_e105_24, kv_e105_25, kv_o10, not_false_eq_true, not_true, if_true, if_false, kv_then_s, kv_then_v, kv_then_n, List.cons_append, List.nil_append, kv_Ci, kv_Cr, kv_Cn, kv_Cu, kv_C0, kv_catc, kv_gCi, kv_gCl, kv_gCr, kv_nb0, kv_nb1, kv_nbi, kv_nb01, Nat.reduceAdd, Nat.reduceLeDiff, kw_takeBackK q2 q1 q5 q3, u2]
    · exact kw_mundo q1 q4
end
