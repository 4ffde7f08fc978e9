/-! content, ringer -/
section
variable {d n B W : Nat} {e : List kv_E} {z zK zM zK' zM' : Nat → Nat → Int32} {zl zlM : Nat → Nat → Int64}
noncomputable def kw_ct (c : Nat → Nat → Int32) (r : Int32) (n : Nat) : Int32 := kv_sm n (fun k => if ¬ c k 11 = 0 ∧ ¬ c k 5 = 2 ∧ c k 5 = r then 1 else 0)
theorem kw_ct_r (c : Nat → Nat → Int32) (r : Int32) : ∀ n, n ≤ 8 → 0 ≤ (kw_ct c r n).toInt ∧ (kw_ct c r n).toInt ≤ n := by
  intro n
  induction n with
  | zero => intro _; exact (show 0 ≤ (0 : Int32).toInt ∧ (0 : Int32).toInt ≤ ((0 : Nat) : Int) from by decide)
  | succ n ih =>
    intro h
    obtain ⟨h1, h2⟩ := ih (by omega)
    unfold kw_ct at h1 h2 ⊢
    rw [kv_sm_s]
    by_cases q : ¬ c n 11 = 0 ∧ ¬ c n 5 = 2 ∧ c n 5 = r
    · rw [if_pos q, kw_tadd (by rw [kw_1t]; omega) (by rw [kw_1t]; omega), kw_1t]
      omega
    · rw [if_neg q, Int32.add_zero]
      omega
theorem kw_contK (hK : kw_KK n z) (r : Int32) : kv_Rn (d + 3) 120 0 [some (.ref 0), some (.int r), none, none, none] [] (kv_h e z zl) = some (some (.int (kw_ct (kc z 36) r n)), kv_h e z zl) := by
  have h8 := hK.1.2
  have hl := kv_up (fun k => ∀ u4, kv_Rn (d + 3) 120 4 [some (.ref 0), some (.int r), some (.int (kw_ct (kc z 36) r k)), some (.int (Int32.ofNat k)), u4] [] (kv_h e z zl) = some (some (.int (kw_ct (kc z 36) r n)), kv_h e z zl)) n ?_ ?_
  · simp only [kv_e120_0, kv_e120_1, kv_e120_2, kv_e120_3, kv_o10, not_false_eq_true, not_true, if_true, if_false, kv_then_s, kv_then_v, kv_then_n, List.cons_append, List.nil_append, kv_Ci, kv_Cr, kv_Cn, kv_Cu, kv_C0, kv_catc, kv_gCi, kv_gCl, kv_gCr, kv_nb0, kv_nb1, kv_nbi, kv_nb01, Nat.reduceAdd, Nat.reduceLeDiff]
    exact hl none
  · intro u4
    rw [kv_e120_4]
    simp only [kv_e120_0, kv_e120_1, kv_e120_2, kv_e120_3, kv_e120_5, kv_e120_6, kv_e120_9, kv_e120_12, kv_e120_15, kv_e120_16, kv_e120_19, kv_e120_20, kv_e120_21, kv_e120_24, kv_e120_26, kv_e120_27, kv_e120_30, kv_e120_31, kv_e120_34, kv_e120_37, kv_e120_39, kv_e120_40, kv_e120_43, kv_e120_45, kv_e120_46, kv_e120_49, kv_e120_52, kv_e120_55, kv_e120_58, kv_e120_59, kv_o10, not_false_eq_true, not_true, if_true, if_false, kv_then_s, kv_then_v, kv_then_n, List.cons_append, List.nil_append, kv_Ci, kv_Cr, kv_Cn, kv_Cu, kv_C0, kv_catc, kv_gCi, kv_gCl, kv_gCr, kv_nb0, kv_nb1, kv_nbi, kv_nb01, Nat.reduceAdd, Nat.reduceLeDiff, kv_isF3, hK.1.1, kw_ln2 h8 (show n < 2147483648 by omega), Nat.le_refl]
  · intro k hk ih u4
    have hk8 : k < 8 := by omega
    have hk2 : k < 2147483648 := by omega
    have ih := ih (some (.int (kc z 36 k 5)))
    unfold kw_ct at ih ⊢
    rw [kv_sm_s k] at ih
    rw [kv_e120_4, ← ih]
    by_cases c1 : kc z 36 k 11 = 0
    · rw [if_neg (fun q => q.1 c1), Int32.add_zero]
      simp only [kv_e120_0, kv_e120_1, kv_e120_2, kv_e120_3, kv_e120_5, kv_e120_6, kv_e120_9, kv_e120_12, kv_e120_15, kv_e120_16, kv_e120_19, kv_e120_20, kv_e120_21, kv_e120_24, kv_e120_26, kv_e120_27, kv_e120_30, kv_e120_31, kv_e120_34, kv_e120_37, kv_e120_39, kv_e120_40, kv_e120_43, kv_e120_45, kv_e120_46, kv_e120_49, kv_e120_52, kv_e120_55, kv_e120_58, kv_e120_59, kv_o10, not_false_eq_true, not_true, if_true, if_false, kv_then_s, kv_then_v, kv_then_n, List.cons_append, List.nil_append, kv_Ci, kv_Cr, kv_Cn, kv_Cu, kv_C0, kv_catc, kv_gCi, kv_gCl, kv_gCr, kv_nb0, kv_nb1, kv_nbi, kv_nb01, Nat.reduceAdd, Nat.reduceLeDiff, kv_isF3, hK.1.1, kw_ln2 h8 hk2, eq_false (show ¬ n ≤ k by omega), kv_isS36, kv_get, kv_flies, kv_g5 z 36 hk8, kv_g11 z 36 hk8, c1, eq_self, kv_suc]
    · by_cases c2 : kc z 36 k 5 = 2
      · rw [if_neg (fun q => q.2.1 c2), Int32.add_zero]
        simp only [kv_e120_0, kv_e120_1, kv_e120_2, kv_e120_3, kv_e120_5, kv_e120_6, kv_e120_9, kv_e120_12, kv_e120_15, kv_e120_16, kv_e120_19, kv_e120_20, kv_e120_21, kv_e120_24, kv_e120_26, kv_e120_27, kv_e120_30, kv_e120_31, kv_e120_34, kv_e120_37, kv_e120_39, kv_e120_40, kv_e120_43, kv_e120_45, kv_e120_46, kv_e120_49, kv_e120_52, kv_e120_55, kv_e120_58, kv_e120_59, kv_o10, not_false_eq_true, not_true, if_true, if_false, kv_then_s, kv_then_v, kv_then_n, List.cons_append, List.nil_append, kv_Ci, kv_Cr, kv_Cn, kv_Cu, kv_C0, kv_catc, kv_gCi, kv_gCl, kv_gCr, kv_nb0, kv_nb1, kv_nbi, kv_nb01, Nat.reduceAdd, Nat.reduceLeDiff, kv_isF3, hK.1.1, kw_ln2 h8 hk2, eq_false (show ¬ n ≤ k by omega), kv_isS36, kv_get, kv_flies, kv_g5 z 36 hk8, kv_g11 z 36 hk8, c1, c2, eq_self, kv_suc]
      · by_cases c3 : kc z 36 k 5 = r
        · rw [if_pos ⟨c1, c2, c3⟩]
          simp only [kv_e120_0, kv_e120_1, kv_e120_2, kv_e120_3, kv_e120_5, kv_e120_6, kv_e120_9, kv_e120_12, kv_e120_15, kv_e120_16, kv_e120_19, kv_e120_20, kv_e120_21, kv_e120_24, kv_e120_26, kv_e120_27, kv_e120_30, kv_e120_31, kv_e120_34, kv_e120_37, kv_e120_39, kv_e120_40, kv_e120_43, kv_e120_45, kv_e120_46, kv_e120_49, kv_e120_52, kv_e120_55, kv_e120_58, kv_e120_59, kv_o10, not_false_eq_true, not_true, if_true, if_false, kv_then_s, kv_then_v, kv_then_n, List.cons_append, List.nil_append, kv_Ci, kv_Cr, kv_Cn, kv_Cu, kv_C0, kv_catc, kv_gCi, kv_gCl, kv_gCr, kv_nb0, kv_nb1, kv_nbi, kv_nb01, Nat.reduceAdd, Nat.reduceLeDiff, kv_isF3, hK.1.1, kw_ln2 h8 hk2, eq_false (show ¬ n ≤ k by omega), kv_isS36, kv_get, kv_flies, kv_g5 z 36 hk8, kv_g11 z 36 hk8, c1, c2, eq_true c3, kv_suc]
        · rw [if_neg (fun q => c3 q.2.2), Int32.add_zero]
          simp only [kv_e120_0, kv_e120_1, kv_e120_2, kv_e120_3, kv_e120_5, kv_e120_6, kv_e120_9, kv_e120_12, kv_e120_15, kv_e120_16, kv_e120_19, kv_e120_20, kv_e120_21, kv_e120_24, kv_e120_26, kv_e120_27, kv_e120_30, kv_e120_31, kv_e120_34, kv_e120_37, kv_e120_39, kv_e120_40, kv_e120_43, kv_e120_45, kv_e120_46, kv_e120_49, kv_e120_52, kv_e120_55, kv_e120_58, kv_e120_59, kv_o10, not_false_eq_true, not_true, if_true, if_false, kv_then_s, kv_then_v, kv_then_n, List.cons_append, List.nil_append, kv_Ci, kv_Cr, kv_Cn, kv_Cu, kv_C0, kv_catc, kv_gCi, kv_gCl, kv_gCr, kv_nb0, kv_nb1, kv_nbi, kv_nb01, Nat.reduceAdd, Nat.reduceLeDiff, kv_isF3, hK.1.1, kw_ln2 h8 hk2, eq_false (show ¬ n ≤ k by omega), kv_isS36, kv_get, kv_flies, kv_g5 z 36 hk8, kv_g11 z 36 hk8, c1, c2, c3, kv_suc]
theorem kw_fly_ci (h : kw_R n B W zK zM) (M : Nat) : ∀ T i, kw_fly (kw_lf zK (zK 7 2)) (kw_lf zK (zK 7 3)) (kw_mwin zM) (zM 14 3) T (Int32.ofNat (M + i)) (fun _ => -1) (kw_ci zK zM M i) = kw_ci zK zM M (i + T) := by
  intro T
  induction T with
  | zero => intro i; rfl
  | succ T ih =>
    intro i
    have := ih (i + 1)
    rw [show i + 1 + T = i + (T + 1) from by omega] at this
    rw [← this]
    show kw_fly _ _ _ _ T (Int32.ofNat (M + i) + 1) (fun i => kw_dc (-1)) _ = kw_fly _ _ _ _ T (Int32.ofNat (M + (i + 1))) (fun _ => -1) _
    rw [kv_suc]
    rfl
theorem kw_ci_w (M : Nat) {w : Nat} (hw : w ≠ 3 ∧ w ≠ 4 ∧ w ≠ 9 ∧ w ≠ 11) (k : Nat) : ∀ i, kw_ci zK zM M i k w = km zM k w := by
  intro i
  induction i with
  | zero => rfl
  | succ i ih => exact (kw_passM_w hw k).trans ih
theorem kw_contM (h : kw_R n B W zK zM) (hx : kw_XM zM z) {b : Nat} (hb : b ≤ 60) : ∃ z', kv_Rn (d + 9) 254 0 [some (.ref 0), some (.int (Int32.ofNat b)), none, none, none, none, none] [] (kv_m z zlM) = some (some (.int (kw_ct (km zM) (kv_rs (zM 14 2) (kw_ci zK zM 0 b)) n)), kv_m z' zlM) ∧ kw_XM zM z' := by
  have hI := kw_R_I h
  have h8 := hI.1.1.1.2
  have hK := kw_J_K h hx
  have ek : km z = km zM := kw_km_fr (hx 16 (by omega) (by omega) (by omega) (by omega) (by omega) (by omega))
  have e14 : z 14 = zM 14 := hx 14 (by omega) (by omega) (by omega) (by omega) (by omega) (by omega)
  obtain ⟨y1, s1, j1⟩ := kw_aside' (d := d + 7) (zlM := zlM) hx
  have f14 : y1 14 = zM 14 := j1.1 14 (by omega) (by omega) (by omega) (by omega) (by omega) (by omega)
  generalize hy3 : kv_z (kv_z y1 14 (upd (y1 14) 1 (Int32.ofNat b))) 16 (upd (y1 16) 104 0) = y3
  have a14 : y3 14 = upd (zM 14) 1 (Int32.ofNat b) := by rw [← hy3, kv_zne _ _ (by omega), kv_zs, f14]
  have a16 : ∀ i, y3 16 i = if i = 104 then 0 else y1 16 i := fun i => by rw [← hy3, kv_zs]; rfl
  have ao : ∀ c, c ≠ 14 → c ≠ 16 → y3 c = y1 c := fun c q1 q2 => by rw [← hy3, kv_zne _ _ q2, kv_zne _ _ q1]
  have k3 : km y3 = km zM := by
    rw [← kw_J_km j1]
    funext k w
    unfold km
    by_cases q : k < 8 ∧ w < 13
    · have := kw_sg_lt q.2
      rw [if_pos q, if_pos q, a16, if_neg (by omega)]
    · rw [if_neg q, if_neg q]
  have I1 := kw_Z_I h (kw_J_Z j1).1 (by rw [kw_J_km j1]; exact hI.1.1.2) (by rw [kw_J_km j1]; exact hI.2.2.2.1)
  have e0 : y3 0 = y1 0 := ao 0 (by omega) (by omega)
  have e15 : y3 15 = y1 15 := ao 15 (by omega) (by omega)
  have w3 : kw_mwin y3 = kw_mwin zM := by
    unfold kw_mwin
    rw [e0, e15, j1.1 0 (by omega) (by omega) (by omega) (by omega) (by omega) (by omega), j1.1 15 (by omega) (by omega) (by omega) (by omega) (by omega) (by omega)]
  have p3 : y3 14 3 = zM 14 3 := by rw [a14]; rfl
  have I3 : kw_I n (kw_lf zK (zK 7 2)) (kw_lf zK (zK 7 3)) y3 := by
    obtain ⟨⟨⟨b1, b2⟩, b3⟩, ⟨b4, b5⟩, b6, b7, b8⟩ := I1
    refine ⟨⟨⟨by rw [e0]; exact b1, by rw [k3]; exact hI.1.1.2⟩, by unfold kw_mair; rw [e0]; exact b3⟩, ⟨by rw [e0]; exact kw_MR_fr b4 (fun c q1 q2 => ao c (by omega) (by omega)), by rw [e0]; exact kw_MR_fr b5 (fun c q1 q2 => ao c (by omega) (by omega))⟩, by rw [w3]; exact hI.2.2.1, by rw [k3]; exact hI.2.2.2.1, by rw [p3]; exact hI.2.2.2.2⟩
  obtain ⟨z4, r4, q4, k4, m4, I4, n4⟩ := kw_toBell (d := d + 1) (zl := zlM) b 0 y3 (fun _ => -1) 0 I3 (by rw [a16, if_pos rfl]; rfl) (by rw [a14, Nat.zero_add]; exact if_pos rfl) (by omega) (fun i hi => by rw [ao 17 (by omega) (by omega)]; exact j1.2.2 i (by omega))
  rw [w3, p3, k3, show Int32.ofNat 0 = Int32.ofNat (0 + 0) from rfl] at k4
  have k4' : km z4 = kw_ci zK zM 0 b := by
    rw [k4, show km zM = kw_ci zK zM 0 0 from rfl, kw_fly_ci h 0 b 0, Nat.zero_add]
  have b14 : z4 14 = upd (zM 14) 1 (Int32.ofNat b) := by rw [q4.1 14 (by omega) (by omega) (by omega) (by omega) (by omega), a14]
  have b142 : z4 14 2 = zM 14 2 := by rw [b14]; rfl
  have r4' : kv_Rn (d + 8) 238 0 [some (.ref 0), none] [] (kv_m y3 zlM) = some (some (.int ((0 : Int32) ||| kw_cb (km y3) (km z4) 8)), kv_m z4 zlM) := by
    simp only [kv_e238_0, kv_e238_1, kv_o10, not_false_eq_true, not_true, if_true, if_false, kv_then_s, kv_then_v, kv_then_n, List.cons_append, List.nil_append, kv_Ci, kv_Cr, kv_Cn, kv_Cu, kv_C0, kv_catc, kv_gCi, kv_gCl, kv_gCr, kv_nb0, kv_nb1, kv_nbi, kv_nb01, Nat.reduceAdd, Nat.reduceLeDiff]
    exact r4
  generalize hrs : kv_rs (zM 14 2) (kw_ci zK zM 0 b) = r
  have hR : kv_Rn (d + 8) 218 0 [some (.ref 0), none] [] (kv_m z4 zlM) = some (some (.int r), kv_m z4 zlM) := by
    rw [kw_resultNow (d := d + 4) I4.1.1, b142, k4', hrs]
  -- back
  have z5 : kw_Z zM (kv_z z4 14 (upd (z4 14) 1 (zM 14 1))) := by
    refine ⟨fun c a1 a2 a3 a4 a5 a6 a7 => ?_, fun i hi => ?_, fun i hi => ?_⟩
    · by_cases q : c = 14
      · subst q
        rw [kv_zs, b14]
        funext i
        unfold upd
        by_cases qi : i = 1
        · rw [if_pos qi, qi]
        · rw [if_neg qi, if_neg qi]
      · rw [kv_zne _ _ q, q4.1 c a1 a2 a3 a4 a5, ao c q a3]
        exact (kw_J_Z j1).1 c a1 a2 a3 a4 a5 a6 a7
    · rw [kv_zne _ _ (by omega), q4.2 i hi, a16, if_neg (by omega)]
      exact (kw_J_Z j1).2.1 i hi
    · rw [kv_zne _ _ (by omega), q4.1 20 (by omega) (by omega) (by omega) (by omega) (by omega), ao 20 (by omega) (by omega)]
      exact j1.2.1 i hi
  obtain ⟨y6, s6, j6⟩ := kw_backM (d := d + 7) (zlM := zlM) z5
  refine ⟨y6, ?_, j6.1⟩
  have hl := kv_up (fun k => kv_Rn (d + 9) 254 48 [some (.ref 0), some (.int (Int32.ofNat b)), some (.int (zM 14 1)), some (.int (kw_fs (km zM))), some (.int r), some (.int (kw_ct (km zM) r k)), some (.int (Int32.ofNat k))] [] (kv_m z4 zlM) = some (some (.int (kw_ct (km zM) r n)), kv_m y6 zlM)) n ?_ ?_
  · have r14 : ∀ i, kv_rd z 14 i = zM 14 i := fun i => by rw [kv_rd_lt (by omega), e14]
    have f16 : kv_z y1 14 (upd (y1 14) 1 (Int32.ofNat b)) 16 = y1 16 := kv_zne _ _ (by omega)
    simp only [kv_e254_0, kv_e254_1, kv_e254_4, kv_e254_5, kv_e254_6, kv_e254_7, kv_e254_8, kv_e254_11, kv_e254_12, kv_e254_13, kv_e254_16, kv_e254_17, kv_e254_20, kv_e254_21, kv_e254_22, kv_e254_23, kv_e254_24, kv_e254_27, kv_e254_29, kv_e254_30, kv_e254_31, kv_e254_32, kv_e254_35, kv_e254_36, kv_e254_37, kv_e254_40, kv_e254_42, kv_e254_43, kv_e254_45, kv_e254_46, kv_o10, not_false_eq_true, not_true, if_true, if_false, kv_then_s, kv_then_v, kv_then_n, List.cons_append, List.nil_append, kv_Ci, kv_Cr, kv_Cn, kv_Cu, kv_C0, kv_catc, kv_gCi, kv_gCl, kv_gCr, kv_nb0, kv_nb1, kv_nbi, kv_nb01, Nat.reduceAdd, Nat.reduceLeDiff, kv_ar_lt (show 14 < 300 by omega), r14, kv_am14, kw_p1, kw_t1, kw_flying hK, ek, s1, kv_am16, kv_l104, kv_t104, or_self, f16, hy3, r4', hR]
    exact hl
  · rw [kv_e254_48]
    simp only [kv_e254_50, kv_e254_51, kv_e254_54, kv_e254_100, kv_e254_101, kv_e254_104, kv_e254_105, kv_e254_106, kv_e254_107, kv_e254_108, kv_e254_111, kv_e254_113, kv_o10, not_false_eq_true, not_true, if_true, if_false, kv_then_s, kv_then_v, kv_then_n, List.cons_append, List.nil_append, kv_Ci, kv_Cr, kv_Cn, kv_Cu, kv_C0, kv_catc, kv_gCi, kv_gCl, kv_gCr, kv_nb0, kv_nb1, kv_nbi, kv_nb01, Nat.reduceAdd, Nat.reduceLeDiff, I4.1.1.1.1, kw_ln2 h8 (show n < 2147483648 by omega), Nat.le_refl, kv_am14, kw_p1, kw_t1, or_self, s6]
  · intro k hk ih
    have hk8 : k < 8 := by omega
    have hk2 : k < 2147483648 := by omega
    have hb1 : ((kw_fs (km zM) >>> (Int32.ofNat k &&& 31)) &&& 1 = 1) = ¬ km zM k 11 = 0 := by
      unfold kw_fs
      rw [kw_bs_bit _ hk8]
      by_cases q : km zM k 11 = 0 <;> simp [q]
    have k5 : km z4 k 5 = km zM k 5 := by rw [k4', kw_ci_w 0 (by omega)]
    have ih := ih
    unfold kw_ct at ih ⊢
    rw [kv_sm_s k] at ih
    rw [kv_e254_48, ← ih]
    by_cases c1 : km zM k 11 = 0
    · rw [if_neg (fun q => q.1 c1), Int32.add_zero]
      simp only [kv_e254_0, kv_e254_1, kv_e254_4, kv_e254_5, kv_e254_6, kv_e254_7, kv_e254_8, kv_e254_11, kv_e254_12, kv_e254_13, kv_e254_16, kv_e254_17, kv_e254_20, kv_e254_21, kv_e254_22, kv_e254_23, kv_e254_24, kv_e254_27, kv_e254_29, kv_e254_30, kv_e254_31, kv_e254_32, kv_e254_35, kv_e254_36, kv_e254_37, kv_e254_40, kv_e254_42, kv_e254_43, kv_e254_45, kv_e254_46, kv_e254_50, kv_e254_51, kv_e254_54, kv_e254_57, kv_e254_59, kv_e254_60, kv_e254_62, kv_e254_65, kv_e254_68, kv_e254_70, kv_e254_71, kv_e254_74, kv_e254_75, kv_e254_77, kv_e254_78, kv_e254_81, kv_e254_83, kv_e254_86, kv_e254_87, kv_e254_90, kv_e254_91, kv_e254_92, kv_e254_94, kv_e254_97, kv_e254_100, kv_e254_101, kv_e254_104, kv_e254_105, kv_e254_106, kv_e254_107, kv_e254_108, kv_e254_111, kv_e254_113, kv_o10, not_false_eq_true, not_true, if_true, if_false, kv_then_s, kv_then_v, kv_then_n, List.cons_append, List.nil_append, kv_Ci, kv_Cr, kv_Cn, kv_Cu, kv_C0, kv_catc, kv_gCi, kv_gCl, kv_gCr, kv_nb0, kv_nb1, kv_nbi, kv_nb01, Nat.reduceAdd, Nat.reduceLeDiff, I4.1.1.1.1, kw_ln2 h8 hk2, eq_false (show ¬ n ≤ k by omega), kw_has, hb1, c1, eq_self, Int32.add_zero, kv_suc]
    · by_cases c2 : r = 2
      · rw [if_neg (fun q => q.2.1 (q.2.2.trans c2)), Int32.add_zero]
        simp only [kv_e254_0, kv_e254_1, kv_e254_4, kv_e254_5, kv_e254_6, kv_e254_7, kv_e254_8, kv_e254_11, kv_e254_12, kv_e254_13, kv_e254_16, kv_e254_17, kv_e254_20, kv_e254_21, kv_e254_22, kv_e254_23, kv_e254_24, kv_e254_27, kv_e254_29, kv_e254_30, kv_e254_31, kv_e254_32, kv_e254_35, kv_e254_36, kv_e254_37, kv_e254_40, kv_e254_42, kv_e254_43, kv_e254_45, kv_e254_46, kv_e254_50, kv_e254_51, kv_e254_54, kv_e254_57, kv_e254_59, kv_e254_60, kv_e254_62, kv_e254_65, kv_e254_68, kv_e254_70, kv_e254_71, kv_e254_74, kv_e254_75, kv_e254_77, kv_e254_78, kv_e254_81, kv_e254_83, kv_e254_86, kv_e254_87, kv_e254_90, kv_e254_91, kv_e254_92, kv_e254_94, kv_e254_97, kv_e254_100, kv_e254_101, kv_e254_104, kv_e254_105, kv_e254_106, kv_e254_107, kv_e254_108, kv_e254_111, kv_e254_113, kv_o10, not_false_eq_true, not_true, if_true, if_false, kv_then_s, kv_then_v, kv_then_n, List.cons_append, List.nil_append, kv_Ci, kv_Cr, kv_Cn, kv_Cu, kv_C0, kv_catc, kv_gCi, kv_gCl, kv_gCr, kv_nb0, kv_nb1, kv_nbi, kv_nb01, Nat.reduceAdd, Nat.reduceLeDiff, I4.1.1.1.1, kw_ln2 h8 hk2, eq_false (show ¬ n ≤ k by omega), kw_has, hb1, c1, c2, eq_self, Int32.add_zero, kv_suc]
      · by_cases c3 : km zM k 5 = r
        · rw [if_pos ⟨c1, by rw [c3]; exact c2, c3⟩]
          simp only [kv_e254_0, kv_e254_1, kv_e254_4, kv_e254_5, kv_e254_6, kv_e254_7, kv_e254_8, kv_e254_11, kv_e254_12, kv_e254_13, kv_e254_16, kv_e254_17, kv_e254_20, kv_e254_21, kv_e254_22, kv_e254_23, kv_e254_24, kv_e254_27, kv_e254_29, kv_e254_30, kv_e254_31, kv_e254_32, kv_e254_35, kv_e254_36, kv_e254_37, kv_e254_40, kv_e254_42, kv_e254_43, kv_e254_45, kv_e254_46, kv_e254_50, kv_e254_51, kv_e254_54, kv_e254_57, kv_e254_59, kv_e254_60, kv_e254_62, kv_e254_65, kv_e254_68, kv_e254_70, kv_e254_71, kv_e254_74, kv_e254_75, kv_e254_77, kv_e254_78, kv_e254_81, kv_e254_83, kv_e254_86, kv_e254_87, kv_e254_90, kv_e254_91, kv_e254_92, kv_e254_94, kv_e254_97, kv_e254_100, kv_e254_101, kv_e254_104, kv_e254_105, kv_e254_106, kv_e254_107, kv_e254_108, kv_e254_111, kv_e254_113, kv_o10, not_false_eq_true, not_true, if_true, if_false, kv_then_s, kv_then_v, kv_then_n, List.cons_append, List.nil_append, kv_Ci, kv_Cr, kv_Cn, kv_Cu, kv_C0, kv_catc, kv_gCi, kv_gCl, kv_gCr, kv_nb0, kv_nb1, kv_nbi, kv_nb01, Nat.reduceAdd, Nat.reduceLeDiff, I4.1.1.1.1, kw_ln2 h8 hk2, eq_false (show ¬ n ≤ k by omega), kw_has, hb1, c1, c2, kw_of4 hk8, k5, c3, eq_self, kv_suc]
        · rw [if_neg (fun q => c3 q.2.2), Int32.add_zero]
          simp only [kv_e254_0, kv_e254_1, kv_e254_4, kv_e254_5, kv_e254_6, kv_e254_7, kv_e254_8, kv_e254_11, kv_e254_12, kv_e254_13, kv_e254_16, kv_e254_17, kv_e254_20, kv_e254_21, kv_e254_22, kv_e254_23, kv_e254_24, kv_e254_27, kv_e254_29, kv_e254_30, kv_e254_31, kv_e254_32, kv_e254_35, kv_e254_36, kv_e254_37, kv_e254_40, kv_e254_42, kv_e254_43, kv_e254_45, kv_e254_46, kv_e254_50, kv_e254_51, kv_e254_54, kv_e254_57, kv_e254_59, kv_e254_60, kv_e254_62, kv_e254_65, kv_e254_68, kv_e254_70, kv_e254_71, kv_e254_74, kv_e254_75, kv_e254_77, kv_e254_78, kv_e254_81, kv_e254_83, kv_e254_86, kv_e254_87, kv_e254_90, kv_e254_91, kv_e254_92, kv_e254_94, kv_e254_97, kv_e254_100, kv_e254_101, kv_e254_104, kv_e254_105, kv_e254_106, kv_e254_107, kv_e254_108, kv_e254_111, kv_e254_113, kv_o10, not_false_eq_true, not_true, if_true, if_false, kv_then_s, kv_then_v, kv_then_n, List.cons_append, List.nil_append, kv_Ci, kv_Cr, kv_Cn, kv_Cu, kv_C0, kv_catc, kv_gCi, kv_gCl, kv_gCr, kv_nb0, kv_nb1, kv_nbi, kv_nb01, Nat.reduceAdd, Nat.reduceLeDiff, I4.1.1.1.1, kw_ln2 h8 hk2, eq_false (show ¬ n ≤ k by omega), kw_has, hb1, c1, c2, kw_of4 hk8, k5, c3, Int32.add_zero, kv_suc]
theorem kw_trial0 (h : kw_R n B W zK zM) : kw_XK zK (kv_z (kv_sc zK 39 36) 39 (upd (kv_sc zK 39 36 39) 3 0)) ∧ kc (kv_z (kv_sc zK 39 36) 39 (upd (kv_sc zK 39 36 39) 3 0)) 39 = kw_ci zK zM 0 0 ∧ kv_z (kv_sc zK 39 36) 39 (upd (kv_sc zK 39 36 39) 3 0) 39 3 = Int32.ofNat (0 + 0) := by
  refine ⟨fun c a1 a2 a3 a4 a5 a6 => (kv_zne _ _ a3).trans (kw_sc_fr zK a3 a4 a5), ?_, ?_⟩
  · rw [kw_kc_fr (z := kv_sc zK 39 36) (kv_zne _ _ (by omega)), kw_sc_kc]
    exact kw_R_km h.2.1.1
  · rw [kv_zs]
    rfl
theorem kw_f_content (h : kw_R n B W zK zM) (x : Int32) : kw_A (d + 12) 119 255 [some (.ref 0), some (.int x), none] [some (.ref 0), some (.int x)] zK zM zl zlM := by
  have hKK := kw_R_KK h
  have hI := kw_R_I h
  have h8 := hI.1.1.1.2
  have hF := h.1.2.2.1
  have e0 := kw_le0 hF.1.2.2
  by_cases c : n = 0
  · replace c := eq_true c
    refine kw_A0 (r := -1) h ?_ ?_
    · simp only [kv_e119_0, kv_e119_1, kv_e119_4, kv_e119_7, kv_e119_8, kv_e119_9, kv_e119_12, kv_e119_13, kv_e119_15, kv_e119_18, kv_e119_19, kv_e119_20, kv_e119_21, kv_e119_24, kv_e119_25, kv_e119_28, kv_e119_31, kv_e119_32, kv_e119_35, kv_e119_36, kv_e119_39, kv_e119_40, kv_e119_42, kv_e119_43, kv_e119_46, kv_e119_47, kv_e119_50, kv_e119_51, kv_e119_54, kv_e119_57, kv_e119_60, kv_e119_63, kv_e119_64, kv_e119_65, kv_e119_68, kv_e119_69, kv_e119_72, kv_e119_75, kv_e119_78, kv_o10, not_false_eq_true, not_true, if_true, if_false, kv_then_s, kv_then_v, kv_then_n, List.cons_append, List.nil_append, kv_Ci, kv_Cr, kv_Cn, kv_Cu, kv_C0, kv_catc, kv_gCi, kv_gCl, kv_gCr, kv_nb0, kv_nb1, kv_nbi, kv_nb01, Nat.reduceAdd, Nat.reduceLeDiff, kw_KhF h, c, eq_self]
    · simp only [kv_e255_0, kv_e255_1, kv_e255_4, kv_e255_7, kv_e255_8, kv_e255_9, kv_e255_11, kv_e255_14, kv_e255_17, kv_e255_18, kv_e255_19, kv_e255_22, kv_e255_25, kv_e255_26, kv_o10, not_false_eq_true, not_true, if_true, if_false, kv_then_s, kv_then_v, kv_then_n, List.cons_append, List.nil_append, kv_Ci, kv_Cr, kv_Cn, kv_Cu, kv_C0, kv_catc, kv_gCi, kv_gCl, kv_gCr, kv_nb0, kv_nb1, kv_nbi, kv_nb01, Nat.reduceAdd, Nat.reduceLeDiff, hF.1.2.1, e0, c, eq_self]
  · by_cases c1 : 1 ≤ x ∧ x ≤ 60
    · obtain ⟨b, b1, b2, rfl⟩ := kw_inN (N := 60) (by omega) c1.1 c1.2
      have n1 : (Int32.ofNat b < 1) = False := eq_false (Int32.not_lt.mpr c1.1)
      obtain ⟨y1, s1, j1⟩ := kw_contM (d := d + 2) (zlM := zlM) h (kw_XM_rf zM) b2
      have hl := kv_up (fun i => ∀ z, kw_XK zK z → kc z 39 = kw_ci zK zM 0 i → z 39 3 = Int32.ofNat (0 + i) → ∃ z', kv_Rn (d + 12) 119 41 [some (.ref 0), some (.int (Int32.ofNat b)), some (.int (Int32.ofNat i))] [] (kv_h [] z zl) = some (some (.int (kw_ct (km zM) (kv_rs (zM 14 2) (kw_ci zK zM 0 b)) n)), kv_h [] z' zl) ∧ kw_XK zK z') b ?_ ?_
      · obtain ⟨t1, t2, t3⟩ := kw_trial0 h
        obtain ⟨z', r', x'⟩ := hl _ t1 t2 t3
        refine kw_A2 (r := kw_ct (km zM) (kv_rs (zM 14 2) (kw_ci zK zM 0 b)) n) h ?_ ?_ x' j1
        · simp only [kv_e119_0, kv_e119_1, kv_e119_4, kv_e119_7, kv_e119_8, kv_e119_9, kv_e119_12, kv_e119_13, kv_e119_15, kv_e119_20, kv_e119_21, kv_e119_24, kv_e119_25, kv_e119_28, kv_e119_31, kv_e119_32, kv_e119_35, kv_e119_36, kv_e119_39, kv_e119_40, kv_o10, not_false_eq_true, not_true, if_true, if_false, kv_then_s, kv_then_v, kv_then_n, List.cons_append, List.nil_append, kv_Ci, kv_Cr, kv_Cn, kv_Cu, kv_C0, kv_catc, kv_gCi, kv_gCl, kv_gCr, kv_nb0, kv_nb1, kv_nbi, kv_nb01, Nat.reduceAdd, Nat.reduceLeDiff, kw_KhF h, c, eq_self, n1, c1.2, kv_isS36, kv_isS39, kv_copyS]
          exact r'
        · simp only [kv_e255_0, kv_e255_1, kv_e255_4, kv_e255_7, kv_e255_8, kv_e255_9, kv_e255_11, kv_e255_14, kv_e255_17, kv_e255_18, kv_e255_19, kv_e255_22, kv_e255_25, kv_e255_26, kv_o10, not_false_eq_true, not_true, if_true, if_false, kv_then_s, kv_then_v, kv_then_n, List.cons_append, List.nil_append, kv_Ci, kv_Cr, kv_Cn, kv_Cu, kv_C0, kv_catc, kv_gCi, kv_gCl, kv_gCr, kv_nb0, kv_nb1, kv_nbi, kv_nb01, Nat.reduceAdd, Nat.reduceLeDiff, hF.1.2.1, e0, c, kw_in, c1, and_self, s1]
      · intro z hx hc hm
        refine ⟨z, ?_, hx⟩
        obtain ⟨hK, ekz, e3, e36⟩ := kw_XK_KK h hx
        have e32 : z 3 2 = zM 14 2 := by rw [e3]; exact hF.2.1 2 (by omega)
        rw [kv_e119_41]
        simp only [kv_e119_42, kv_e119_43, kv_e119_63, kv_e119_64, kv_e119_65, kv_e119_68, kv_e119_69, kv_e119_72, kv_e119_75, kv_e119_78, kv_o10, not_false_eq_true, not_true, if_true, if_false, kv_then_s, kv_then_v, kv_then_n, List.cons_append, List.nil_append, kv_Ci, kv_Cr, kv_Cn, kv_Cu, kv_C0, kv_catc, kv_gCi, kv_gCl, kv_gCr, kv_nb0, kv_nb1, kv_nbi, kv_nb01, Nat.reduceAdd, Nat.reduceLeDiff, Int32.le_refl, kv_isS39, kv_resultOf, hc, e32, kw_contK hK, ekz]
      · intro i hi ih z hx hc hm
        obtain ⟨z2, r2, x2, c2, m2'⟩ := kw_stepK (d := d + 7) (e := []) (zl := zl) h hx hc hm
        obtain ⟨z', r', x'⟩ := ih z2 x2 c2 m2'
        refine ⟨z', ?_, x'⟩
        have q1 : (Int32.ofNat b ≤ Int32.ofNat i) = False := kv_ln_ hi (by omega)
        rw [← r', kv_e119_41]
        simp only [kv_e119_42, kv_e119_43, kv_e119_46, kv_e119_47, kv_e119_50, kv_e119_51, kv_e119_54, kv_e119_57, kv_e119_60, kv_o10, not_false_eq_true, not_true, if_true, if_false, kv_then_s, kv_then_v, kv_then_n, List.cons_append, List.nil_append, kv_Ci, kv_Cr, kv_Cn, kv_Cu, kv_C0, kv_catc, kv_gCi, kv_gCl, kv_gCr, kv_nb0, kv_nb1, kv_nbi, kv_nb01, Nat.reduceAdd, Nat.reduceLeDiff, q1, kv_isS39, r2, kv_suc]
    · refine kw_A0 (r := -1) h ?_ ?_
      · by_cases n1 : x < 1
        · simp only [kv_e119_0, kv_e119_1, kv_e119_4, kv_e119_7, kv_e119_8, kv_e119_9, kv_e119_12, kv_e119_13, kv_e119_15, kv_e119_18, kv_e119_19, kv_e119_20, kv_e119_21, kv_e119_24, kv_e119_25, kv_e119_28, kv_e119_31, kv_e119_32, kv_e119_35, kv_e119_36, kv_e119_39, kv_e119_40, kv_e119_42, kv_e119_43, kv_e119_46, kv_e119_47, kv_e119_50, kv_e119_51, kv_e119_54, kv_e119_57, kv_e119_60, kv_e119_63, kv_e119_64, kv_e119_65, kv_e119_68, kv_e119_69, kv_e119_72, kv_e119_75, kv_e119_78, kv_o10, not_false_eq_true, not_true, if_true, if_false, kv_then_s, kv_then_v, kv_then_n, List.cons_append, List.nil_append, kv_Ci, kv_Cr, kv_Cn, kv_Cu, kv_C0, kv_catc, kv_gCi, kv_gCl, kv_gCr, kv_nb0, kv_nb1, kv_nbi, kv_nb01, Nat.reduceAdd, Nat.reduceLeDiff, kw_KhF h, c, eq_self, n1]
        · have n2 : ¬ x ≤ 60 := fun q => c1 ⟨Int32.not_lt.mp n1, q⟩
          simp only [kv_e119_0, kv_e119_1, kv_e119_4, kv_e119_7, kv_e119_8, kv_e119_9, kv_e119_12, kv_e119_13, kv_e119_15, kv_e119_18, kv_e119_19, kv_e119_20, kv_e119_21, kv_e119_24, kv_e119_25, kv_e119_28, kv_e119_31, kv_e119_32, kv_e119_35, kv_e119_36, kv_e119_39, kv_e119_40, kv_e119_42, kv_e119_43, kv_e119_46, kv_e119_47, kv_e119_50, kv_e119_51, kv_e119_54, kv_e119_57, kv_e119_60, kv_e119_63, kv_e119_64, kv_e119_65, kv_e119_68, kv_e119_69, kv_e119_72, kv_e119_75, kv_e119_78, kv_o10, not_false_eq_true, not_true, if_true, if_false, kv_then_s, kv_then_v, kv_then_n, List.cons_append, List.nil_append, kv_Ci, kv_Cr, kv_Cn, kv_Cu, kv_C0, kv_catc, kv_gCi, kv_gCl, kv_gCr, kv_nb0, kv_nb1, kv_nbi, kv_nb01, Nat.reduceAdd, Nat.reduceLeDiff, kw_KhF h, c, eq_self, n1, n2]
      · simp only [kv_e255_0, kv_e255_1, kv_e255_4, kv_e255_7, kv_e255_8, kv_e255_9, kv_e255_11, kv_e255_14, kv_e255_17, kv_e255_18, kv_e255_19, kv_e255_22, kv_e255_25, kv_e255_26, kv_o10, not_false_eq_true, not_true, if_true, if_false, kv_then_s, kv_then_v, kv_then_n, List.cons_append, List.nil_append, kv_Ci, kv_Cr, kv_Cn, kv_Cu, kv_C0, kv_catc, kv_gCi, kv_gCl, kv_gCr, kv_nb0, kv_nb1, kv_nbi, kv_nb01, Nat.reduceAdd, Nat.reduceLeDiff, hF.1.2.1, e0, c, kw_in, c1, eq_self]
theorem kw_f_ringer (h : kw_R n B W zK zM) (w : Int32) : kw_A (d + 12) 121 256 [some (.ref 0), some (.int w), none, none, none, none] [some (.ref 0), some (.int w), none, none, none, none] zK zM zl zlM := by
  have hKK := kw_R_KK h
  have hI := kw_R_I h
  have h8 := hI.1.1.1.2
  have hF := h.1.2.2.1
  have ez : (zM 0 24 = 0) = (n = 0) := by
    rw [hF.1.2.1, show (0 : Int32) = Int32.ofNat 0 from rfl, kv_neq (by omega) (by omega)]
  by_cases c : n = 0
  · replace c := eq_true c
    refine kw_A0 (r := -1) h ?_ ?_
    · simp only [kv_e121_0, kv_e121_1, kv_e121_4, kv_e121_7, kv_e121_8, kv_e121_9, kv_e121_12, kv_e121_15, kv_e121_16, kv_e121_17, kv_e121_18, kv_e121_21, kv_e121_22, kv_e121_25, kv_e121_28, kv_e121_29, kv_e121_32, kv_e121_33, kv_e121_36, kv_e121_37, kv_e121_38, kv_e121_39, kv_e121_40, kv_e121_41, kv_e121_45, kv_e121_47, kv_e121_50, kv_e121_51, kv_e121_54, kv_e121_55, kv_e121_58, kv_e121_61, kv_e121_62, kv_e121_63, kv_e121_66, kv_e121_67, kv_e121_70, kv_e121_73, kv_e121_76, kv_e121_78, kv_e121_80, kv_e121_81, kv_e121_84, kv_e121_86, kv_e121_87, kv_e121_89, kv_e121_90, kv_e121_93, kv_e121_96, kv_e121_97, kv_e121_100, kv_e121_101, kv_e121_104, kv_e121_105, kv_o10, not_false_eq_true, not_true, if_true, if_false, kv_then_s, kv_then_v, kv_then_n, List.cons_append, List.nil_append, kv_Ci, kv_Cr, kv_Cn, kv_Cu, kv_C0, kv_catc, kv_gCi, kv_gCl, kv_gCr, kv_nb0, kv_nb1, kv_nbi, kv_nb01, Nat.reduceAdd, Nat.reduceLeDiff, kw_KhF h, c, eq_self]
    · simp only [kv_e256_0, kv_e256_1, kv_e256_4, kv_e256_7, kv_e256_8, kv_e256_9, kv_e256_10, kv_e256_13, kv_e256_16, kv_e256_17, kv_e256_18, kv_e256_19, kv_e256_20, kv_e256_21, kv_e256_22, kv_e256_23, kv_e256_27, kv_e256_29, kv_e256_32, kv_e256_33, kv_e256_35, kv_e256_38, kv_e256_40, kv_e256_42, kv_e256_43, kv_e256_46, kv_e256_48, kv_e256_51, kv_e256_52, kv_e256_53, kv_e256_54, kv_e256_56, kv_e256_59, kv_e256_60, kv_e256_63, kv_e256_66, kv_e256_67, kv_e256_70, kv_e256_71, kv_e256_74, kv_e256_75, kv_o10, not_false_eq_true, not_true, if_true, if_false, kv_then_s, kv_then_v, kv_then_n, List.cons_append, List.nil_append, kv_Ci, kv_Cr, kv_Cn, kv_Cu, kv_C0, kv_catc, kv_gCi, kv_gCl, kv_gCr, kv_nb0, kv_nb1, kv_nbi, kv_nb01, Nat.reduceAdd, Nat.reduceLeDiff, ez, c, eq_self]
  · by_cases c1 : 0 ≤ w ∧ w ≤ 1
    · generalize hv : (fun p => kw_ct (km zM) (kv_rs (zM 14 2) (kw_ci zK zM 0 p)) n) = v
      have hvp : ∀ p, kw_ct (km zM) (kv_rs (zM 14 2) (kw_ci zK zM 0 p)) n = v p := fun p => congrFun hv p
      generalize hq : (fun p : Nat => 1 ≤ p) = q
      have hqp : ∀ p, q p = (1 ≤ p) := fun p => (congrFun hq p).symm
      have hv0 : ∀ p, -1 < v p := fun p => by
        rw [← hvp p, Int32.lt_iff_toInt_lt]
        have h2 := (kw_ct_r (km zM) (kv_rs (zM 14 2) (kw_ci zK zM 0 p)) n h8).1
        show (-1 : Int) < _
        omega
      have hs := kw_fo_some (q := q) hv0 61 ⟨1, by omega, by rw [hqp]; omega⟩
      have f1 : kw_fo q v 1 = (none, -1) := kw_fo_0 (fun r => by have := r.1; rw [hqp] at this; omega)
      have s61 : ((60 : Int32) < Int32.ofNat 61) = True := by decide
      have sp : ∀ {p : Nat}, p < 61 → ((60 : Int32) < Int32.ofNat p) = False := fun {p} hp => by
        rw [show (60 : Int32) = Int32.ofNat 60 from rfl, kv_nlt (by omega) (by omega)]
        exact eq_false (by omega)
      have hlK := kv_upk (fun p => 1 ≤ p → ∀ z u5, kw_XK zK z → kc z 39 = kw_ci zK zM 0 (p - 1) → z 39 3 = Int32.ofNat (0 + (p - 1)) → ∃ z', kv_Rn (d + 12) 121 43 [some (.ref 0), some (.int w), some (.int (kw_ob 0 (kw_fo q v p).1)), some (.int (kw_fo q v p).2), some (.int (Int32.ofNat p)), u5] [] (kv_h [] z zl) = some (some (.int (if w = 0 then kw_ob 0 (kw_fo q v 61).1 else (kw_fo q v 61).2)), kv_h [] z' zl) ∧ kw_XK zK z') 61 ?_ ?_
      · have hlM := kv_upk (fun p => 1 ≤ p → ∀ z u5, kw_XM zM z → ∃ z', kv_Rn (d + 12) 256 25 [some (.ref 0), some (.int w), some (.int (kw_ob (-1) (kw_fo q v p).1)), some (.int (kw_fo q v p).2), some (.int (Int32.ofNat p)), u5] [] (kv_m z zlM) = some (some (.int (if w = 0 then kw_ob (-1) (kw_fo q v 61).1 else (kw_fo q v 61).2)), kv_m z' zlM) ∧ kw_XM zM z') 61 ?_ ?_
        · obtain ⟨t1, t2, t3⟩ := kw_trial0 h
          obtain ⟨z1, r1, x1⟩ := hlK 1 (by omega) (by omega) _ none t1 t2 t3
          obtain ⟨z2, r2, x2⟩ := hlM 1 (by omega) (by omega) zM none (kw_XM_rf zM)
          rw [kw_ob_eq (x := -1) (y := 0) hs] at r2
          rw [f1] at r1 r2
          refine kw_A2 (r := if w = 0 then kw_ob 0 (kw_fo q v 61).1 else (kw_fo q v 61).2) h ?_ ?_ x1 x2
          · simp only [kv_e121_0, kv_e121_1, kv_e121_4, kv_e121_7, kv_e121_8, kv_e121_9, kv_e121_12, kv_e121_17, kv_e121_18, kv_e121_21, kv_e121_22, kv_e121_25, kv_e121_28, kv_e121_29, kv_e121_32, kv_e121_33, kv_e121_36, kv_e121_37, kv_e121_38, kv_e121_39, kv_e121_40, kv_e121_41, kv_o10, not_false_eq_true, not_true, if_true, if_false, kv_then_s, kv_then_v, kv_then_n, List.cons_append, List.nil_append, kv_Ci, kv_Cr, kv_Cn, kv_Cu, kv_C0, kv_catc, kv_gCi, kv_gCl, kv_gCr, kv_nb0, kv_nb1, kv_nbi, kv_nb01, Nat.reduceAdd, Nat.reduceLeDiff, kw_KhF h, c, kw_isOut, c1, and_self, eq_self, kv_isS36, kv_isS39, kv_copyS]
            exact r1
          · simp only [kv_e256_0, kv_e256_1, kv_e256_4, kv_e256_7, kv_e256_8, kv_e256_9, kv_e256_10, kv_e256_13, kv_e256_18, kv_e256_19, kv_e256_20, kv_e256_21, kv_e256_22, kv_e256_23, kv_o10, not_false_eq_true, not_true, if_true, if_false, kv_then_s, kv_then_v, kv_then_n, List.cons_append, List.nil_append, kv_Ci, kv_Cr, kv_Cn, kv_Cu, kv_C0, kv_catc, kv_gCi, kv_gCl, kv_gCr, kv_nb0, kv_nb1, kv_nbi, kv_nb01, Nat.reduceAdd, Nat.reduceLeDiff, ez, c, kw_in, c1, and_self]
            exact r2
        · intro _ z u5 hx
          refine ⟨z, ?_, hx⟩
          rw [kv_e256_25]
          by_cases w0 : w = 0
          · simp only [kv_e256_27, kv_e256_29, kv_e256_66, kv_e256_67, kv_e256_70, kv_e256_71, kv_e256_75, kv_o10, not_false_eq_true, not_true, if_true, if_false, kv_then_s, kv_then_v, kv_then_n, List.cons_append, List.nil_append, kv_Ci, kv_Cr, kv_Cn, kv_Cu, kv_C0, kv_catc, kv_gCi, kv_gCl, kv_gCr, kv_nb0, kv_nb1, kv_nbi, kv_nb01, Nat.reduceAdd, Nat.reduceLeDiff, s61, w0, eq_self]
          · simp only [kv_e256_27, kv_e256_29, kv_e256_66, kv_e256_67, kv_e256_74, kv_e256_75, kv_o10, not_false_eq_true, not_true, if_true, if_false, kv_then_s, kv_then_v, kv_then_n, List.cons_append, List.nil_append, kv_Ci, kv_Cr, kv_Cn, kv_Cu, kv_C0, kv_catc, kv_gCi, kv_gCl, kv_gCr, kv_nb0, kv_nb1, kv_nbi, kv_nb01, Nat.reduceAdd, Nat.reduceLeDiff, s61, w0]
        · intro p hp ih h1 z u5 hx
          obtain ⟨y1, s1, x1⟩ := kw_contM (d := d + 2) (zlM := zlM) h hx (show p ≤ 60 by omega)
          rw [hvp p] at s1
          have qp : q p := by rw [hqp]; exact h1
          by_cases c7 : (kw_fo q v p).2 < v p
          · rw [kw_fo_1 ⟨qp, c7⟩] at ih
            obtain ⟨z', r', x'⟩ := ih (by omega) y1 (some (.int (v p))) x1
            refine ⟨z', ?_, x'⟩
            have mx : kv_mx (kw_fo q v p).2 (v p) = v p := if_pos c7
            have c8 : ¬ v p ≤ (kw_fo q v p).2 := Int32.not_le.mpr c7
            rw [← r', kv_e256_25]
            simp only [kv_e256_0, kv_e256_1, kv_e256_4, kv_e256_7, kv_e256_8, kv_e256_9, kv_e256_10, kv_e256_13, kv_e256_16, kv_e256_17, kv_e256_18, kv_e256_19, kv_e256_20, kv_e256_21, kv_e256_22, kv_e256_23, kv_e256_27, kv_e256_29, kv_e256_32, kv_e256_33, kv_e256_35, kv_e256_38, kv_e256_40, kv_e256_42, kv_e256_43, kv_e256_46, kv_e256_48, kv_e256_51, kv_e256_52, kv_e256_53, kv_e256_54, kv_e256_56, kv_e256_59, kv_e256_60, kv_e256_63, kv_e256_66, kv_e256_67, kv_e256_70, kv_e256_71, kv_e256_74, kv_e256_75, kv_o10, not_false_eq_true, not_true, if_true, if_false, kv_then_s, kv_then_v, kv_then_n, List.cons_append, List.nil_append, kv_Ci, kv_Cr, kv_Cn, kv_Cu, kv_C0, kv_catc, kv_gCi, kv_gCl, kv_gCr, kv_nb0, kv_nb1, kv_nbi, kv_nb01, Nat.reduceAdd, Nat.reduceLeDiff, sp hp, s1, c8, mx, kv_suc, kw_ob]
          · rw [kw_fo_0 (fun r => c7 r.2)] at ih
            obtain ⟨z', r', x'⟩ := ih (by omega) y1 (some (.int (v p))) x1
            refine ⟨z', ?_, x'⟩
            have mx : kv_mx (kw_fo q v p).2 (v p) = (kw_fo q v p).2 := if_neg c7
            have c8 : v p ≤ (kw_fo q v p).2 := Int32.not_lt.mp c7
            rw [← r', kv_e256_25]
            simp only [kv_e256_0, kv_e256_1, kv_e256_4, kv_e256_7, kv_e256_8, kv_e256_9, kv_e256_10, kv_e256_13, kv_e256_16, kv_e256_17, kv_e256_18, kv_e256_19, kv_e256_20, kv_e256_21, kv_e256_22, kv_e256_23, kv_e256_27, kv_e256_29, kv_e256_32, kv_e256_33, kv_e256_35, kv_e256_38, kv_e256_40, kv_e256_42, kv_e256_43, kv_e256_46, kv_e256_48, kv_e256_51, kv_e256_52, kv_e256_53, kv_e256_54, kv_e256_56, kv_e256_59, kv_e256_60, kv_e256_63, kv_e256_66, kv_e256_67, kv_e256_70, kv_e256_71, kv_e256_74, kv_e256_75, kv_o10, not_false_eq_true, not_true, if_true, if_false, kv_then_s, kv_then_v, kv_then_n, List.cons_append, List.nil_append, kv_Ci, kv_Cr, kv_Cn, kv_Cu, kv_C0, kv_catc, kv_gCi, kv_gCl, kv_gCr, kv_nb0, kv_nb1, kv_nbi, kv_nb01, Nat.reduceAdd, Nat.reduceLeDiff, sp hp, s1, c8, mx, kv_suc]
      · intro _ z u5 hx hc hm
        refine ⟨z, ?_, hx⟩
        rw [kv_e121_43]
        by_cases w0 : w = 0
        · simp only [kv_e121_45, kv_e121_47, kv_e121_96, kv_e121_97, kv_e121_100, kv_e121_101, kv_e121_105, kv_o10, not_false_eq_true, not_true, if_true, if_false, kv_then_s, kv_then_v, kv_then_n, List.cons_append, List.nil_append, kv_Ci, kv_Cr, kv_Cn, kv_Cu, kv_C0, kv_catc, kv_gCi, kv_gCl, kv_gCr, kv_nb0, kv_nb1, kv_nbi, kv_nb01, Nat.reduceAdd, Nat.reduceLeDiff, s61, w0, eq_self]
        · simp only [kv_e121_45, kv_e121_47, kv_e121_96, kv_e121_97, kv_e121_104, kv_e121_105, kv_o10, not_false_eq_true, not_true, if_true, if_false, kv_then_s, kv_then_v, kv_then_n, List.cons_append, List.nil_append, kv_Ci, kv_Cr, kv_Cn, kv_Cu, kv_C0, kv_catc, kv_gCi, kv_gCl, kv_gCr, kv_nb0, kv_nb1, kv_nbi, kv_nb01, Nat.reduceAdd, Nat.reduceLeDiff, s61, w0]
      · intro p hp ih h1 z u5 hx hc hm
        have qp : q p := by rw [hqp]; exact h1
        obtain ⟨z2, r2, x2, c2, m2'⟩ := kw_stepK (d := d + 7) (e := []) (zl := zl) h hx hc hm
        rw [show p - 1 + 1 = p from by omega] at c2 m2'
        obtain ⟨hK, ekz, e3, e36⟩ := kw_XK_KK h x2
        have e32 : z2 3 2 = zM 14 2 := by rw [e3]; exact hF.2.1 2 (by omega)
        have ht : kv_rs (z2 3 2) (kc z2 39) = kv_rs (zM 14 2) (kw_ci zK zM 0 p) := by rw [e32, c2]
        have hc2 : kw_ct (kc z2 36) (kv_rs (zM 14 2) (kw_ci zK zM 0 p)) n = v p := by rw [ekz, hvp p]
        by_cases c7 : (kw_fo q v p).2 < v p
        · rw [kw_fo_1 ⟨qp, c7⟩] at ih
          obtain ⟨z', r', x'⟩ := ih (by omega) z2 (some (.int (v p))) x2 c2 m2'
          refine ⟨z', ?_, x'⟩
          have c8 : ¬ v p ≤ (kw_fo q v p).2 := Int32.not_le.mpr c7
          rw [← r', kv_e121_43]
          simp only [kv_e121_0, kv_e121_1, kv_e121_4, kv_e121_7, kv_e121_8, kv_e121_9, kv_e121_12, kv_e121_15, kv_e121_16, kv_e121_17, kv_e121_18, kv_e121_21, kv_e121_22, kv_e121_25, kv_e121_28, kv_e121_29, kv_e121_32, kv_e121_33, kv_e121_36, kv_e121_37, kv_e121_38, kv_e121_39, kv_e121_40, kv_e121_41, kv_e121_45, kv_e121_47, kv_e121_50, kv_e121_51, kv_e121_54, kv_e121_55, kv_e121_58, kv_e121_61, kv_e121_62, kv_e121_63, kv_e121_66, kv_e121_67, kv_e121_70, kv_e121_73, kv_e121_76, kv_e121_78, kv_e121_80, kv_e121_81, kv_e121_84, kv_e121_86, kv_e121_87, kv_e121_89, kv_e121_90, kv_e121_93, kv_e121_96, kv_e121_97, kv_e121_100, kv_e121_101, kv_e121_104, kv_e121_105, kv_o10, not_false_eq_true, not_true, if_true, if_false, kv_then_s, kv_then_v, kv_then_n, List.cons_append, List.nil_append, kv_Ci, kv_Cr, kv_Cn, kv_Cu, kv_C0, kv_catc, kv_gCi, kv_gCl, kv_gCr, kv_nb0, kv_nb1, kv_nbi, kv_nb01, Nat.reduceAdd, Nat.reduceLeDiff, sp hp, kv_isS39, r2, kv_resultOf, ht, kw_contK hK, hc2, c8, kv_suc, kw_ob]
        · rw [kw_fo_0 (fun r => c7 r.2)] at ih
          obtain ⟨z', r', x'⟩ := ih (by omega) z2 (some (.int (v p))) x2 c2 m2'
          refine ⟨z', ?_, x'⟩
          have c8 : v p ≤ (kw_fo q v p).2 := Int32.not_lt.mp c7
          rw [← r', kv_e121_43]
          simp only [kv_e121_0, kv_e121_1, kv_e121_4, kv_e121_7, kv_e121_8, kv_e121_9, kv_e121_12, kv_e121_15, kv_e121_16, kv_e121_17, kv_e121_18, kv_e121_21, kv_e121_22, kv_e121_25, kv_e121_28, kv_e121_29, kv_e121_32, kv_e121_33, kv_e121_36, kv_e121_37, kv_e121_38, kv_e121_39, kv_e121_40, kv_e121_41, kv_e121_45, kv_e121_47, kv_e121_50, kv_e121_51, kv_e121_54, kv_e121_55, kv_e121_58, kv_e121_61, kv_e121_62, kv_e121_63, kv_e121_66, kv_e121_67, kv_e121_70, kv_e121_73, kv_e121_76, kv_e121_78, kv_e121_80, kv_e121_81, kv_e121_84, kv_e121_86, kv_e121_87, kv_e121_89, kv_e121_90, kv_e121_93, kv_e121_96, kv_e121_97, kv_e121_100, kv_e121_101, kv_e121_104, kv_e121_105, kv_o10, not_false_eq_true, not_true, if_true, if_false, kv_then_s, kv_then_v, kv_then_n, List.cons_append, List.nil_append, kv_Ci, kv_Cr, kv_Cn, kv_Cu, kv_C0, kv_catc, kv_gCi, kv_gCl, kv_gCr, kv_nb0, kv_nb1, kv_nbi, kv_nb01, Nat.reduceAdd, Nat.reduceLeDiff, sp hp, kv_isS39, r2, kv_resultOf, ht, kw_contK hK, hc2, c8, kv_suc]
    · refine kw_A0 (r := -1) h ?_ ?_
      · simp only [kv_e121_0, kv_e121_1, kv_e121_4, kv_e121_7, kv_e121_8, kv_e121_9, kv_e121_12, kv_e121_15, kv_e121_16, kv_e121_17, kv_e121_18, kv_e121_21, kv_e121_22, kv_e121_25, kv_e121_28, kv_e121_29, kv_e121_32, kv_e121_33, kv_e121_36, kv_e121_37, kv_e121_38, kv_e121_39, kv_e121_40, kv_e121_41, kv_e121_45, kv_e121_47, kv_e121_50, kv_e121_51, kv_e121_54, kv_e121_55, kv_e121_58, kv_e121_61, kv_e121_62, kv_e121_63, kv_e121_66, kv_e121_67, kv_e121_70, kv_e121_73, kv_e121_76, kv_e121_78, kv_e121_80, kv_e121_81, kv_e121_84, kv_e121_86, kv_e121_87, kv_e121_89, kv_e121_90, kv_e121_93, kv_e121_96, kv_e121_97, kv_e121_100, kv_e121_101, kv_e121_104, kv_e121_105, kv_o10, not_false_eq_true, not_true, if_true, if_false, kv_then_s, kv_then_v, kv_then_n, List.cons_append, List.nil_append, kv_Ci, kv_Cr, kv_Cn, kv_Cu, kv_C0, kv_catc, kv_gCi, kv_gCl, kv_gCr, kv_nb0, kv_nb1, kv_nbi, kv_nb01, Nat.reduceAdd, Nat.reduceLeDiff, kw_KhF h, c, kw_isOut, c1, eq_self]
      · simp only [kv_e256_0, kv_e256_1, kv_e256_4, kv_e256_7, kv_e256_8, kv_e256_9, kv_e256_10, kv_e256_13, kv_e256_16, kv_e256_17, kv_e256_18, kv_e256_19, kv_e256_20, kv_e256_21, kv_e256_22, kv_e256_23, kv_e256_27, kv_e256_29, kv_e256_32, kv_e256_33, kv_e256_35, kv_e256_38, kv_e256_40, kv_e256_42, kv_e256_43, kv_e256_46, kv_e256_48, kv_e256_51, kv_e256_52, kv_e256_53, kv_e256_54, kv_e256_56, kv_e256_59, kv_e256_60, kv_e256_63, kv_e256_66, kv_e256_67, kv_e256_70, kv_e256_71, kv_e256_74, kv_e256_75, kv_o10, not_false_eq_true, not_true, if_true, if_false, kv_then_s, kv_then_v, kv_then_n, List.cons_append, List.nil_append, kv_Ci, kv_Cr, kv_Cn, kv_Cu, kv_C0, kv_catc, kv_gCi, kv_gCl, kv_gCr, kv_nb0, kv_nb1, kv_nbi, kv_nb01, Nat.reduceAdd, Nat.reduceLeDiff, ez, c, kw_in, c1, eq_self]
end
