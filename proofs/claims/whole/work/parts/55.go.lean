/-! a minute keeps the relation; go -/
section
variable {d n B W : Nat} {e : List kv_E} {z zK zM zK' zM' : Nat → Nat → Int32} {zl zlM : Nat → Nat → Int64}
theorem kw_passM_12 {fl fw : Option ((Nat → Int32) → Int32)} {wd : Int32 → Int32 → Int32} {pays m : Int32} {md : Nat → Int32} {c : Nat → Nat → Int32} (k : Nat) : kw_passM fl fw wd pays m md c k 12 = c k 12 := by
  have h1 : kw_climbM fl wd pays m md c k 12 = c k 12 := by
    unfold kw_climbM
    split
    · rfl
    · rfl
  have h2 : kw_rub1 fw m (kw_climbM fl wd pays m md c) k 12 = kw_climbM fl wd pays m md c k 12 := by
    unfold kw_rub1
    split
    · rfl
    · rfl
  unfold kw_passM kw_rub kw_cut
  split
  · exact h2.trans h1
  · exact h2.trans h1
theorem kw_passM_0 {fl fw : Option ((Nat → Int32) → Int32)} {wd : Int32 → Int32 → Int32} {pays m : Int32} {md : Nat → Int32} {c : Nat → Nat → Int32} (k : Nat) : kw_passM fl fw wd pays m md c k 0 = c k 0 := by
  have h1 : kw_climbM fl wd pays m md c k 0 = c k 0 := by
    unfold kw_climbM
    split
    · rfl
    · rfl
  have h2 : kw_rub1 fw m (kw_climbM fl wd pays m md c) k 0 = kw_climbM fl wd pays m md c k 0 := by
    unfold kw_rub1
    split
    · rfl
    · rfl
  unfold kw_passM kw_rub kw_cut
  split
  · exact h2.trans h1
  · exact h2.trans h1
theorem kw_vk_eq {z' z : Nat → Nat → Int32} {a : Nat} {c : Nat → Nat → Int32} {m : Int32} (h1 : kc z' a = c) (h2 : z' (a + 2) = z (a + 2)) (h3 : z' a = upd (z a) 3 m) : kw_vk z' a = (c, (kw_vk z a).2.1, (kw_vk z a).2.2.1, m, (kw_vk z a).2.2.2.2) := by
  unfold kw_vk
  rw [h1, h2, h3]
  rfl
theorem kw_vm_eq {z' z : Nat → Nat → Int32} {c : Nat → Nat → Int32} {m : Int32} (h1 : km z' = c) (h2 : ∀ i, 105 ≤ i → z' 16 i = z 16 i) (h3 : z' 16 104 = m) : kw_vm z' 16 0 = (c, (kw_vm z 16 0).2.1, (kw_vm z 16 0).2.2.1, m, (kw_vm z 16 0).2.2.2.2) := by
  refine Prod.ext ?_ (Prod.ext ?_ (Prod.ext ?_ (Prod.ext ?_ ?_)))
  · rw [kw_vm_km]
    exact h1
  · funext i
    unfold kw_vm
    dsimp only
    rw [h2 _ (by omega)]
  · exact h2 _ (by omega)
  · exact h3
  · exact h2 _ (by omega)
theorem kw_md_1 {dl : Nat → Int32} {c : Nat → Nat → Int32} : kw_md (fun _ => -1) c = fun k => c k 8 := rfl
theorem kw_R_cells {zK' zM' : Nat → Nat → Int32} (h : kw_R n B W zK zM) (k : ∀ c, c ≠ 36 → c ≠ 37 → c ≠ 34 → c ≠ 35 → zK' c = zK c) (m : ∀ c, c ≠ 9 → c ≠ 10 → c ≠ 16 → c ≠ 17 → c ≠ 18 → zM' c = zM c) (hN : kw_RN n B W zK' zM') : kw_R n B W zK' zM' := by
  obtain ⟨⟨hT, hA, hF, hL⟩, ⟨-, hI, hC⟩, hE, hG⟩ := h
  have m0 := m 0 (by omega) (by omega) (by omega) (by omega) (by omega)
  exact ⟨⟨kw_RT_fr hT (k 1 (by omega) (by omega) (by omega) (by omega)) (k 2 (by omega) (by omega) (by omega) (by omega)) (by rw [m0]) (m 1 (by omega) (by omega) (by omega) (by omega) (by omega)), kw_RA_fr hA (fun c a b => k c (by omega) (by omega) (by omega) (by omega)) (by rw [m0]) (m 15 (by omega) (by omega) (by omega) (by omega) (by omega)), kw_RF_fr hF (k 3 (by omega) (by omega) (by omega) (by omega)) (by rw [m0]) (m 14 (by omega) (by omega) (by omega) (by omega) (by omega)), kw_RL_fr hL (fun c a b => k c (by omega) (by omega) (by omega) (by omega)) (by rw [m0]; exact ⟨rfl, rfl, rfl⟩) (fun c a b => m c (by omega) (by omega) (by omega) (by omega) (by omega))⟩, ⟨hN, kw_RI_fr hI (by rw [k 0 (by omega) (by omega) (by omega) (by omega)]) (fun c a b => k c (by omega) (by omega) (by omega) (by omega)) (by rw [m0]) (m 25 (by omega) (by omega) (by omega) (by omega) (by omega)), kw_RC_fr hC (fun c a b => k c (by omega) (by omega) (by omega) (by omega)) (by rw [m0]) (m 19 (by omega) (by omega) (by omega) (by omega) (by omega))⟩, kw_RE_fr hE (fun c a b => k c (by omega) (by omega) (by omega) (by omega)) (by rw [m0]) (fun c a b => m c (by omega) (by omega) (by omega) (by omega) (by omega)), kw_RG_fr hG (by rw [k 0 (by omega) (by omega) (by omega) (by omega)]) (by rw [m0])⟩
theorem kw_passR {dK dM M : Nat} (h : kw_R n B W zK zM) (hd : ∀ i, i < n → zM 17 i = -1) (hM : zK 36 3 = Int32.ofNat M) (hB : M < B) : ∃ zK1 zM1 r, (kv_Rn (dK + 4) 22 0 [some (.ref 33), some (.ref 36)] [] (kv_h e zK zl) = some (none, kv_h e zK1 zl) ∧ kv_Rn (dM + 6) 215 0 [some (.ref 0)] [] (kv_m zM zlM) = some (some (.int r), kv_m zM1 zlM)) ∧ kw_R n B W zK1 zM1 ∧ (∀ i, i < n → zM1 17 i = -1) ∧ zK1 36 3 = Int32.ofNat (M + 1) := by
  have hI := kw_R_I h
  have ek := kw_R_km h.2.1.1
  obtain ⟨em, M', m1, m2, m3, m4, m5⟩ := kw_R_min h
  obtain ⟨z1, r1, p1, q1, c1⟩ := kw_passS (d := dK) (e := e) (z := zK) (zl := zl) (kv_isS36 e) (by omega) (kw_R_air h)
  obtain ⟨z2, r2, p2, q2, d2, I2⟩ := kw_mpassS (d := dM) (zl := zlM) hI (by rw [← em, hM]; exact kw_okm_of (by omega))
  have e3 : zK 3 3 = zM 14 3 := h.1.2.2.1.2.1 3 (by omega)
  have ec : kw_pass zK (zK 36 3) (kc zK 36) = kw_passM (kw_lf zK (zK 7 2)) (kw_lf zK (zK 7 3)) (kw_mwin zM) (zM 14 3) (zM 16 104) (kw_md (zM 17) (km zM)) (km zM) := by
    rw [kw_passK, ek, kw_R_win h.1.2.1, e3, em]
    exact kw_passM_md hI.1.1.2 (fun k hk => (hd k hk).symm)
  rw [ec] at c1
  have v1 := kw_vk_eq c1 (p1 38 (by omega) (by omega) (by omega) (by omega)) q1
  have v2 := kw_vm_eq q2 p2.1.2 p2.2
  refine ⟨z1, z2, _, ⟨r1, r2⟩, kw_R_cells h (fun c a1 a2 a3 a4 => p1 c a1 a2 a3 a4) p2.1.1 ⟨?_, ?_⟩, fun i hi => ?_, ?_⟩
  · rw [v1, v2, h.2.1.1.1, em]
  · rw [v1]
    obtain ⟨⟨s1, s2⟩, s3, s4, s5, s6⟩ := h.2.1.1.2
    have e2 : (kw_vk zK 36).1 = km zM := ek
    refine ⟨⟨?_, ?_⟩, ⟨M + 1, by omega, ?_⟩, s4, fun k => ?_, fun k hk => ?_⟩
    · exact kw_passM_ok hI.2.2.2.1 hI.2.2.2.2
    · exact kw_passM_01 hI.1.1.2
    · show zK 36 3 + 1 = _
      rw [hM, kv_suc]
    · show (kw_passM (kw_lf zK (zK 7 2)) (kw_lf zK (zK 7 3)) (kw_mwin zM) (zM 14 3) (zM 16 104) (kw_md (zM 17) (km zM)) (km zM) k 12 = 0 ∨ kw_passM (kw_lf zK (zK 7 2)) (kw_lf zK (zK 7 3)) (kw_mwin zM) (zM 14 3) (zM 16 104) (kw_md (zM 17) (km zM)) (km zM) k 12 = 1) ∧ (n ≤ k → kw_passM (kw_lf zK (zK 7 2)) (kw_lf zK (zK 7 3)) (kw_mwin zM) (zM 14 3) (zM 16 104) (kw_md (zM 17) (km zM)) (km zM) k 12 = 0)
      rw [kw_passM_12]
      have := s5 k
      rw [e2] at this
      exact this
    · have hk' : ¬ kw_passM (kw_lf zK (zK 7 2)) (kw_lf zK (zK 7 3)) (kw_mwin zM) (zM 14 3) (zM 16 104) (kw_md (zM 17) (km zM)) (km zM) k 11 = 0 := hk
      have := s6 k
      rw [e2] at this
      show ∃ p, p < W ∧ kw_passM (kw_lf zK (zK 7 2)) (kw_lf zK (zK 7 3)) (kw_mwin zM) (zM 14 3) (zM 16 104) (kw_md (zM 17) (km zM)) (km zM) k 0 = Int32.ofNat p
      rw [kw_passM_0]
      exact this (fun q => hk' (kw_passM_11 q))
  · rw [d2 i, if_pos hi, hd i hi]
    rfl
  · rw [q1, hM]
    show Int32.ofNat M + 1 = _
    rw [kv_suc]
theorem kw_KareAhead (h : kw_R n B W zK zM) {M : Nat} (hM : zK 36 3 = Int32.ofNat M) (hB : M ≤ B) (x : Int32) : kv_Rn (d + 1) 143 0 [some (.ref 0), some (.int x)] [] (kv_h e zK zl) = some (some (.int (if ¬ n = 0 ∧ 1 ≤ x ∧ x ≤ Int32.ofNat (B - M) then 1 else 0)), kv_h e zK zl) := by
  obtain ⟨em, M', m1, m2, m3, m4, m5⟩ := kw_R_min h
  have el : Int32.ofNat B - Int32.ofNat M = Int32.ofNat (B - M) := by
    have := @kw_subN M (B - M)
    rw [show M + (B - M) = B from by omega] at this
    exact this
  by_cases c : n = 0
  · replace c := eq_true c
    simp only [kv_e143_0, kv_e143_1, kv_e143_4, kv_e143_7, kv_e143_8, kv_e143_9, kv_e143_12, kv_e143_13, kv_e143_14, kv_e143_17, kv_e143_20, kv_e143_21, kv_e143_24, kv_e143_25, kv_o10, not_false_eq_true, not_true, if_true, if_false, kv_then_s, kv_then_v, kv_then_n, List.cons_append, List.nil_append, kv_Ci, kv_Cr, kv_Cn, kv_Cu, kv_C0, kv_catc, kv_gCi, kv_gCl, kv_gCr, kv_nb0, kv_nb1, kv_nbi, kv_nb01, Nat.reduceAdd, Nat.reduceLeDiff, kw_KhF h, c, eq_self, false_and]
  · by_cases c1 : x < 1
    · have c2 : ¬ 1 ≤ x := Int32.not_le.mpr c1
      simp only [kv_e143_0, kv_e143_1, kv_e143_4, kv_e143_7, kv_e143_8, kv_e143_9, kv_e143_12, kv_e143_13, kv_e143_14, kv_e143_17, kv_e143_20, kv_e143_21, kv_e143_24, kv_e143_25, kv_o10, not_false_eq_true, not_true, if_true, if_false, kv_then_s, kv_then_v, kv_then_n, List.cons_append, List.nil_append, kv_Ci, kv_Cr, kv_Cn, kv_Cu, kv_C0, kv_catc, kv_gCi, kv_gCl, kv_gCr, kv_nb0, kv_nb1, kv_nbi, kv_nb01, Nat.reduceAdd, Nat.reduceLeDiff, kw_KhF h, c, c1, c2, false_and, and_false]
    · have c2 : 1 ≤ x := Int32.not_lt.mp c1
      by_cases c3 : x ≤ Int32.ofNat (B - M)
      · have c4 : ¬ Int32.ofNat (B - M) < x := Int32.not_lt.mpr c3
        simp only [kv_e143_0, kv_e143_1, kv_e143_4, kv_e143_7, kv_e143_8, kv_e143_9, kv_e143_12, kv_e143_13, kv_e143_14, kv_e143_17, kv_e143_20, kv_e143_21, kv_e143_24, kv_e143_25, kv_o10, not_false_eq_true, not_true, if_true, if_false, kv_then_s, kv_then_v, kv_then_n, List.cons_append, List.nil_append, kv_Ci, kv_Cr, kv_Cn, kv_Cu, kv_C0, kv_catc, kv_gCi, kv_gCl, kv_gCr, kv_nb0, kv_nb1, kv_nbi, kv_nb01, Nat.reduceAdd, Nat.reduceLeDiff, kw_KhF h, c, c1, c2, kw_left, m4, hM, el, c3, c4, and_self]
      · have c4 : Int32.ofNat (B - M) < x := Int32.not_le.mp c3
        simp only [kv_e143_0, kv_e143_1, kv_e143_4, kv_e143_7, kv_e143_8, kv_e143_9, kv_e143_12, kv_e143_13, kv_e143_14, kv_e143_17, kv_e143_20, kv_e143_21, kv_e143_24, kv_e143_25, kv_o10, not_false_eq_true, not_true, if_true, if_false, kv_then_s, kv_then_v, kv_then_n, List.cons_append, List.nil_append, kv_Ci, kv_Cr, kv_Cn, kv_Cu, kv_C0, kv_catc, kv_gCi, kv_gCl, kv_gCr, kv_nb0, kv_nb1, kv_nbi, kv_nb01, Nat.reduceAdd, Nat.reduceLeDiff, kw_KhF h, c, c1, c2, kw_left, m4, hM, el, c3, c4, and_false]
theorem kw_MareAhead (h : kw_R n B W zK zM) {M : Nat} (hM : zK 36 3 = Int32.ofNat M) (hB : M ≤ B) (x : Int32) : kv_Rn (d + 1) 227 0 [some (.ref 0), some (.int x)] [] (kv_m zM zlM) = some (some (.int (if ¬ n = 0 ∧ 1 ≤ x ∧ x ≤ Int32.ofNat (B - M) then 1 else 0)), kv_m zM zlM) := by
  obtain ⟨em, M', m1, m2, m3, m4, m5⟩ := kw_R_min h
  have hF := h.1.2.2.1
  have e0 := kw_le0 hF.1.2.2
  have el : Int32.ofNat B - Int32.ofNat M = Int32.ofNat (B - M) := by
    have := @kw_subN M (B - M)
    rw [show M + (B - M) = B from by omega] at this
    exact this
  rw [hM] at em
  by_cases c : n = 0
  · replace c := eq_true c
    simp only [kv_e227_0, kv_e227_1, kv_e227_4, kv_e227_7, kv_e227_8, kv_e227_9, kv_e227_10, kv_e227_13, kv_e227_16, kv_e227_19, kv_e227_20, kv_e227_23, kv_e227_24, kv_o10, not_false_eq_true, not_true, if_true, if_false, kv_then_s, kv_then_v, kv_then_n, List.cons_append, List.nil_append, kv_Ci, kv_Cr, kv_Cn, kv_Cu, kv_C0, kv_catc, kv_gCi, kv_gCl, kv_gCr, kv_nb0, kv_nb1, kv_nbi, kv_nb01, Nat.reduceAdd, Nat.reduceLeDiff, hF.1.2.1, e0, c, eq_self, false_and]
  · by_cases c1 : 1 ≤ x ∧ x ≤ Int32.ofNat (B - M)
    · simp only [kv_e227_0, kv_e227_1, kv_e227_4, kv_e227_7, kv_e227_8, kv_e227_9, kv_e227_10, kv_e227_13, kv_e227_16, kv_e227_19, kv_e227_20, kv_e227_23, kv_e227_24, kv_o10, not_false_eq_true, not_true, if_true, if_false, kv_then_s, kv_then_v, kv_then_n, List.cons_append, List.nil_append, kv_Ci, kv_Cr, kv_Cn, kv_Cu, kv_C0, kv_catc, kv_gCi, kv_gCl, kv_gCr, kv_nb0, kv_nb1, kv_nbi, kv_nb01, Nat.reduceAdd, Nat.reduceLeDiff, hF.1.2.1, e0, c, kw_mleft, m5, ← em, el, kw_in, c1, and_self]
    · simp only [kv_e227_0, kv_e227_1, kv_e227_4, kv_e227_7, kv_e227_8, kv_e227_9, kv_e227_10, kv_e227_13, kv_e227_16, kv_e227_19, kv_e227_20, kv_e227_23, kv_e227_24, kv_o10, not_false_eq_true, not_true, if_true, if_false, kv_then_s, kv_then_v, kv_then_n, List.cons_append, List.nil_append, kv_Ci, kv_Cr, kv_Cn, kv_Cu, kv_C0, kv_catc, kv_gCi, kv_gCl, kv_gCr, kv_nb0, kv_nb1, kv_nbi, kv_nb01, Nat.reduceAdd, Nat.reduceLeDiff, hF.1.2.1, e0, c, kw_mleft, m5, ← em, el, kw_in, c1, eq_self, and_false]
theorem kw_inN {x : Int32} {N : Nat} (hN : N < 2147483648) (h1 : 1 ≤ x) (h2 : x ≤ Int32.ofNat N) : ∃ t, 1 ≤ t ∧ t ≤ N ∧ x = Int32.ofNat t := by
  have h0 : (0 : Int32) ≤ x := Int32.le_trans (by decide) h1
  obtain ⟨t, ht, rfl⟩ := kv_nat h0
  rw [show (1 : Int32) = Int32.ofNat 1 from rfl, kv_nle (by omega) ht] at h1
  rw [kv_nle ht hN] at h2
  exact ⟨t, h1, h2, rfl⟩
theorem kw_go_l {N : Nat} (hN : N < 1000) : ∀ (T i M : Nat) (zK zM : Nat → Nat → Int32), i + T = N → kw_R n B W zK zM → (∀ i, i < n → zM 17 i = -1) → zK 36 3 = Int32.ofNat M → M + T ≤ B →
    ∃ zK1 zM1, (kv_Rn (d + 12) 100 12 [some (.ref 0), some (.int (Int32.ofNat N)), some (.int (Int32.ofNat i))] [] (kv_h [] zK zl) = some (some (.int (Int32.ofNat (M + T))), kv_h [] zK1 zl) ∧ kv_Rn (d + 12) 228 16 [some (.ref 0), some (.int (Int32.ofNat N)), some (.int (Int32.ofNat i))] [] (kv_m zM zlM) = some (some (.int (Int32.ofNat (M + T))), kv_m zM1 zlM)) ∧ kw_R n B W zK1 zM1 := by
  intro T
  induction T with
  | zero =>
    intro i M zK zM hi h hd hM hB
    have em := (kw_R_min h).1
    have hiN : i = N := by omega
    subst hiN
    refine ⟨zK, zM, ⟨?_, ?_⟩, h⟩
    · rw [kv_e100_12]
      simp only [kv_e100_0, kv_e100_1, kv_e100_2, kv_e100_5, kv_e100_8, kv_e100_9, kv_e100_10, kv_e100_11, kv_e100_13, kv_e100_14, kv_e100_17, kv_e100_18, kv_e100_21, kv_e100_22, kv_e100_25, kv_e100_28, kv_e100_29, kv_e100_32, kv_e100_33, kv_e100_36, kv_e100_39, kv_e100_42, kv_e100_45, kv_e100_46, kv_e100_49, kv_e100_52, kv_o10, not_false_eq_true, not_true, if_true, if_false, kv_then_s, kv_then_v, kv_then_n, List.cons_append, List.nil_append, kv_Ci, kv_Cr, kv_Cn, kv_Cu, kv_C0, kv_catc, kv_gCi, kv_gCl, kv_gCr, kv_nb0, kv_nb1, kv_nbi, kv_nb01, Nat.reduceAdd, Nat.reduceLeDiff, kv_nle (show i < 2147483648 by omega) (show i < 2147483648 by omega), Nat.le_refl, kv_isS36, hM, Nat.add_zero]
    · rw [kv_e228_16]
      simp only [kv_e228_0, kv_e228_1, kv_e228_2, kv_e228_5, kv_e228_8, kv_e228_9, kv_e228_10, kv_e228_11, kv_e228_14, kv_e228_15, kv_e228_17, kv_e228_18, kv_e228_21, kv_e228_22, kv_e228_25, kv_e228_26, kv_e228_29, kv_e228_30, kv_e228_33, kv_e228_36, kv_e228_37, kv_e228_40, kv_e228_42, kv_e228_43, kv_o10, not_false_eq_true, not_true, if_true, if_false, kv_then_s, kv_then_v, kv_then_n, List.cons_append, List.nil_append, kv_Ci, kv_Cr, kv_Cn, kv_Cu, kv_C0, kv_catc, kv_gCi, kv_gCl, kv_gCr, kv_nb0, kv_nb1, kv_nbi, kv_nb01, Nat.reduceAdd, Nat.reduceLeDiff, kv_nle (show i < 2147483648 by omega) (show i < 2147483648 by omega), Nat.le_refl, kv_ar_lt (show 16 < 300 by omega), kv_rd_lt (show 16 < 300 by omega), kv_am16, kv_l104, kv_t104, or_self, ← em, hM, Nat.add_zero]
  | succ T ih =>
    intro i M zK zM hi h hd hM hB
    obtain ⟨zK1, zM1, ⟨r1, r2⟩, R1, k1, m1, m0⟩ := kw_keepR (d := d + 9) (dM := d + 11) (e := []) (zl := zl) (zlM := zlM) h
    obtain ⟨zK2, zM2, r, ⟨r3, r4⟩, R2, d2, M2⟩ := kw_passR (dK := d + 7) (dM := d + 5) (e := []) (zl := zl) (zlM := zlM) R1 (by rw [m1 17 (by omega) (by omega)]; exact hd) (by rw [k1 36 (by omega)]; exact hM) (show M < B by omega)
    obtain ⟨zK3, zM3, ⟨r5, r6⟩, R3⟩ := ih (i + 1) (M + 1) zK2 zM2 (by omega) R2 d2 M2 (by omega)
    rw [show M + 1 + T = M + (T + 1) from by omega] at r5 r6
    have q : (Int32.ofNat N ≤ Int32.ofNat i) = False := kv_ln_ (by omega) (by omega)
    refine ⟨zK3, zM3, ⟨?_, ?_⟩, R3⟩
    · rw [← r5, kv_e100_12]
      simp only [kv_e100_0, kv_e100_1, kv_e100_2, kv_e100_5, kv_e100_8, kv_e100_9, kv_e100_10, kv_e100_11, kv_e100_13, kv_e100_14, kv_e100_17, kv_e100_18, kv_e100_21, kv_e100_22, kv_e100_25, kv_e100_28, kv_e100_29, kv_e100_32, kv_e100_33, kv_e100_36, kv_e100_39, kv_e100_42, kv_e100_45, kv_e100_46, kv_e100_49, kv_e100_52, kv_o10, not_false_eq_true, not_true, if_true, if_false, kv_then_s, kv_then_v, kv_then_n, List.cons_append, List.nil_append, kv_Ci, kv_Cr, kv_Cn, kv_Cu, kv_C0, kv_catc, kv_gCi, kv_gCl, kv_gCr, kv_nb0, kv_nb1, kv_nbi, kv_nb01, Nat.reduceAdd, Nat.reduceLeDiff, q, r1, r3, kv_suc]
    · rw [← r6, kv_e228_16]
      simp only [kv_e228_0, kv_e228_1, kv_e228_2, kv_e228_5, kv_e228_8, kv_e228_9, kv_e228_10, kv_e228_11, kv_e228_14, kv_e228_15, kv_e228_17, kv_e228_18, kv_e228_21, kv_e228_22, kv_e228_25, kv_e228_26, kv_e228_29, kv_e228_30, kv_e228_33, kv_e228_36, kv_e228_37, kv_e228_40, kv_e228_42, kv_e228_43, kv_o10, not_false_eq_true, not_true, if_true, if_false, kv_then_s, kv_then_v, kv_then_n, List.cons_append, List.nil_append, kv_Ci, kv_Cr, kv_Cn, kv_Cu, kv_C0, kv_catc, kv_gCi, kv_gCl, kv_gCr, kv_nb0, kv_nb1, kv_nbi, kv_nb01, Nat.reduceAdd, Nat.reduceLeDiff, q, r2, r4, kv_suc]
theorem kw_nw17 (i : Nat) (h : i < 8) : kw_nw z 17 i = -1 := by
  unfold kw_nw
  rw [kv_zs]
  unfold kw_ov
  rw [if_pos (by omega)]
theorem kw_nw_XM : kw_XM z (kw_nw z) := fun c _ _ a3 _ _ _ => kv_zne _ _ a3
theorem kw_f_go (h : kw_R n B W zK zM) (x : Int32) : kw_A (d + 12) 100 228 [some (.ref 0), some (.int x), none] [some (.ref 0), some (.int x), none] zK zM zl zlM := by
  obtain ⟨em, M, m1, m2, m3, m4, m5⟩ := kw_R_min h
  by_cases c : ¬ n = 0 ∧ 1 ≤ x ∧ x ≤ Int32.ofNat (B - M)
  · obtain ⟨t, t1, t2, rfl⟩ := kw_inN (by omega) c.2.1 c.2.2
    have h8 := (kw_R_I h).1.1.1.2
    obtain ⟨zK1, zM1, ⟨r1, r2⟩, R1⟩ := kw_go_l (d := d) (zl := zl) (zlM := zlM) (N := t) (by omega) t 0 M zK (kw_nw zM) (by omega) (kw_R_fr h (kw_XK_rf _) kw_nw_XM) (fun i hi => kw_nw17 i (by omega)) m3 (by omega)
    refine kw_A1 (r := Int32.ofNat (M + t)) R1 ?_ ?_
    · simp only [kv_e100_0, kv_e100_1, kv_e100_2, kv_e100_5, kv_e100_10, kv_e100_11, kv_o10, not_false_eq_true, not_true, if_true, if_false, kv_then_s, kv_then_v, kv_then_n, List.cons_append, List.nil_append, kv_Ci, kv_Cr, kv_Cn, kv_Cu, kv_C0, kv_catc, kv_gCi, kv_gCl, kv_gCr, kv_nb0, kv_nb1, kv_nbi, kv_nb01, Nat.reduceAdd, Nat.reduceLeDiff, kw_KareAhead h m3 m1, c, and_self, eq_self]
      exact r1
    · simp only [kv_e228_0, kv_e228_1, kv_e228_2, kv_e228_5, kv_e228_10, kv_e228_11, kv_e228_14, kv_e228_15, kv_o10, not_false_eq_true, not_true, if_true, if_false, kv_then_s, kv_then_v, kv_then_n, List.cons_append, List.nil_append, kv_Ci, kv_Cr, kv_Cn, kv_Cu, kv_C0, kv_catc, kv_gCi, kv_gCl, kv_gCr, kv_nb0, kv_nb1, kv_nbi, kv_nb01, Nat.reduceAdd, Nat.reduceLeDiff, kw_MareAhead h m3 m1, c, and_self, eq_self, kw_nobody]
      exact r2
  · refine kw_A0 (r := -1) h ?_ ?_
    · simp only [kv_e100_0, kv_e100_1, kv_e100_2, kv_e100_5, kv_e100_8, kv_e100_9, kv_e100_10, kv_e100_11, kv_e100_13, kv_e100_14, kv_e100_17, kv_e100_18, kv_e100_21, kv_e100_22, kv_e100_25, kv_e100_28, kv_e100_29, kv_e100_32, kv_e100_33, kv_e100_36, kv_e100_39, kv_e100_42, kv_e100_45, kv_e100_46, kv_e100_49, kv_e100_52, kv_o10, not_false_eq_true, not_true, if_true, if_false, kv_then_s, kv_then_v, kv_then_n, List.cons_append, List.nil_append, kv_Ci, kv_Cr, kv_Cn, kv_Cu, kv_C0, kv_catc, kv_gCi, kv_gCl, kv_gCr, kv_nb0, kv_nb1, kv_nbi, kv_nb01, Nat.reduceAdd, Nat.reduceLeDiff, kw_KareAhead h m3 m1, c, eq_self]
    · simp only [kv_e228_0, kv_e228_1, kv_e228_2, kv_e228_5, kv_e228_8, kv_e228_9, kv_e228_10, kv_e228_11, kv_e228_14, kv_e228_15, kv_e228_17, kv_e228_18, kv_e228_21, kv_e228_22, kv_e228_25, kv_e228_26, kv_e228_29, kv_e228_30, kv_e228_33, kv_e228_36, kv_e228_37, kv_e228_40, kv_e228_42, kv_e228_43, kv_o10, not_false_eq_true, not_true, if_true, if_false, kv_then_s, kv_then_v, kv_then_n, List.cons_append, List.nil_append, kv_Ci, kv_Cr, kv_Cn, kv_Cu, kv_C0, kv_catc, kv_gCi, kv_gCl, kv_gCr, kv_nb0, kv_nb1, kv_nbi, kv_nb01, Nat.reduceAdd, Nat.reduceLeDiff, kw_MareAhead h m3 m1, c, eq_self]
end
