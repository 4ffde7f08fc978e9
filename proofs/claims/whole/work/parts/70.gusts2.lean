/-! gusts: both -/
section
variable {d n B W : Nat} {e : List kv_E} {z zK zM zK' zM' : Nat → Nat → Int32} {zl zlM : Nat → Nat → Int64}
theorem kw_rub_12 {fw : Option ((Nat → Int32) → Int32)} {m : Int32} {c : Nat → Nat → Int32} {w : Nat} (hw : w ≠ 3 ∧ w ≠ 4 ∧ w ≠ 9 ∧ w ≠ 11) (k : Nat) : kw_rub fw m c k w = c k w := by
  have h2 : kw_rub1 fw m c k w = c k w := by
    unfold kw_rub1
    split
    · exact if_neg hw.2.2.1
    · rfl
  unfold kw_rub kw_cut
  split
  · show (if w = 3 ∨ w = 4 ∨ w = 11 then _ else _) = _
    rw [if_neg (by omega), h2]
  · exact h2
theorem kw_rub_z11 {fw : Option ((Nat → Int32) → Int32)} {m : Int32} {c : Nat → Nat → Int32} {k : Nat} (h : c k 11 = 0) : kw_rub fw m c k 11 = 0 := by
  have h2 : kw_rub1 fw m c k 11 = c k 11 := by
    unfold kw_rub1
    split
    · rfl
    · rfl
  unfold kw_rub kw_cut
  split
  · rfl
  · rw [h2, h]
theorem kw_climbM_w {fl : Option ((Nat → Int32) → Int32)} {wd : Int32 → Int32 → Int32} {pays m : Int32} {md : Nat → Int32} {c : Nat → Nat → Int32} {w : Nat} (hw : w ≠ 3 ∧ w ≠ 4) (k : Nat) : kw_climbM fl wd pays m md c k w = c k w := by
  unfold kw_climbM
  split
  · rfl
  · unfold kw_cl kw_rh kw_rp
    exact (if_neg hw.2).trans (if_neg hw.1)
theorem kw_gustR {o dK dM M : Nat} (hD : kv_isD e o) (h : kw_R n B W zK zM) (hd : ∀ i, i < n → zM 17 i = -1) (hM : zK 36 3 = Int32.ofNat M) (hB : M < B) (hx : zl o 0 = zlM 0 34) (v1 v2 v3 v4 v5 : Option Value) (q4 : kv_c2 v4 = false) :
    ∃ zKa zKb zK1 zl1 zM1 zlM1, (kv_Rn (dK + 3) 23 0 [some (.ref 33), some (.ref 36), none, none, none, none] [] (kv_h e zK zl) = some (none, kv_h e zKa zl) ∧ kv_Rn (dK + 3) 24 0 [some (.ref 33), some (.ref 36), some (.ref o), some (.int (zKa 0 13)), none, none] [] (kv_h e zKa zl) = some (none, kv_h e zKb zl1) ∧ kv_Rn (dK + 3) 25 0 [some (.ref 33), some (.ref 36), none, none, none] [] (kv_h e zKb zl1) = some (none, kv_h e zK1 zl1)) ∧
      kv_Rn (dM + 6) 232 32 [some (.ref 0), v1, v2, v3, v4, v5] [] (kv_m zM zlM) = kv_Rn (dM + 6) 232 87 [some (.ref 0), v1, v2, v3, v4, some (.int (Int32.ofNat n))] [] (kv_m zM1 zlM1) ∧ kw_R n B W zK1 zM1 ∧ (∀ i, i < n → zM1 17 i = -1) ∧ zK1 36 3 = Int32.ofNat (M + 1) ∧ zl1 o 0 = zlM1 0 34 := by
  have hI := kw_R_I h
  have ek := kw_R_km h.2.1.1
  obtain ⟨em, M', m1, m2, m3, m4, m5⟩ := kw_R_min h
  have h8 := hI.1.1.1.2
  have e3 : zK 3 3 = zM 14 3 := h.1.2.2.1.2.1 3 (by omega)
  have eg : zK 0 13 = zM 0 29 := h.2.2.2
  have hm : kw_okm (zM 16 104) := by rw [← em, hM]; exact kw_okm_of (by omega)
  -- the climb
  obtain ⟨zKa, r1, p1, q1⟩ := kw_climbS (d := dK) (e := e) (z := zK) (zl := zl) (kv_isS36 e) (by omega) (kw_R_air h)
  obtain ⟨zMa, s1, n1, k1, d1⟩ := kw_riseS (d := dM) (z := zM) (zl := zlM) hI.1.1 hI.1.2 hI.2.1.1 hI.2.2.1 hm hI.2.2.2.1 hI.2.2.2.2
  generalize hcc : kw_climbM (kw_lf zK (zK 7 2)) (kw_mwin zM) (zM 14 3) (zM 16 104) (kw_md (zM 17) (km zM)) (km zM) = cc at k1
  have ec : kc zKa 36 = cc := by
    rw [q1, kw_climb_M, ek, kw_R_win h.1.2.1, e3, em, ← hcc]
    refine kw_climbM_md (fun k hk => ?_)
    have hkn := (kw_lt8 h hk).1
    unfold kw_md
    rw [if_pos (hd k hkn)]
  have okc : kw_okc cc := by rw [← hcc]; exact kw_climbM_ok hI.2.2.2.1 hI.2.2.2.2
  have o1c : kw_01 n cc := by rw [← hcc]; exact kw_climbM_01 hI.1.1.2
  have ewc : ∀ k w, w ≠ 3 ∧ w ≠ 4 → cc k w = km zM k w := fun k w hw => by rw [← hcc]; exact kw_climbM_w hw k
  -- the draws
  have ga : zKa 0 13 = zM 0 29 := by rw [p1 0 (by omega) (by omega) (by omega)]; exact eg
  have gb : zMa 0 29 = zM 0 29 := by rw [n1.1 0 (by omega) (by omega) (by omega) (by omega) (by omega)]
  obtain ⟨zKb, zl1, r2, p2, q2⟩ := kw_shake (d := dK + 1) (e := e) (z := zKa) (zl := zl) hD (zKa 0 13) (s := (cc, zlM 0 34)) ec hx
  have Ka : kw_K n zMa := kw_N_K hI.1.1 n1 (fun k => by rw [k1]; exact ewc k 11 (by omega))
  obtain ⟨zMb, zlM1, s2, n2, f2, k2⟩ := kw_gloop (d := dM + 3) (z := zMa) (zl := zlM) Ka (s := (cc, zlM 0 34)) k1 rfl v1 v2 v3 v4 v5 q4
  rw [gb] at k2
  rw [ga] at q2
  have e8 : kw_sq (zM 0 29) (cc, zlM 0 34) 8 = kw_sq (zM 0 29) (cc, zlM 0 34) n := by
    have := kw_sq_ext (g := zM 0 29) (s := (cc, zlM 0 34)) o1c (8 - n)
    rw [show n + (8 - n) = 8 from by omega] at this
    exact this
  rw [e8] at q2
  generalize hcs : (kw_sq (zM 0 29) (cc, zlM 0 34) n).1 = cs
  have q21 : kc zKb 36 = cs := by rw [← hcs, ← q2]
  have k21 : km zMb = cs := by rw [← hcs, ← k2]
  have xx : zl1 o 0 = zlM1 0 34 := (congrArg Prod.snd q2).trans (congrArg Prod.snd k2).symm
  have oks : kw_okc cs := by rw [← hcs]; exact kw_sq_ok okc n
  have ews : ∀ k w, w ≠ 3 ∧ w ≠ 4 ∧ w ≠ 9 → cs k w = km zM k w := fun k w hw => by rw [← hcs, kw_sq_w (by omega) (by omega)]; exact ewc k w (by omega)
  have o1s : kw_01 n cs := fun k => by rw [ews k 11 (by omega)]; exact hI.1.1.2 k
  -- the rub
  have nb := kw_N_tr n1 n2
  obtain ⟨zK1, r3, p3, m3', q3⟩ := kw_rubS (d := dK) (e := e) (z := zKb) (zl := zl1) (kv_isS36 e) (by omega)
  have fKb : ∀ c, c ≠ 37 → c ≠ 34 → c ≠ 35 → zKb c = zK c := fun c a b g => (p2 c a).trans (p1 c a b g)
  have f36 : zKb 36 = zK 36 := fKb 36 (by omega) (by omega) (by omega)
  have f7 : zKb 7 = zK 7 := fKb 7 (by omega) (by omega) (by omega)
  have m104 : zMb 16 104 = zM 16 104 := nb.2 104 (by omega)
  have Kb : kw_K n zMb := kw_N_K hI.1.1 nb (fun k => by rw [k21]; exact ews k 11 (by omega))
  have f0 : zMb 0 = zM 0 := nb.1 0 (by omega) (by omega) (by omega) (by omega) (by omega)
  have hl : kw_MR zMb (zMb 0 28) (kw_lf zK (zK 7 3)) := by
    rw [f0]
    exact kw_MR_fr hI.2.1.2 (fun c a b => nb.1 c (by omega) (by omega) (by omega) (by omega) (by omega))
  obtain ⟨zM1, s3, P3, k3, d3⟩ := kw_mrubS (d := dM) (z := zMb) (zl := zlM1) Kb hl (by rw [m104]; exact hm) (fun k _ => kw_okr_b (by rw [k21]; exact oks k))
  rw [f7, f36, em, kw_lf_fr (z := zK) (z' := zKb) (fun c hc => fKb c (by omega) (by omega) (by omega)), q21] at q3
  rw [m104, k21] at k3
  refine ⟨zKa, zKb, zK1, zl1, zM1, zlM1, ⟨r1, r2, r3⟩, ?_, ?_, ?_, ?_, xx⟩
  · simp only [kv_e232_32, kv_e232_33, s1, s2, kv_e232_82, kv_e232_83, kv_e232_86, kv_o10, not_false_eq_true, not_true, if_true, if_false, kv_then_s, kv_then_v, kv_then_n, List.cons_append, List.nil_append, kv_Ci, kv_Cr, kv_Cn, kv_Cu, kv_C0, kv_catc, kv_gCi, kv_gCl, kv_gCr, kv_nb0, kv_nb1, kv_nbi, kv_nb01, Nat.reduceAdd, Nat.reduceLeDiff, s3]
  · have v1 := kw_vk_eq (z := zK) (a := 36) (m := zK 36 3 + 1) q3 (by rw [p3 38 (by omega) (by omega) (by omega) (by omega), fKb 38 (by omega) (by omega) (by omega)]) (by rw [m3', f36])
    have v2 := kw_vm_eq (z := zM) (m := zM 16 104 + 1) k3 (fun i hi => by rw [P3.1.2 i hi, nb.2 i (by omega)]) (by rw [P3.2, m104])
    refine kw_R_cells h (fun c a1 a2 a3 a4 => (p3 c a1 a2 a3 a4).trans (fKb c a2 a3 a4)) (fun c a1 a2 a3 a4 a5 => (P3.1.1 c a1 a2 a3 a4 a5).trans (nb.1 c a1 a2 a3 a4 a5)) ⟨?_, ?_⟩
    · rw [v1, v2, h.2.1.1.1, em]
    · rw [v1]
      obtain ⟨⟨t1, t2⟩, t3, t4, t5, t6⟩ := h.2.1.1.2
      have e2 : (kw_vk zK 36).1 = km zM := ek
      rw [e2] at t5 t6
      refine ⟨⟨kw_rub_ok oks, kw_rub_01 o1s⟩, ⟨M + 1, by omega, ?_⟩, t4, fun k => ?_, fun k hk => ?_⟩
      · show zK 36 3 + 1 = _
        rw [hM, kv_suc]
      · show (kw_rub (kw_lf zK (zK 7 3)) (zM 16 104) cs k 12 = 0 ∨ kw_rub (kw_lf zK (zK 7 3)) (zM 16 104) cs k 12 = 1) ∧ (n ≤ k → kw_rub (kw_lf zK (zK 7 3)) (zM 16 104) cs k 12 = 0)
        rw [kw_rub_12 (by omega), ews k 12 (by omega)]
        exact t5 k
      · have hk' : ¬ kw_rub (kw_lf zK (zK 7 3)) (zM 16 104) cs k 11 = 0 := hk
        show ∃ p, p < W ∧ kw_rub (kw_lf zK (zK 7 3)) (zM 16 104) cs k 0 = Int32.ofNat p
        rw [kw_rub_12 (by omega), ews k 0 (by omega)]
        exact t6 k (fun q => hk' (kw_rub_z11 (by rw [ews k 11 (by omega)]; exact q)))
  · intro i hi
    rw [d3, f2 17 (by omega), d1 i, if_pos hi, hd i hi]
    rfl
  · rw [m3', f36, hM]
    show Int32.ofNat M + 1 = _
    rw [kv_suc]
theorem kw_gusts_l {o N : Nat} {sd : Option Value} (hD : kv_isD e o) (hN : N < 1000) : ∀ (T i M : Nat) (zK zM : Nat → Nat → Int32) (zl zlM : Nat → Nat → Int64) (v5 : Option Value), i + T = N → kw_R n B W zK zM → (∀ i, i < n → zM 17 i = -1) → zK 36 3 = Int32.ofNat M → M + T ≤ B → zl o 0 = zlM 0 34 →
    ∃ zK1 zl1 zM1 zlM1, (kv_Rn (d + 12) 102 23 [some (.ref 0), some (.int (Int32.ofNat N)), sd, none, some (.ref o), some (.int (Int32.ofNat i))] [] (kv_h e zK zl) = some (some (.int (Int32.ofNat (M + T))), kv_h e zK1 zl1) ∧ kv_Rn (d + 12) 232 22 [some (.ref 0), some (.int (Int32.ofNat N)), sd, none, some (.int (Int32.ofNat i)), v5] [] (kv_m zM zlM) = some (some (.int (Int32.ofNat (M + T))), kv_m zM1 zlM1)) ∧ kw_R n B W zK1 zM1 := by
  intro T
  induction T with
  | zero =>
    intro i M zK zM zl zlM v5 hi h hd hM hB hx
    have em := (kw_R_min h).1
    have hiN : i = N := by omega
    subst hiN
    refine ⟨zK, zl, zM, zlM, ⟨?_, ?_⟩, h⟩
    · rw [kv_e102_23]
      simp only [kv_e102_0, kv_e102_1, kv_e102_2, kv_e102_5, kv_e102_8, kv_e102_9, kv_e102_10, kv_e102_13, kv_e102_14, kv_e102_15, kv_e102_18, kv_e102_18n, kv_e102_20, kv_e102_21, kv_e102_25, kv_e102_26, kv_e102_29, kv_e102_30, kv_e102_33, kv_e102_34, kv_e102_37, kv_e102_40, kv_e102_41, kv_e102_44, kv_e102_45, kv_e102_48, kv_e102_51, kv_e102_52, kv_e102_55, kv_e102_56, kv_e102_59, kv_e102_61, kv_e102_62, kv_e102_65, kv_e102_68, kv_e102_69, kv_e102_72, kv_e102_73, kv_e102_76, kv_e102_79, kv_e102_82, kv_e102_85, kv_e102_86, kv_e102_89, kv_e102_92, kv_o10, not_false_eq_true, not_true, if_true, if_false, kv_then_s, kv_then_v, kv_then_n, List.cons_append, List.nil_append, kv_Ci, kv_Cr, kv_Cn, kv_Cu, kv_C0, kv_catc, kv_gCi, kv_gCl, kv_gCr, kv_nb0, kv_nb1, kv_nbi, kv_nb01, Nat.reduceAdd, Nat.reduceLeDiff, kv_nle (show i < 2147483648 by omega) (show i < 2147483648 by omega), Nat.le_refl, kv_isS36, hM, Nat.add_zero]
    · rw [kv_e232_22]
      simp only [kv_e232_0, kv_e232_1, kv_e232_2, kv_e232_5, kv_e232_8, kv_e232_9, kv_e232_10, kv_e232_11, kv_e232_14, kv_e232_15, kv_e232_16, kv_e232_19, kv_e232_20, kv_e232_24, kv_e232_25, kv_e232_28, kv_e232_29, kv_e232_32, kv_e232_33, kv_e232_36, kv_e232_37, kv_e232_41, kv_e232_42, kv_e232_45, kv_e232_48, kv_e232_49, kv_e232_51, kv_e232_54, kv_e232_57, kv_e232_58, kv_e232_60, kv_e232_63, kv_e232_64, kv_e232_67, kv_e232_70, kv_e232_71, kv_e232_73, kv_e232_76, kv_e232_79, kv_e232_82, kv_e232_83, kv_e232_86, kv_e232_87, kv_e232_90, kv_e232_93, kv_e232_94, kv_e232_97, kv_e232_99, kv_e232_100, kv_o10, not_false_eq_true, not_true, if_true, if_false, kv_then_s, kv_then_v, kv_then_n, List.cons_append, List.nil_append, kv_Ci, kv_Cr, kv_Cn, kv_Cu, kv_C0, kv_catc, kv_gCi, kv_gCl, kv_gCr, kv_nb0, kv_nb1, kv_nbi, kv_nb01, Nat.reduceAdd, Nat.reduceLeDiff, kv_nle (show i < 2147483648 by omega) (show i < 2147483648 by omega), Nat.le_refl, kv_ar_lt (show 16 < 300 by omega), kv_rd_lt (show 16 < 300 by omega), kv_am16, kv_l104, kv_t104, or_self, ← em, hM, Nat.add_zero]
  | succ T ih =>
    intro i M zK zM zl zlM v5 hi h hd hM hB hx
    obtain ⟨zK1, zM1, ⟨r1, r2⟩, R1, k1, m1, m0⟩ := kw_keepR (d := d + 9) (dM := d + 11) (e := e) (zl := zl) (zlM := zlM) h
    obtain ⟨zKa, zKb, zK2, zl2, zM2, zlM2, ⟨r3, r4, r5⟩, s1, R2, d2, M2, x2⟩ := kw_gustR (dK := d + 8) (dM := d + 6) (zl := zl) (zlM := zlM) hD R1 (by rw [m1 17 (by omega) (by omega)]; exact hd) (by rw [k1 36 (by omega)]; exact hM) (show M < B by omega) hx (some (.int (Int32.ofNat N))) sd none (some (.int (Int32.ofNat i))) v5 (kv_Ci _)
    obtain ⟨zK3, zl3, zM3, zlM3, ⟨r6, r7⟩, R3⟩ := ih (i + 1) (M + 1) zK2 zM2 zl2 zlM2 (some (.int (Int32.ofNat n))) (by omega) R2 d2 M2 (by omega) x2
    rw [show M + 1 + T = M + (T + 1) from by omega] at r6 r7
    have q : (Int32.ofNat N ≤ Int32.ofNat i) = False := kv_ln_ (by omega) (by omega)
    refine ⟨zK3, zl3, zM3, zlM3, ⟨?_, ?_⟩, R3⟩
    · rw [← r6, kv_e102_23]
      simp only [kv_e102_0, kv_e102_1, kv_e102_2, kv_e102_5, kv_e102_8, kv_e102_9, kv_e102_10, kv_e102_13, kv_e102_14, kv_e102_15, kv_e102_18, kv_e102_18n, kv_e102_20, kv_e102_21, kv_e102_25, kv_e102_26, kv_e102_29, kv_e102_30, kv_e102_33, kv_e102_34, kv_e102_37, kv_e102_40, kv_e102_41, kv_e102_44, kv_e102_45, kv_e102_48, kv_e102_51, kv_e102_52, kv_e102_55, kv_e102_56, kv_e102_59, kv_e102_61, kv_e102_62, kv_e102_65, kv_e102_68, kv_e102_69, kv_e102_72, kv_e102_73, kv_e102_76, kv_e102_79, kv_e102_82, kv_e102_85, kv_e102_86, kv_e102_89, kv_e102_92, kv_o10, not_false_eq_true, not_true, if_true, if_false, kv_then_s, kv_then_v, kv_then_n, List.cons_append, List.nil_append, kv_Ci, kv_Cr, kv_Cn, kv_Cu, kv_C0, kv_catc, kv_gCi, kv_gCl, kv_gCr, kv_nb0, kv_nb1, kv_nbi, kv_nb01, Nat.reduceAdd, Nat.reduceLeDiff, q, r1, r3, r4, r5, kv_suc]
    · rw [← r7, kv_e232_22]
      simp only [kv_e232_24, kv_e232_25, kv_e232_28, kv_e232_29, kv_o10, not_false_eq_true, not_true, if_true, if_false, kv_then_s, kv_then_v, kv_then_n, List.cons_append, List.nil_append, kv_Ci, kv_Cr, kv_Cn, kv_Cu, kv_C0, kv_catc, kv_gCi, kv_gCl, kv_gCr, kv_nb0, kv_nb1, kv_nbi, kv_nb01, Nat.reduceAdd, Nat.reduceLeDiff, q, r2, s1, kv_e232_87, kv_e232_90, kv_suc]
theorem kw_isD1 : kv_isD [.inr (.inr (1, kv_fl 1))] 172 := ⟨rfl, by omega⟩
theorem kw_f_gusts (h : kw_R n B W zK zM) (x : Int32) (s : Int64) : kw_A (d + 12) 102 232 [some (.ref 0), some (.int x), some (.long s), none, none, none] [some (.ref 0), some (.int x), some (.long s), none, none, none] zK zM zl zlM := by
  obtain ⟨em, M, m1, m2, m3, m4, m5⟩ := kw_R_min h
  by_cases c : ¬ n = 0 ∧ 1 ≤ x ∧ x ≤ Int32.ofNat (B - M)
  · obtain ⟨t, t1, t2, rfl⟩ := kw_inN (by omega) c.2.1 c.2.2
    have h8 := (kw_R_I h).1.1.1.2
    obtain ⟨zK1, zl1, zM1, zlM1, ⟨r1, r2⟩, R1⟩ := kw_gusts_l (d := d) (N := t) (sd := some (.long s)) kw_isD1 (by omega) t 0 M zK (kw_nw zM) (kv_z zl 172 (vp_updL (zl 172) 0 s)) (kv_z zlM 0 (vp_updL (zlM 0) 34 s)) none (by omega) (kw_R_fr h (kw_XK_rf _) kw_nw_XM) (fun i hi => kw_nw17 i (by omega)) m3 (by omega) (by rw [kv_zs, kv_zs, kw_updL, kw_updL])
    refine ⟨Int32.ofNat (M + t), [.inr (.inr (1, kv_fl 1))], zK1, zl1, zM1, zlM1, ⟨?_, ?_⟩, ⟨n, B, W, R1⟩, Nat.le_refl _, by decide⟩
    · rw [← r1]
      simp only [kv_e102_0, kv_e102_1, kv_e102_2, kv_e102_5, kv_e102_10, kv_e102_13, kv_e102_14, kv_e102_15, kv_e102_18, kv_e102_20, kv_e102_21, kv_e4_0, kv_e4_1, kv_e4_4, kv_e4_5, kv_e4_6, kv_e4_9, kv_o10, not_false_eq_true, not_true, if_true, if_false, kv_then_s, kv_then_v, kv_then_n, List.cons_append, List.nil_append, kv_Ci, kv_Cr, kv_Cn, kv_Cu, kv_C0, kv_catc, kv_gCi, kv_gCl, kv_gCr, kv_nb0, kv_nb1, kv_nbi, kv_nb01, Nat.reduceAdd, Nat.reduceLeDiff, kw_KareAhead h m3 m1, c, and_self, eq_self, List.length_nil, Nat.add_zero, kw_isD1, show (0 : Nat) < 100 from by omega]
      rfl
    · rw [← r2]
      simp only [kv_e232_0, kv_e232_1, kv_e232_2, kv_e232_5, kv_e232_10, kv_e232_11, kv_e232_14, kv_e232_15, kv_e232_16, kv_e232_19, kv_e232_20, kv_o10, not_false_eq_true, not_true, if_true, if_false, kv_then_s, kv_then_v, kv_then_n, List.cons_append, List.nil_append, kv_Ci, kv_Cr, kv_Cn, kv_Cu, kv_C0, kv_catc, kv_gCi, kv_gCl, kv_gCr, kv_nb0, kv_nb1, kv_nbi, kv_nb01, Nat.reduceAdd, Nat.reduceLeDiff, kw_MareAhead h m3 m1, c, and_self, eq_self, kw_nobody]
      rfl
  · refine kw_A0 (r := -1) h ?_ ?_
    · simp only [kv_e102_0, kv_e102_1, kv_e102_2, kv_e102_5, kv_e102_8, kv_e102_9, kv_o10, not_false_eq_true, not_true, if_true, if_false, kv_then_s, kv_then_v, kv_then_n, List.cons_append, List.nil_append, kv_Ci, kv_Cr, kv_Cn, kv_Cu, kv_C0, kv_catc, kv_gCi, kv_gCl, kv_gCr, kv_nb0, kv_nb1, kv_nbi, kv_nb01, Nat.reduceAdd, Nat.reduceLeDiff, kw_KareAhead h m3 m1, c, eq_self]
    · simp only [kv_e232_0, kv_e232_1, kv_e232_2, kv_e232_5, kv_e232_8, kv_e232_9, kv_o10, not_false_eq_true, not_true, if_true, if_false, kv_then_s, kv_then_v, kv_then_n, List.cons_append, List.nil_append, kv_Ci, kv_Cr, kv_Cn, kv_Cu, kv_C0, kv_catc, kv_gCi, kv_gCl, kv_gCr, kv_nb0, kv_nb1, kv_nbi, kv_nb01, Nat.reduceAdd, Nat.reduceLeDiff, kw_MareAhead h m3 m1, c, eq_self]
end
