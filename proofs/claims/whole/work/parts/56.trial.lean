/-! flights tried; bell -/
section
variable {d n B W : Nat} {e : List kv_E} {z zK zM zK' zM' : Nat → Nat → Int32} {zl zlM : Nat → Nat → Int64}
def kw_Z (zM z : Nat → Nat → Int32) : Prop := (∀ c, c ≠ 9 → c ≠ 10 → c ≠ 16 → c ≠ 17 → c ≠ 18 → c ≠ 20 → c ≠ 21 → z c = zM c) ∧ (∀ i, 105 ≤ i → z 16 i = zM 16 i) ∧ ∀ i, i < 147 → z 20 i = zM 16 i
def kw_J (zM z : Nat → Nat → Int32) : Prop := kw_XM zM z ∧ (∀ i, i < 147 → z 20 i = zM 16 i) ∧ ∀ i, i < 8 → z 17 i = -1
theorem kw_J_Z (h : kw_J zM z) : kw_Z zM z := ⟨fun c a1 a2 _ a4 a5 a6 a7 => h.1 c a1 a2 a4 a5 a6 a7, fun i _ => by rw [h.1 16 (by omega) (by omega) (by omega) (by omega) (by omega) (by omega)], h.2.1⟩
theorem kw_aside : ∃ z, kv_Rn (d + 1) 236 0 [some (.ref 0), none] [] (kv_m zM zlM) = some (none, kv_m z zlM) ∧ kw_J zM z := by
  refine ⟨_, kw_put_aside, fun c a1 a2 a3 a4 a5 a6 => ?_, fun i hi => ?_, fun i hi => ?_⟩
  · rw [kv_zne _ _ a5]
    exact kv_zne _ _ a3
  · rw [kv_zs]
    unfold kw_ov
    rw [if_pos (by omega)]
  · rw [kv_zne _ _ (by omega)]
    exact kw_nw17 i hi
theorem kw_backM (h : kw_Z zM z) : ∃ z', kv_Rn (d + 1) 237 0 [some (.ref 0), none] [] (kv_m z zlM) = some (none, kv_m z' zlM) ∧ kw_J zM z' := by
  refine ⟨_, kw_take_back, fun c a1 a2 a3 a4 a5 a6 => ?_, fun i hi => ?_, fun i hi => ?_⟩
  · by_cases h16 : c = 16
    · subst h16
      rw [kv_zs]
      funext i
      unfold kw_ov
      by_cases hi : 0 ≤ i ∧ i < 0 + 147
      · rw [if_pos hi]
        exact h.2.2 i (by omega)
      · rw [if_neg hi]
        exact h.2.1 i (by omega)
    · rw [kv_zne _ _ h16]
      exact (kv_zne _ _ a3).trans (h.1 c a1 a2 h16 a3 a4 a5 a6)
  · rw [kv_zne _ _ (by omega)]
    exact (congrFun (kv_zne _ _ (show (20 : Nat) ≠ 17 by omega)) i).trans (h.2.2 i hi)
  · rw [kv_zne _ _ (by omega)]
    exact kw_nw17 i hi
noncomputable def kw_Fl (zK zM : Nat → Nat → Int32) (B M : Nat) (dl : Nat → Int32) (c : Nat → Nat → Int32) : Nat → Nat → Int32 := kw_fly (kw_lf zK (zK 7 2)) (kw_lf zK (zK 7 3)) (kw_mwin zM) (zM 14 3) (B - M) (Int32.ofNat M) dl c
theorem kw_Z_I (h : kw_R n B W zK zM) (hz : ∀ c, c ≠ 9 → c ≠ 10 → c ≠ 16 → c ≠ 17 → c ≠ 18 → c ≠ 20 → c ≠ 21 → z c = zM c) (h1 : kw_01 n (km z)) (h2 : kw_okc (km z)) : kw_I n (kw_lf zK (zK 7 2)) (kw_lf zK (zK 7 3)) z := by
  have e0 := hz 0 (by omega) (by omega) (by omega) (by omega) (by omega) (by omega) (by omega)
  have e15 := hz 15 (by omega) (by omega) (by omega) (by omega) (by omega) (by omega) (by omega)
  have ew : kw_mwin z = kw_mwin zM := by
    unfold kw_mwin
    rw [e0, e15]
  have hl : ∀ c, 2 ≤ c → c ≤ 8 → z c = zM c := fun c a b => hz c (by omega) (by omega) (by omega) (by omega) (by omega) (by omega) (by omega)
  obtain ⟨⟨⟨a1, a2⟩, a3⟩, ⟨a4, a5⟩, a6, a7, a8⟩ := kw_R_I h
  exact ⟨⟨⟨by rw [e0]; exact a1, h1⟩, by unfold kw_mair; rw [e0]; exact a3⟩, ⟨by rw [e0]; exact kw_MR_fr a4 hl, by rw [e0]; exact kw_MR_fr a5 hl⟩, by rw [ew]; exact a6, h2, by rw [hz 14 (by omega) (by omega) (by omega) (by omega) (by omega) (by omega) (by omega)]; exact a8⟩
/-- the model's flight to the bell, from cells c -/
theorem kw_flyM (h : kw_R n B W zK zM) {M : Nat} (hM : M ≤ B) (hz : kw_Z zM z) {c : Nat → Nat → Int32} {dl : Nat → Int32} (hc : km z = c) (hm : z 16 104 = Int32.ofNat M) (hd : ∀ i, i < n → z 17 i = dl i) (h1 : kw_01 n c) (h2 : kw_okc c) :
    ∃ z', kv_Rn (d + 8) 238 0 [some (.ref 0), none] [] (kv_m z zlM) = some (some (.int (kw_cb c (kw_Fl zK zM B M dl c) 8)), kv_m z' zlM) ∧ kw_Z zM z' ∧ km z' = kw_Fl zK zM B M dl c ∧ kw_I n (kw_lf zK (zK 7 2)) (kw_lf zK (zK 7 3)) z' ∧ z' 16 104 = Int32.ofNat B ∧ (∀ k, c k 11 = 0 → kw_Fl zK zM B M dl c k 11 = 0) := by
  obtain ⟨em, M', m1, m2, m3, m4, m5⟩ := kw_R_min h
  subst hc
  have e14 := hz.1 14 (by omega) (by omega) (by omega) (by omega) (by omega) (by omega) (by omega)
  have e0 := hz.1 0 (by omega) (by omega) (by omega) (by omega) (by omega) (by omega) (by omega)
  have e15 := hz.1 15 (by omega) (by omega) (by omega) (by omega) (by omega) (by omega) (by omega)
  have ew : kw_mwin z = kw_mwin zM := by
    unfold kw_mwin
    rw [e0, e15]
  obtain ⟨z', r, q, k, t, i, mo⟩ := kw_toBell (d := d + 1) (zl := zlM) (B - M) M z dl 0 (kw_Z_I h hz.1 h1 h2) hm (by rw [e14, m5]; congr 1; omega) (by omega) hd
  rw [ew, e14] at k
  refine ⟨z', ?_, ⟨fun c a1 a2 a3 a4 a5 a6 a7 => (q.1 c a1 a2 a3 a4 a5).trans (hz.1 c a1 a2 a3 a4 a5 a6 a7), fun i hi => (q.2 i hi).trans (hz.2.1 i hi), fun i hi => by rw [q.1 20 (by omega) (by omega) (by omega) (by omega) (by omega)]; exact hz.2.2 i hi⟩, k, i, by rw [t]; congr 1; omega, ?_⟩
  · simp only [kv_e238_0, kv_e238_1, kv_o10, not_false_eq_true, not_true, if_true, if_false, kv_then_s, kv_then_v, kv_then_n, List.cons_append, List.nil_append, kv_Ci, kv_Cr, kv_Cn, kv_Cu, kv_C0, kv_catc, kv_gCi, kv_gCl, kv_gCr, kv_nb0, kv_nb1, kv_nbi, kv_nb01, Nat.reduceAdd, Nat.reduceLeDiff]
    rw [r, k]
    have : (0 : Int32) ||| kw_cb (km z) (kw_fly (kw_lf zK (zK 7 2)) (kw_lf zK (zK 7 3)) (kw_mwin zM) (zM 14 3) (B - M) (Int32.ofNat M) dl (km z)) 8 = kw_cb (km z) (kw_Fl zK zM B M dl (km z)) 8 := Int32.zero_or
    rw [this]
  · intro j hj
    have := mo j hj
    rw [k] at this
    exact this
/-- the class's, on the trial -/
theorem kw_flyK (h : kw_R n B W zK zM) {M : Nat} (hM : zK 36 3 = Int32.ofNat M) (hB : M ≤ B) (hx : kw_XK zK z) {c : Nat → Nat → Int32} (hc : kc z 39 = c) (hm : z 39 3 = Int32.ofNat M) :
    ∃ z', kv_Rn (d + 6) 144 0 [some (.ref 0), none, none] [] (kv_h e z zl) = some (none, kv_h e z' zl) ∧ kw_XK zK z' ∧ kc z' 39 = kw_Fl zK zM B M (fun _ => -1) c ∧ z' 39 3 = Int32.ofNat B := by
  obtain ⟨em, M', m1, m2, m3, m4, m5⟩ := kw_R_min h
  have lo : ∀ c, c < 34 → z c = zK c := fun c hc => hx c (by omega) (by omega) (by omega) (by omega) (by omega) (by omega)
  have e36 : z 36 = zK 36 := hx 36 (by omega) (by omega) (by omega) (by omega) (by omega) (by omega)
  have el : Int32.ofNat B - Int32.ofNat M = Int32.ofNat (B - M) := by
    have := @kw_subN M (B - M)
    rw [show M + (B - M) = B from by omega] at this
    exact this
  obtain ⟨z', r, t, k, q⟩ := kw_flyT_l (d := d + 1) (e := e) (zl := zl) (kw_air_fr lo (kw_R_air h)) (Int32.ofNat (B - M)) (B - M) 0 M z (by rw [Nat.zero_add]) (by omega) (fun _ _ _ _ _ => rfl) hm
  have e3 : zK 3 3 = zM 14 3 := h.1.2.2.1.2.1 3 (by omega)
  rw [kw_lf_fr lo, kw_lf_fr lo, lo 7 (by omega), kw_win_fr lo, lo 3 (by omega), hc, kw_R_win h.1.2.1, e3] at k
  refine ⟨z', ?_, fun c a1 a2 a3 a4 a5 a6 => (t c a3 a4 a1 a2).trans (hx c a1 a2 a3 a4 a5 a6), k, ?_⟩
  · simp only [kv_e144_0, kv_e144_1, kv_e144_4, kv_e144_5, kv_e144_6, kv_o10, not_false_eq_true, not_true, if_true, if_false, kv_then_s, kv_then_v, kv_then_n, List.cons_append, List.nil_append, kv_Ci, kv_Cr, kv_Cn, kv_Cu, kv_C0, kv_catc, kv_gCi, kv_gCl, kv_gCr, kv_nb0, kv_nb1, kv_nbi, kv_nb01, Nat.reduceAdd, Nat.reduceLeDiff, kw_left, lo 3 (by omega), e36, m4, hM, el]
    exact r
  · rw [q]
    show Int32.ofNat (M + (B - M)) = _
    congr 1
    omega
/-- the trial like now -/
theorem kw_trial (h : kw_R n B W zK zM) {M : Nat} (hM : zK 36 3 = Int32.ofNat M) : kw_XK zK (kv_sc zK 39 36) ∧ kc (kv_sc zK 39 36) 39 = km zM ∧ kv_sc zK 39 36 39 3 = Int32.ofNat M := by
  refine ⟨fun c a1 a2 a3 a4 a5 a6 => kw_sc_fr zK a3 a4 a5, ?_, ?_⟩
  · rw [kw_sc_kc]
    exact kw_R_km h.2.1.1
  · rw [kw_sc_0 zK (by omega)]
    exact hM
theorem kw_J_km (h : kw_J zM z) : km z = km zM := kw_km_fr (h.1 16 (by omega) (by omega) (by omega) (by omega) (by omega) (by omega))
theorem kw_J_m (h : kw_J zM z) : z 16 104 = zM 16 104 := by rw [h.1 16 (by omega) (by omega) (by omega) (by omega) (by omega) (by omega)]
theorem kw_f_bell (h : kw_R n B W zK zM) (x : Int32) : kw_A (d + 12) 107 240 [some (.ref 0), some (.int x)] [some (.ref 0), some (.int x), none] zK zM zl zlM := by
  have hF := h.1.2.2.1
  have hI := kw_R_I h
  have h8 := hI.1.1.1.2
  have e0 := kw_le0 hF.1.2.2
  have ez : (zM 0 24 = 0) = (n = 0) := by
    rw [hF.1.2.1, show (0 : Int32) = Int32.ofNat 0 from rfl, kv_neq (by omega) (by omega)]
  obtain ⟨em, M, m1, m2, m3, m4, m5⟩ := kw_R_min h
  by_cases c : n = 0
  · replace c := eq_true c
    refine kw_A0 (r := -1) h ?_ ?_
    · simp only [kv_e107_0, kv_e107_1, kv_e107_4, kv_e107_7, kv_e107_8, kv_e107_9, kv_e107_12, kv_e107_15, kv_e107_16, kv_e107_17, kv_e107_18, kv_e107_21, kv_e107_22, kv_e107_25, kv_e107_28, kv_e107_29, kv_e107_32, kv_e107_33, kv_e107_36, kv_e107_37, kv_e107_40, kv_e107_41, kv_e107_44, kv_e107_47, kv_e107_50, kv_e107_51, kv_e107_54, kv_e107_55, kv_e107_56, kv_e107_57, kv_e107_60, kv_o10, not_false_eq_true, not_true, if_true, if_false, kv_then_s, kv_then_v, kv_then_n, List.cons_append, List.nil_append, kv_Ci, kv_Cr, kv_Cn, kv_Cu, kv_C0, kv_catc, kv_gCi, kv_gCl, kv_gCr, kv_nb0, kv_nb1, kv_nbi, kv_nb01, Nat.reduceAdd, Nat.reduceLeDiff, kw_KhF h, c, eq_self]
    · simp only [kv_e240_0, kv_e240_1, kv_e240_4, kv_e240_7, kv_e240_8, kv_e240_9, kv_e240_10, kv_e240_13, kv_e240_16, kv_e240_17, kv_e240_18, kv_e240_19, kv_e240_22, kv_e240_23, kv_e240_26, kv_e240_27, kv_e240_28, kv_e240_31, kv_e240_32, kv_e240_35, kv_e240_38, kv_e240_39, kv_e240_40, kv_e240_41, kv_e240_42, kv_e240_45, kv_e240_46, kv_e240_47, kv_e240_50, kv_e240_51, kv_o10, not_false_eq_true, not_true, if_true, if_false, kv_then_s, kv_then_v, kv_then_n, List.cons_append, List.nil_append, kv_Ci, kv_Cr, kv_Cn, kv_Cu, kv_C0, kv_catc, kv_gCi, kv_gCl, kv_gCr, kv_nb0, kv_nb1, kv_nbi, kv_nb01, Nat.reduceAdd, Nat.reduceLeDiff, ez, c, eq_self]
  · by_cases c1 : 0 ≤ x ∧ x ≤ 2
    · obtain ⟨t1, t2, t3⟩ := kw_trial h m3
      obtain ⟨z1, r1, x1, k1, b1⟩ := kw_flyK (d := d + 5) (e := []) (zl := zl) h m3 m1 t1 t2 t3
      obtain ⟨y1, s1, j1⟩ := kw_aside (d := d + 10) (zM := zM) (zlM := zlM)
      obtain ⟨y2, s2, j2, k2, I2, b2, mo⟩ := kw_flyM (d := d + 3) (zlM := zlM) h m1 (kw_J_Z j1) (c := km zM) (dl := fun _ => -1) (kw_J_km j1) (by rw [kw_J_m j1, ← em, m3]) (fun i hi => j1.2.2 i (by omega)) hI.1.1.2 hI.2.2.2.1
      obtain ⟨y3, s3, j3⟩ := kw_backM (d := d + 10) (zlM := zlM) j2
      have e32 : z1 3 2 = zM 14 2 := by rw [x1 3 (by omega) (by omega) (by omega) (by omega) (by omega) (by omega)]; exact hF.2.1 2 (by omega)
      have e14 : y2 14 2 = zM 14 2 := by rw [j2.1 14 (by omega) (by omega) (by omega) (by omega) (by omega) (by omega) (by omega)]
      by_cases c2 : x = 0
      · refine kw_A_ (r := kv_rs (zM 14 2) (kw_Fl zK zM B M (fun _ => -1) (km zM))) h ?_ ?_ x1 j3.1
        · simp only [kv_e107_0, kv_e107_1, kv_e107_4, kv_e107_7, kv_e107_8, kv_e107_9, kv_e107_12, kv_e107_15, kv_e107_16, kv_e107_17, kv_e107_18, kv_e107_21, kv_e107_22, kv_e107_25, kv_e107_28, kv_e107_29, kv_e107_32, kv_e107_33, kv_e107_36, kv_e107_37, kv_e107_40, kv_e107_41, kv_e107_44, kv_e107_47, kv_e107_50, kv_e107_51, kv_e107_54, kv_e107_55, kv_e107_56, kv_e107_57, kv_e107_60, kv_o10, not_false_eq_true, not_true, if_true, if_false, kv_then_s, kv_then_v, kv_then_n, List.cons_append, List.nil_append, kv_Ci, kv_Cr, kv_Cn, kv_Cu, kv_C0, kv_catc, kv_gCi, kv_gCl, kv_gCr, kv_nb0, kv_nb1, kv_nbi, kv_nb01, Nat.reduceAdd, Nat.reduceLeDiff, kw_KhF h, c, kw_isOut, c1, and_self, eq_self, kv_isS36, kv_isS39, kv_copyS, r1, c2, kv_resultOf, k1, e32, show ((0 : Int32) ≤ 0 ∧ (0 : Int32) ≤ 2) = True from by decide]
        · simp only [kv_e240_0, kv_e240_1, kv_e240_4, kv_e240_7, kv_e240_8, kv_e240_9, kv_e240_10, kv_e240_13, kv_e240_16, kv_e240_17, kv_e240_18, kv_e240_19, kv_e240_22, kv_e240_23, kv_e240_26, kv_e240_27, kv_e240_28, kv_e240_31, kv_e240_32, kv_e240_35, kv_e240_38, kv_e240_39, kv_e240_40, kv_e240_41, kv_e240_42, kv_e240_45, kv_e240_46, kv_e240_47, kv_e240_50, kv_e240_51, kv_o10, not_false_eq_true, not_true, if_true, if_false, kv_then_s, kv_then_v, kv_then_n, List.cons_append, List.nil_append, kv_Ci, kv_Cr, kv_Cn, kv_Cu, kv_C0, kv_catc, kv_gCi, kv_gCl, kv_gCr, kv_nb0, kv_nb1, kv_nbi, kv_nb01, Nat.reduceAdd, Nat.reduceLeDiff, ez, c, kw_in, c1, and_self, s1, s2, kw_resultNow I2.1.1, k2, e14, s3, c2, eq_self, show ((0 : Int32) ≤ 0 ∧ (0 : Int32) ≤ 2) = True from by decide]
      · refine kw_A_ (r := kv_ff (kw_Fl zK zM B M (fun _ => -1) (km zM)) 5 (x - 1)) h ?_ ?_ x1 j3.1
        · simp only [kv_e107_0, kv_e107_1, kv_e107_4, kv_e107_7, kv_e107_8, kv_e107_9, kv_e107_12, kv_e107_15, kv_e107_16, kv_e107_17, kv_e107_18, kv_e107_21, kv_e107_22, kv_e107_25, kv_e107_28, kv_e107_29, kv_e107_32, kv_e107_33, kv_e107_36, kv_e107_37, kv_e107_40, kv_e107_41, kv_e107_44, kv_e107_47, kv_e107_50, kv_e107_51, kv_e107_54, kv_e107_55, kv_e107_56, kv_e107_57, kv_e107_60, kv_o10, not_false_eq_true, not_true, if_true, if_false, kv_then_s, kv_then_v, kv_then_n, List.cons_append, List.nil_append, kv_Ci, kv_Cr, kv_Cn, kv_Cu, kv_C0, kv_catc, kv_gCi, kv_gCl, kv_gCr, kv_nb0, kv_nb1, kv_nbi, kv_nb01, Nat.reduceAdd, Nat.reduceLeDiff, kw_KhF h, c, kw_isOut, c1, and_self, eq_self, kv_isS36, kv_isS39, kv_copyS, r1, c2, kv_feetFor, k1]
        · simp only [kv_e240_0, kv_e240_1, kv_e240_4, kv_e240_7, kv_e240_8, kv_e240_9, kv_e240_10, kv_e240_13, kv_e240_16, kv_e240_17, kv_e240_18, kv_e240_19, kv_e240_22, kv_e240_23, kv_e240_26, kv_e240_27, kv_e240_28, kv_e240_31, kv_e240_32, kv_e240_35, kv_e240_38, kv_e240_39, kv_e240_40, kv_e240_41, kv_e240_42, kv_e240_45, kv_e240_46, kv_e240_47, kv_e240_50, kv_e240_51, kv_o10, not_false_eq_true, not_true, if_true, if_false, kv_then_s, kv_then_v, kv_then_n, List.cons_append, List.nil_append, kv_Ci, kv_Cr, kv_Cn, kv_Cu, kv_C0, kv_catc, kv_gCi, kv_gCl, kv_gCr, kv_nb0, kv_nb1, kv_nbi, kv_nb01, Nat.reduceAdd, Nat.reduceLeDiff, ez, c, kw_in, c1, and_self, s1, s2, kw_feetOf I2.1.1, k2, s3, c2, eq_self]
    · refine kw_A0 (r := -1) h ?_ ?_
      · simp only [kv_e107_0, kv_e107_1, kv_e107_4, kv_e107_7, kv_e107_8, kv_e107_9, kv_e107_12, kv_e107_15, kv_e107_16, kv_e107_17, kv_e107_18, kv_e107_21, kv_e107_22, kv_e107_25, kv_e107_28, kv_e107_29, kv_e107_32, kv_e107_33, kv_e107_36, kv_e107_37, kv_e107_40, kv_e107_41, kv_e107_44, kv_e107_47, kv_e107_50, kv_e107_51, kv_e107_54, kv_e107_55, kv_e107_56, kv_e107_57, kv_e107_60, kv_o10, not_false_eq_true, not_true, if_true, if_false, kv_then_s, kv_then_v, kv_then_n, List.cons_append, List.nil_append, kv_Ci, kv_Cr, kv_Cn, kv_Cu, kv_C0, kv_catc, kv_gCi, kv_gCl, kv_gCr, kv_nb0, kv_nb1, kv_nbi, kv_nb01, Nat.reduceAdd, Nat.reduceLeDiff, kw_KhF h, c, kw_isOut, c1, eq_self]
      · simp only [kv_e240_0, kv_e240_1, kv_e240_4, kv_e240_7, kv_e240_8, kv_e240_9, kv_e240_10, kv_e240_13, kv_e240_16, kv_e240_17, kv_e240_18, kv_e240_19, kv_e240_22, kv_e240_23, kv_e240_26, kv_e240_27, kv_e240_28, kv_e240_31, kv_e240_32, kv_e240_35, kv_e240_38, kv_e240_39, kv_e240_40, kv_e240_41, kv_e240_42, kv_e240_45, kv_e240_46, kv_e240_47, kv_e240_50, kv_e240_51, kv_o10, not_false_eq_true, not_true, if_true, if_false, kv_then_s, kv_then_v, kv_then_n, List.cons_append, List.nil_append, kv_Ci, kv_Cr, kv_Cn, kv_Cu, kv_C0, kv_catc, kv_gCi, kv_gCl, kv_gCr, kv_nb0, kv_nb1, kv_nbi, kv_nb01, Nat.reduceAdd, Nat.reduceLeDiff, ez, c, kw_in, c1, eq_self]
end
