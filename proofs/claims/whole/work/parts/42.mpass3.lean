/-! the model: a minute, whole -/
section
variable {d n : Nat} {z : Nat → Nat → Int32} {zl : Nat → Nat → Int64}
theorem kw_mrubS {lf : Option ((Nat → Int32) → Int32)} (hK : kw_K n z) (hl : kw_MR z (z 0 28) lf) (hm : kw_okm (z 16 104)) (hb : ∀ k, k < 8 → kw_okb (km z k)) : ∃ z', kv_Rn (d + 5) 214 0 [some (.ref 0), none, none, none] [] (kv_m z zl) = some (some (.int (kw_cb (km z) (kw_rub lf (z 16 104) (km z)) 8)), kv_m z' zl) ∧ kw_P z z' ∧ km z' = kw_rub lf (z 16 104) (km z) ∧ z' 17 = z 17 := by
  obtain ⟨z1, v2, v3, h1, h2, h3, -⟩ := kw_mrub_o (d := d) (zl := zl) hK hl hm hb
  have e16 : z1 16 = z 16 := h2 16 (by omega) (by omega) (by omega)
  have ekm : km z1 = km z := kw_km_fr e16
  obtain ⟨z', h4, h5, h6, h7⟩ := kw_mcut (d := d) (zl := zl) (lf := lf) (m := z 16 104) (kw_N_K hK (kw_M_N h2) (fun i => by rw [ekm])) ekm h3 v3
  refine ⟨z', h1.trans h4, ⟨⟨fun c a1 a2 a3 a4 a5 => (h5.1.1 c a1 a2 a3 a4 a5).trans (h2 c a1 a2 a5), fun i hi => by rw [h5.1.2 i hi, e16]⟩, by rw [h5.2, e16]⟩, h6, by rw [h7]; exact h2 17 (by omega) (by omega) (by omega)⟩
noncomputable def kw_passM (fl fw : Option ((Nat → Int32) → Int32)) (wd : Int32 → Int32 → Int32) (pays m : Int32) (md : Nat → Int32) (c : Nat → Nat → Int32) : Nat → Nat → Int32 := kw_rub fw m (kw_climbM fl wd pays m md c)
def kw_I (n : Nat) (fl fw : Option ((Nat → Int32) → Int32)) (z : Nat → Nat → Int32) : Prop := (kw_K n z ∧ kw_mair z) ∧ (kw_MR z (z 0 27) fl ∧ kw_MR z (z 0 28) fw) ∧ kw_okw (kw_mwin z) ∧ kw_okc (km z) ∧ kw_rg (z 14 3) 0 9
theorem kw_climbM_11 (fl : Option ((Nat → Int32) → Int32)) (wd : Int32 → Int32 → Int32) (pays m : Int32) (md : Nat → Int32) (c : Nat → Nat → Int32) (k : Nat) : kw_climbM fl wd pays m md c k 11 = c k 11 := by
  unfold kw_climbM
  split
  · rfl
  · rfl
theorem kw_climbM_ok {fl : Option ((Nat → Int32) → Int32)} {wd : Int32 → Int32 → Int32} {pays m : Int32} {md : Nat → Int32} {c : Nat → Nat → Int32} (h : kw_okc c) (hp : kw_rg pays 0 9) : kw_okc (kw_climbM fl wd pays m md c) := by
  intro k
  unfold kw_climbM
  split
  · exact h k
  · exact kw_cl_ok (h k) hp
theorem kw_rub_ok {fw : Option ((Nat → Int32) → Int32)} {m : Int32} {c : Nat → Nat → Int32} (h : kw_okc c) : kw_okc (kw_rub fw m c) := by
  intro k
  have h1 : kw_okr (kw_rub1 fw m c k) := by
    rw [kw_rub1_ws]
    exact h k
  unfold kw_rub kw_cut
  split
  · obtain ⟨⟨a1, a2⟩, ⟨a3, a4⟩, a5, a6⟩ := h1
    have e2 : kw_gr (kw_rub1 fw m c k) 2 = kw_rub1 fw m c k 2 := rfl
    have e3 : kw_gr (kw_rub1 fw m c k) 3 = 0 := rfl
    have e4 : kw_gr (kw_rub1 fw m c k) 4 = 0 := rfl
    refine ⟨⟨a1, a2⟩, ⟨?_, ?_⟩, ?_, ?_⟩
    · rw [e4, kw_0t]; omega
    · rw [e4, e3]; omega
    · rw [e3, e2, kw_0t]; omega
    · rw [e2]; exact a6
  · exact h1
theorem kw_rub_01 {fw : Option ((Nat → Int32) → Int32)} {m : Int32} {c : Nat → Nat → Int32} (h : kw_01 n c) : kw_01 n (kw_rub fw m c) := by
  intro k
  unfold kw_rub kw_cut
  split
  · exact ⟨Or.inl rfl, fun _ => rfl⟩
  · rw [kw_rub_11]
    exact h k
theorem kw_climbM_01 {fl : Option ((Nat → Int32) → Int32)} {wd : Int32 → Int32 → Int32} {pays m : Int32} {md : Nat → Int32} {c : Nat → Nat → Int32} (h : kw_01 n c) : kw_01 n (kw_climbM fl wd pays m md c) := by
  intro k
  rw [kw_climbM_11]
  exact h k
theorem kw_passM_01 {fl fw : Option ((Nat → Int32) → Int32)} {wd : Int32 → Int32 → Int32} {pays m : Int32} {md : Nat → Int32} {c : Nat → Nat → Int32} (h : kw_01 n c) : kw_01 n (kw_passM fl fw wd pays m md c) := kw_rub_01 (kw_climbM_01 h)
theorem kw_passM_ok {fl fw : Option ((Nat → Int32) → Int32)} {wd : Int32 → Int32 → Int32} {pays m : Int32} {md : Nat → Int32} {c : Nat → Nat → Int32} (h : kw_okc c) (hp : kw_rg pays 0 9) : kw_okc (kw_passM fl fw wd pays m md c) := kw_rub_ok (kw_climbM_ok h hp)
theorem kw_I_fr {z z' : Nat → Nat → Int32} {fl fw : Option ((Nat → Int32) → Int32)} (h : kw_I n fl fw z) (hz : ∀ c, c ≠ 9 → c ≠ 10 → c ≠ 16 → c ≠ 17 → c ≠ 18 → z' c = z c) (h1 : kw_01 n (km z')) (h2 : kw_okc (km z')) : kw_I n fl fw z' := by
  have e0 := hz 0 (by omega) (by omega) (by omega) (by omega) (by omega)
  have e15 := hz 15 (by omega) (by omega) (by omega) (by omega) (by omega)
  have ew : kw_mwin z' = kw_mwin z := by
    unfold kw_mwin
    rw [e0, e15]
  have hl : ∀ c, 2 ≤ c → c ≤ 8 → z' c = z c := fun c a b => hz c (by omega) (by omega) (by omega) (by omega) (by omega)
  obtain ⟨⟨⟨a1, a2⟩, a3⟩, ⟨a4, a5⟩, a6, a7, a8⟩ := h
  exact ⟨⟨⟨by rw [e0]; exact a1, h1⟩, by unfold kw_mair; rw [e0]; exact a3⟩, ⟨by rw [e0]; exact kw_MR_fr a4 hl, by rw [e0]; exact kw_MR_fr a5 hl⟩, by rw [ew]; exact a6, h2, by rw [hz 14 (by omega) (by omega) (by omega) (by omega) (by omega)]; exact a8⟩
theorem kw_mpassS {fl fw : Option ((Nat → Int32) → Int32)} (hI : kw_I n fl fw z) (hm : kw_okm (z 16 104)) : ∃ z', kv_Rn (d + 6) 215 0 [some (.ref 0)] [] (kv_m z zl) = some (some (.int (kw_cb (km z) (kw_passM fl fw (kw_mwin z) (z 14 3) (z 16 104) (kw_md (z 17) (km z)) (km z)) 8)), kv_m z' zl) ∧ kw_P z z' ∧ km z' = kw_passM fl fw (kw_mwin z) (z 14 3) (z 16 104) (kw_md (z 17) (km z)) (km z) ∧ (∀ i, z' 17 i = if i < n then kw_dc (z 17 i) else z 17 i) ∧ kw_I n fl fw z' := by
  obtain ⟨z1, h1, h2, h3, h4⟩ := kw_riseS (d := d) (zl := zl) hI.1.1 hI.1.2 hI.2.1.1 hI.2.2.1 hm hI.2.2.2.1 hI.2.2.2.2
  have em : z1 16 104 = z 16 104 := h2.2 104 (by omega)
  have o1 : kw_01 n (km z1) := by rw [h3]; exact kw_climbM_01 hI.1.1.2
  have k1 : kw_okc (km z1) := by rw [h3]; exact kw_climbM_ok hI.2.2.2.1 hI.2.2.2.2
  have I1 := kw_I_fr hI h2.1 o1 k1
  obtain ⟨z2, h5, h6, h7, h8⟩ := kw_mrubS (d := d) (zl := zl) (lf := fw) I1.1.1 I1.2.1.2 (by rw [em]; exact hm) (fun k _ => kw_okr_b (k1 k))
  have e2 : km z2 = kw_passM fl fw (kw_mwin z) (z 14 3) (z 16 104) (kw_md (z 17) (km z)) (km z) := by
    rw [h7, h3, em]
    rfl
  have hz : ∀ c, c ≠ 9 → c ≠ 10 → c ≠ 16 → c ≠ 17 → c ≠ 18 → z2 c = z c := fun c a1 a2 a3 a4 a5 => (h6.1.1 c a1 a2 a3 a4 a5).trans (h2.1 c a1 a2 a3 a4 a5)
  have ecb : kw_cb (km z1) (kw_rub fw (z1 16 104) (km z1)) 8 = kw_cb (km z) (kw_passM fl fw (kw_mwin z) (z 14 3) (z 16 104) (kw_md (z 17) (km z)) (km z)) 8 := by
    rw [← h7, ← e2]
    unfold kw_cb
    have : ∀ k, km z1 k 11 = km z k 11 := fun k => by rw [h3, kw_climbM_11]
    simp only [this]
  rw [ecb] at h5
  refine ⟨z2, ?_, ⟨⟨hz, fun i hi => (h6.1.2 i hi).trans (h2.2 i (by omega))⟩, by rw [h6.2, em]⟩, e2, fun i => by rw [h8]; exact h4 i, kw_I_fr hI hz (by rw [e2]; exact kw_passM_01 hI.1.1.2) (by rw [e2]; exact kw_passM_ok hI.2.2.2.1 hI.2.2.2.2)⟩
  simp only [kv_e215_0, kv_e215_1, kv_e215_4, kv_e215_5, kv_e215_8, kv_o10, not_false_eq_true, not_true, if_true, if_false, kv_then_s, kv_then_v, kv_then_n, List.cons_append, List.nil_append, kv_Ci, kv_Cr, kv_Cn, kv_Cu, kv_C0, kv_catc, kv_gCi, kv_gCl, kv_gCr, kv_nb0, kv_nb1, kv_nbi, kv_nb01, Nat.reduceAdd, Nat.reduceLeDiff, h1, h5]
end
