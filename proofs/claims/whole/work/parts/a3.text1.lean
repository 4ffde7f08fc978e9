/-! text(1), fault(1): a law's text, both -/
section
variable {d n B W : Nat} {e : List kv_E} {z zK zM zK' zM' : Nat → Nat → Int32} {zl zlM : Nat → Nat → Int64}
theorem kx_ofN {a b : Nat} (ha : a < 2147483648) (hb : b < 2147483648) (h : Int32.ofNat a = Int32.ofNat b) : a = b := (kv_neq ha hb) ▸ h
theorem kx_rdK {t : Nat → Int32} {L : Nat} (ht : ∀ i, i < L → kw_rg (t i) 1 255) (hd : 80 ≤ d) (h1 : z 1 1 = Int32.ofNat L) (hL : L ≤ 240) (h2 : ∀ i, i < L → z 2 i = t i) : ∃ z', kv_Rn (d + 3) 39 0 [some (.ref 30), none, none] [] (kv_h e z zl) = some (some (.int (if (kx_LW t L).1 = true then 1 else 0)), kv_h e z' zl) ∧ kx_frK z z' ∧ kw_ctK t L (kx_LW t L).2.1 z' ∧ ((kx_LW t L).1 = true → kx_pr (kx_pg 0 (kx_LW t L).2.2) z') := by
  have g1 : kv_z (kw_aK z 0) 31 (upd (z 31) 1 0) 1 = kw_aK z 0 1 := kv_zne _ _ (by omega)
  have g2 : kv_z (kw_aK z 0) 31 (upd (z 31) 1 0) 2 = z 2 := (kv_zne _ _ (by omega)).trans (kw_aK_fr _ _ (by omega))
  have c0 : kw_ctK t L 0 (kv_z (kw_aK z 0) 31 (upd (z 31) 1 0)) := ⟨⟨by rw [g1]; exact h1, hL⟩, by rw [g1]; rfl, by rw [g2]; exact h2⟩
  have p0 : kx_pr [] (kv_z (kw_aK z 0) 31 (upd (z 31) 1 0)) := ⟨by rw [kv_zs]; rfl, fun i hi => by cases hi⟩
  obtain ⟨z', r, f, c, p⟩ := kx_law_l (d := d) (kx_clauseK (d := d + 1) (e := e) (zl := zl) ht (by omega)) 240 0 0 [] _ (by omega) (by omega) (by omega) c0 p0 (Nat.zero_le _)
  refine ⟨z', ?_, kx_frK_tr (fun c a1 a2 a3 => (kv_zne _ _ a2).trans (kv_zne _ _ a1)) f, c, p⟩
  unfold kx_LW
  rw [← r]
  have e31 : kw_aK z 0 31 = z 31 := kw_aK_fr _ _ (by omega)
  have e1 : kv_z z 1 (upd (z 1) 2 0) = kw_aK z 0 := rfl
  simp only [kv_e39_0, kv_e39_1, kv_e39_4, kv_e39_5, kv_e39_8, kv_e39_9, kv_e39_12, kv_e39_13, kv_e39_16, kv_e39_17, kv_e39_18, kv_e39_19, kv_o10, not_false_eq_true, not_true, if_true, if_false, kv_then_s, kv_then_v, kv_then_n, List.cons_append, List.nil_append, kv_Ci, kv_Cr, kv_Cn, kv_Cu, kv_C0, kv_catc, kv_gCi, kv_gCl, kv_gCr, kv_nb0, kv_nb1, kv_nbi, kv_nb01, Nat.reduceAdd, Nat.reduceLeDiff, kv_isL31, e1, e31]
  rfl
theorem kx_copyK {l : Nat} (hl : l < 6) : kv_Rn d 32 0 [some (.ref (9 + 2 * l)), some (.ref 31)] [] (kv_h e z zl) = some (none, kv_h e (kv_z (kv_z z (9 + 2 * l + 1) (va_cpy (z 32) (z (9 + 2 * l + 1)) 0 0 256)) (9 + 2 * l) (upd (z (9 + 2 * l)) 1 (z 31 1))) zl) := by
  have hS := @kw_isLn e l hl
  have hT := kv_isL31 e
  have a1 : kv_ia (kv_shK ++ e) 32 := ⟨by omega, 256, hT.1.2⟩
  have a2 : kv_ia (kv_shK ++ e) (9 + 2 * l + 1) := ⟨hS.2, 256, hS.1.2⟩
  have w1 : kv_aw (kv_shK ++ e) 32 = 256 := kv_isL_aw hT
  have w2 : kv_aw (kv_shK ++ e) (9 + 2 * l + 1) = 256 := kv_isL_aw hS
  have f1 : kv_z z (9 + 2 * l + 1) (va_cpy (z 32) (z (9 + 2 * l + 1)) 0 0 256) 31 = z 31 := kv_zne _ _ (by omega)
  have f2 : kv_z z (9 + 2 * l + 1) (va_cpy (z 32) (z (9 + 2 * l + 1)) 0 0 256) (9 + 2 * l) = z (9 + 2 * l) := kv_zne _ _ (by omega)
  simp only [kv_e32_0, kv_e32_1, kv_e32_4, kv_e32_5, kv_e32_6, kv_e32_9, kv_e32_10, kv_o10, not_false_eq_true, not_true, if_true, if_false, kv_then_s, kv_then_v, kv_then_n, List.cons_append, List.nil_append, kv_Ci, kv_Cr, kv_Cn, kv_Cu, kv_C0, kv_catc, kv_gCi, kv_gCl, kv_gCr, kv_nb0, kv_nb1, kv_nbi, kv_nb01, Nat.reduceAdd, Nat.reduceLeDiff, kv_isL31, hS]
  rw [kv_e32_13 a1 a2 ⟨⟨by decide, by decide, by decide⟩, by rw [w1]; decide, by rw [w2]; decide, by decide⟩]
  simp only [kv_e32_16, kv_e32_17, kv_e32_18, kv_e32_21, kv_e32_24, kv_o10, not_false_eq_true, not_true, if_true, if_false, kv_then_s, kv_then_v, kv_then_n, List.cons_append, List.nil_append, kv_Ci, kv_Cr, kv_Cn, kv_Cu, kv_C0, kv_catc, kv_gCi, kv_gCl, kv_gCr, kv_nb0, kv_nb1, kv_nbi, kv_nb01, Nat.reduceAdd, Nat.reduceLeDiff, kv_isL31, hS, show (256 : Int32).toNatClampNeg = 256 from rfl, show (0 : Int32).toNatClampNeg = 0 from rfl, f1, f2]
theorem kx_keepK {l : Nat} (hl : l < 6) (h7 : z 7 1 = Int32.ofNat l) : kv_Rn (d + 1) 50 0 [some (.ref 7), some (.ref 31)] [] (kv_h e z zl) = some (some (.int (Int32.ofNat l)), kv_h e (kv_z (kv_z (kv_z z (9 + 2 * l + 1) (va_cpy (z 32) (z (9 + 2 * l + 1)) 0 0 256)) (9 + 2 * l) (upd (z (9 + 2 * l)) 1 (z 31 1))) 7 (upd (z 7) 1 (Int32.ofNat (l + 1)))) zl) := by
  have cp := kx_copyK (d := d) (e := e) (z := z) (zl := zl) hl
  have hl2 : l < 2147483648 := by omega
  have l0 : (Int32.ofNat l < 0) = False := kw_n0 hl2
  have l6 : ((6 : Int32) ≤ Int32.ofNat l) = False := (kv_nle (a := 6) (by omega) (by omega)).trans (eq_false (by omega))
  have lt6 : (Int32.ofNat l < 6) = True := eq_true (Int32.not_le.mp (fun q => by rw [l6] at q; exact q))
  have a6 : (6 ≤ l) = False := eq_false (by omega)
  have f7 : ∀ f g, kv_z (kv_z z (9 + 2 * l + 1) f) (9 + 2 * l) g 7 = z 7 := fun f g => (kv_zne _ _ (by omega)).trans (kv_zne _ _ (by omega))
  have hS := @kw_isLn e l hl
  have u1 : ∀ x, upd (z 7) 1 x 1 = x := fun x => if_pos rfl
  simp only [kv_e50_0, kv_e50_1, kv_e50_4, kv_e50_7, kv_e50_8, kv_e50_11, kv_e50_12, kv_e50_15, kv_e50_16, kv_e50_19, kv_e50_20, kv_e50_21, kv_e50_22, kv_e50_25, kv_e50_26, kv_e50_29, kv_e50_30, kv_e50_31, kv_e50_34, kv_e50_35, kv_e50_36, kv_e50_39, kv_e50_40, kv_e50_41, kv_e50_44, kv_e50_45, kv_e50_48, kv_e50_49, kv_e50_50, kv_o10, not_false_eq_true, not_true, if_true, if_false, kv_then_s, kv_then_v, kv_then_n, List.cons_append, List.nil_append, kv_Ci, kv_Cr, kv_Cn, kv_Cu, kv_C0, kv_catc, kv_gCi, kv_gCl, kv_gCr, kv_nb0, kv_nb1, kv_nbi, kv_nb01, Nat.reduceAdd, Nat.reduceLeDiff, h7, l0, l6, lt6, kw_n0 hl2, kv_tn hl2, a6, or_self, hS, cp, f7, kv_suc, kv_zs, u1, kv_pre]
theorem kx_RL_at {T : Nat → Int32} {L : Nat} {l : Nat} {z2 : Nat → Nat → Int32} (h : kw_RL zK zM) (hl : zK 7 1 = Int32.ofNat l ∧ l < 6) (hL : L ≤ 240) (hok : (kx_LW T L).1 = true) (hp : kx_pr (kx_pg 0 (kx_LW T L).2.2) z) (fK : ∀ c, 7 ≤ c → c ≤ 29 → z c = zK c) (e2 : z2 = kv_z (kv_z (kv_z z (9 + 2 * l + 1) (va_cpy (z 32) (z (9 + 2 * l + 1)) 0 0 256)) (9 + 2 * l) (upd (z (9 + 2 * l)) 1 (z 31 1))) 7 (upd (z 7) 1 (Int32.ofNat (l + 1)))) (hm : kx_mc l (kx_cds (kx_LW T L).2.2) zM') (hr : kx_cr l (kx_rws 0 (kx_LW T L).2.2) zM') (hAG : ∀ i, i ≠ l → kw_AG i zM zM') (m13 : zM' 0 13 = Int32.ofNat (l + 1)) (m27 : zM' 0 27 = zM 0 27) (m28 : zM' 0 28 = zM 0 28) : kw_RL z2 zM' := by
  obtain ⟨b0, l', l1, ⟨l2, l2'⟩, l3, l4, l5⟩ := h
  have el : l' = l := by
    have := l2.symm.trans hl.1
    exact kx_ofN (by omega) (by omega) this
  subst el
  obtain ⟨-, hl6⟩ := hl
  have f2 : ∀ c, c ≠ 7 → c ≠ 9 + 2 * l' → c ≠ 9 + 2 * l' + 1 → z2 c = z c := fun c a1 a2 a3 => by rw [e2, kv_zne _ _ a1, kv_zne _ _ a2, kv_zne _ _ a3]
  have f7 : z2 7 = upd (z 7) 1 (Int32.ofNat (l' + 1)) := by rw [e2]; exact kv_zs _ _ _
  have lx : ∀ x, kw_LX l' x → kw_LX (l' + 1) x := fun x h => h.elim Or.inl (fun ⟨i, hi, hx⟩ => Or.inr ⟨i, by omega, hx⟩)
  have k7 := fK 7 (by omega) (by omega)
  have h72 : z2 7 2 = zK 7 2 := by rw [f7, k7]; rfl
  have h73 : z2 7 3 = zK 7 3 := by rw [f7, k7]; rfl
  refine ⟨fun i hi => by rw [f2 29 (by omega) (by omega) (by omega), fK 29 (by omega) (by omega)]; exact b0 i hi, l' + 1, by omega, ⟨by rw [f7]; exact if_pos rfl, m13⟩, ⟨by rw [h72, m27]; exact l3.1, by rw [h72]; exact lx _ l3.2⟩, ⟨by rw [h73, m28]; exact l4.1, by rw [h73]; exact lx _ l4.2⟩, fun i hi => ?_⟩
  by_cases q : i = l'
  · subst q
    have hpl : (kx_pg 0 (kx_LW T L).2.2).length ≤ 240 := by
      obtain ⟨g1, g2, g3, g4, g5⟩ := kx_law_len (t := T) (L := L) (fun a ha => kx_WC_cls (t := T) (kx_W_S (t := T) (L := L) 6) (kx_W_U (t := T) (L := L) 6) ha) 240 0 (Nat.zero_le _)
      have := g3 0
      exact Nat.le_trans (Nat.le_trans (Nat.le_add_right _ _) this) (Nat.le_trans g1 hL)
    have s1 : z2 (9 + 2 * i) 1 = Int32.ofNat (kx_pg 0 (kx_LW T L).2.2).length := by
      rw [e2, kv_zne _ _ (by omega), kv_zs]
      exact (if_pos rfl).trans hp.1
    have s2 : ∀ j, j < (kx_pg 0 (kx_LW T L).2.2).length → z2 (9 + 2 * i + 1) j = (kx_pg 0 (kx_LW T L).2.2).getD j 0 := by
      intro j hj
      rw [e2, kv_zne _ _ (by omega), kv_zne _ _ (by omega), kv_zs, ← hp.2 j hj]
      unfold va_cpy
      rw [if_pos (by omega)]
      congr 1
      omega
    rw [s1]
    exact kx_law_ML hL hok hm hr s2
  · rw [f2 (9 + 2 * i) (by omega) (by omega) (by omega), f2 (9 + 2 * i + 1) (by omega) (by omega) (by omega), fK (9 + 2 * i) (by omega) (by omega), fK (9 + 2 * i + 1) (by omega) (by omega)]
    refine kw_ML_fr (l5 i (by omega)) ?_
    rw [kv_tn (by omega)]
    exact hAG i q
theorem kx_RL_AG {l : Nat} (h : kw_RL zK zM) (hl : zK 7 1 = Int32.ofNat l ∧ l ≤ 6) (k : ∀ c, 7 ≤ c → c ≤ 29 → zK' c = zK c) (m0 : zM' 0 13 = zM 0 13 ∧ zM' 0 27 = zM 0 27 ∧ zM' 0 28 = zM 0 28) (hAG : ∀ i, i < l → kw_AG i zM zM') : kw_RL zK' zM' := by
  obtain ⟨b0, l', l1, l2, l3, l4, l5⟩ := h
  have el : l' = l := kx_ofN (by omega) (by omega) (l2.1.symm.trans hl.1)
  subst el
  refine ⟨by rw [k 29 (by omega) (by omega)]; exact b0, l', l1, by rw [k 7 (by omega) (by omega), m0.1]; exact l2, by rw [k 7 (by omega) (by omega), m0.2.1]; exact l3, by rw [k 7 (by omega) (by omega), m0.2.2]; exact l4, fun i hi => ?_⟩
  rw [k (9 + 2 * i + 1) (by omega) (by omega), k (9 + 2 * i) (by omega) (by omega)]
  refine kw_ML_fr (l5 i hi) ?_
  rw [kv_tn (by omega)]
  exact hAG i hi
/-- the law's text, read on both sides -/
theorem kx_laws (h : kw_R n B W zK zM) : ∃ (T : Nat → Int32) (L : Nat), L ≤ 240 ∧ (zK 1 1 = Int32.ofNat L ∧ zM 0 2 = Int32.ofNat L) ∧ (∀ i, i < L → zK 2 i = T i) ∧ (∀ i, i < L → zM 1 i = T i) ∧ ∀ i, i < L → kw_rg (T i) 1 255 := by
  obtain ⟨⟨⟨L, hL, h1, h2, h3⟩, -⟩, -⟩ := h
  exact ⟨zM 1, L, hL, ⟨h1, h2⟩, fun i hi => (h3 i hi).1, fun i _ => rfl, fun i hi => (h3 i hi).2⟩
/-- what was read and not kept -/
theorem kx_R_read {T : Nat → Int32} {L m a : Nat} {zk zm : Nat → Nat → Int32} (h : kw_R n B W zK zM) (hm : ∀ l, zK 7 1 = Int32.ofNat l → l ≤ 6 → l ≤ m) (t2 : zM 0 2 = Int32.ofNat L) (t4 : ∀ i, i < L → zM 1 i = T i) (t5 : ∀ i, i < L → kw_rg (T i) 1 255) (fk : kx_frK zK zk) (ck : kw_ctK T L a zk) (fm : ∀ c, c ≠ 0 → (c < 2 ∨ 8 < c) → zm c = zM c) (fm0 : ∀ j, j ≠ 3 → j ≠ 4 → j ≠ 5 → j ≠ 14 → zm 0 j = zM 0 j) (fmA : ∀ i, i ≠ m → kw_AG i zM zm) : kw_R n B W zk zm := by
  obtain ⟨⟨hT, hA, hF, hLw⟩, ⟨hN, hI, hC⟩, hE, hG⟩ := h
  obtain ⟨l, l1, l2⟩ : ∃ l, l ≤ 6 ∧ zK 7 1 = Int32.ofNat l := by
    obtain ⟨-, l, l1, l2, -⟩ := hLw
    exact ⟨l, l1, l2.1⟩
  have hlm := hm l l2 l1
  have g0 : ∀ j, j ≠ 3 → j ≠ 4 → j ≠ 5 → j ≠ 14 → zm 0 j = zM 0 j := fm0
  have kc : ∀ c, c ≠ 1 → c ≠ 31 → c ≠ 32 → zk c = zK c := fk
  refine ⟨⟨⟨L, ck.1.2, ck.1.1, by rw [g0 2 (by omega) (by omega) (by omega) (by omega)]; exact t2, fun i hi => ⟨?_, ?_⟩⟩, kw_RA_fr hA (fun c a b => kc c (by omega) (by omega) (by omega)) (g0 25 (by omega) (by omega) (by omega) (by omega)) (fm 15 (by omega) (by omega)), kw_RF_fr hF (kc 3 (by omega) (by omega) (by omega)) (g0 24 (by omega) (by omega) (by omega) (by omega)) (fm 14 (by omega) (by omega)), kx_RL_AG hLw ⟨l2, l1⟩ (fun c a b => kc c (by omega) (by omega) (by omega)) ⟨g0 13 (by omega) (by omega) (by omega) (by omega), g0 27 (by omega) (by omega) (by omega) (by omega), g0 28 (by omega) (by omega) (by omega) (by omega)⟩ (fun i hi => fmA i (by omega))⟩, ⟨kw_RN_fr hN (fun c a b => kc c (by omega) (by omega) (by omega)) (fm 16 (by omega) (by omega)), kw_RI_fr hI (by rw [kc 0 (by omega) (by omega) (by omega)]) (fun c a b => kc c (by omega) (by omega) (by omega)) (g0 42 (by omega) (by omega) (by omega) (by omega)) (fm 25 (by omega) (by omega)), kw_RC_fr hC (fun c a b => kc c (by omega) (by omega) (by omega)) (g0 33 (by omega) (by omega) (by omega) (by omega)) (fm 19 (by omega) (by omega))⟩, kw_RE_fr hE (fun c a b => kc c (by omega) (by omega) (by omega)) (g0 40 (by omega) (by omega) (by omega) (by omega)) (fun c a b => fm c (by omega) (by omega)), kw_RG_fr hG (by rw [kc 0 (by omega) (by omega) (by omega)]) (g0 29 (by omega) (by omega) (by omega) (by omega))⟩
  · rw [ck.2.2 i hi, fm 1 (by omega) (by omega), t4 i hi]
  · rw [fm 1 (by omega) (by omega), t4 i hi]
    exact t5 i hi
theorem kx_LW_le {T : Nat → Int32} {L : Nat} : (kx_LW T L).2.1 ≤ L := by
  obtain ⟨g1, -⟩ := kx_law_len (t := T) (L := L) (fun a ha => kx_WC_cls (t := T) (kx_W_S (t := T) (L := L) 6) (kx_W_U (t := T) (L := L) 6) ha) 240 0 (Nat.zero_le _)
  exact g1
theorem kw_f_text1 (h : kw_R n B W zK zM) : kw_A (d + 120) 85 192 [some (.ref 0), some (.int 1)] [some (.ref 0), some (.int 1)] zK zM zl zlM := by
  have h0 := h
  obtain ⟨T, L, hL, ⟨t1, t2⟩, t3, t4, t5⟩ := kx_laws h
  obtain ⟨⟨hT, hA, hF, hLw⟩, ⟨hN, hI, hC⟩, hE, hG⟩ := h
  obtain ⟨l, l1, l2, l2'⟩ : ∃ l, l ≤ 6 ∧ zK 7 1 = Int32.ofNat l ∧ zM 0 13 = Int32.ofNat l := by
    obtain ⟨-, l, l1, l2, -⟩ := hLw
    exact ⟨l, l1, l2.1, l2.2⟩
  have e6 : ((6 : Int32) ≤ Int32.ofNat l) = (6 ≤ l) := kv_nle (a := 6) (by omega) (by omega)
  by_cases q6 : 6 ≤ l
  · refine kw_A0 (r := -1) h0 ?_ ?_
    · simp only [kv_e85_0, kv_e85_1, kv_e85_4, kv_e85_5, kv_e85_8, kv_e85_11, kv_e85_14, kv_e85_15, kv_e85_18, kv_e85_19, kv_e85_22, kv_e85_23, kv_e85_26, kv_e85_27, kv_e85_28, kv_e85_29, kv_e85_32, kv_e85_33, kv_e85_36, kv_e85_39, kv_e85_41, kv_e85_44, kv_e85_45, kv_e85_48, kv_e85_51, kv_e85_54, kv_e85_55, kv_e85_58, kv_e85_59, kv_e85_62, kv_e85_63, kv_e85_66, kv_e85_67, kv_e85_70, kv_e85_73, kv_e85_76, kv_e85_77, kv_e85_78, kv_o10, not_false_eq_true, not_true, if_true, if_false, kv_then_s, kv_then_v, kv_then_n, List.cons_append, List.nil_append, kv_Ci, kv_Cr, kv_Cn, kv_Cu, kv_C0, kv_catc, kv_gCi, kv_gCl, kv_gCr, kv_nb0, kv_nb1, kv_nbi, kv_nb01, Nat.reduceAdd, Nat.reduceLeDiff, l2, e6, q6, show ((1 : Int32) = 0) = False from by decide]
    · simp only [kv_e192_0, kv_e192_1, kv_e192_4, kv_e192_5, kv_e192_8, kv_e192_9, kv_e192_12, kv_e192_13, kv_e192_14, kv_e192_17, kv_e192_18, kv_e192_21, kv_e192_22, kv_e192_23, kv_e192_24, kv_e192_27, kv_e192_28, kv_e192_31, kv_e192_33, kv_e192_36, kv_e192_37, kv_e192_38, kv_e192_41, kv_e192_44, kv_e192_45, kv_e192_48, kv_e192_49, kv_e192_50, kv_e192_53, kv_e192_54, kv_e192_55, kv_e192_58, kv_e192_59, kv_e192_60, kv_e192_63, kv_e192_64, kv_e192_67, kv_e192_68, kv_e192_69, kv_e192_70, kv_e192_71, kv_o10, not_false_eq_true, not_true, if_true, if_false, kv_then_s, kv_then_v, kv_then_n, List.cons_append, List.nil_append, kv_Ci, kv_Cr, kv_Cn, kv_Cu, kv_C0, kv_catc, kv_gCi, kv_gCl, kv_gCr, kv_nb0, kv_nb1, kv_nbi, kv_nb01, Nat.reduceAdd, Nat.reduceLeDiff, l2', e6, q6, show ((1 : Int32) = 0) = False from by decide]
  · obtain ⟨zk, rk, fk, ck, pk⟩ := kx_rdK (d := d + 116) (e := []) (z := zK) (zl := zl) (t := T) (L := L) t5 (by omega) t1 hL t3
    obtain ⟨zm, rm, ⟨fm, fm0, fmA⟩, pm⟩ := kx_readLawM (d := d + 117) (z := zM) (zl := zlM) (t := T) (L := L) (n := l) (by omega) t2 hL t4 l1
    have fmc : ∀ c, c ≠ 0 → (c < 2 ∨ 8 < c) → zm c = zM c := fm
    by_cases qo : (kx_LW T L).1 = true
    · rw [if_pos qo] at rk rm
      have pk := pk qo
      obtain ⟨pm1, pm2⟩ := pm qo
      obtain ⟨z2, e2⟩ : ∃ z2, z2 = kv_z (kv_z (kv_z (kv_z zk 1 (upd (zk 1) 1 0)) (9 + 2 * l + 1) (va_cpy (zk 32) (zk (9 + 2 * l + 1)) 0 0 256)) (9 + 2 * l) (upd (zk (9 + 2 * l)) 1 (zk 31 1))) 7 (upd (zk 7) 1 (Int32.ofNat (l + 1))) := ⟨_, rfl⟩
      obtain ⟨w2, e3⟩ : ∃ w2, w2 = kx_f (kx_f zm 2 0) 13 (Int32.ofNat (l + 1)) := ⟨_, rfl⟩
      have g0 : ∀ j, j ≠ 3 → j ≠ 4 → j ≠ 5 → j ≠ 14 → j ≠ 2 → j ≠ 13 → w2 0 j = zM 0 j := fun j a1 a2 a3 a4 a5 a6 => by rw [e3, kx_f_ne _ _ a6, kx_f_ne _ _ a5, fm0 j a1 a2 a3 a4]
      have g2 : w2 0 2 = 0 := by rw [e3, kx_f_ne _ _ (by omega), kx_f_at]
      have g13 : w2 0 13 = Int32.ofNat (l + 1) := by rw [e3, kx_f_at]
      have gc : ∀ c, c ≠ 0 → w2 c = zm c := fun c a => by rw [e3, kx_f_fr _ _ _ a, kx_f_fr _ _ _ a]
      have gc' : ∀ c, c ≠ 0 → (c < 2 ∨ 8 < c) → w2 c = zM c := fun c a b => (gc c a).trans (fm c a b)
      have k1 : ∀ c, c ≠ 1 → kv_z zk 1 (upd (zk 1) 1 0) c = zk c := fun c a => kv_zne _ _ a
      have kc : ∀ c, c ≠ 1 → c ≠ 7 → c ≠ 31 → c ≠ 32 → (c < 9 ∨ 20 < c) → z2 c = zK c := fun c a1 a2 a3 a4 a5 => by
        rw [e2, kv_zne _ _ a2, kv_zne _ _ (by omega), kv_zne _ _ (by omega), k1 c a1]
        exact fk c a1 a3 a4
      have mm14 : w2 0 14 = Int32.ofNat l := by rw [e3, kx_f_ne _ _ (by omega), kx_f_ne _ _ (by omega)]; exact pm1.1.1
      have L2 : kw_RL z2 w2 := by
        refine kx_RL_at (z := kv_z zk 1 (upd (zk 1) 1 0)) (z2 := z2) hLw ⟨l2, by omega⟩ hL qo ⟨by rw [k1 31 (by omega)]; exact pk.1, by rw [k1 32 (by omega)]; exact pk.2⟩ (fun c a b => (k1 c (by omega)).trans (fk c (by omega) (by omega) (by omega))) ?_ ⟨⟨mm14, pm1.1.2⟩, by rw [gc 4 (by omega)]; exact pm1.2.1, by rw [gc 2 (by omega), gc 3 (by omega)]; exact pm1.2.2⟩ (kx_cr_fr pm2 (gc 5 (by omega)) (gc 6 (by omega)) (gc 7 (by omega)) (gc 8 (by omega))) (fun i hi => kw_AG_tr (fmA i hi) (kw_AG_of (fun c a b => gc c (by omega)))) g13 (g0 27 (by omega) (by omega) (by omega) (by omega) (by omega) (by omega)) (g0 28 (by omega) (by omega) (by omega) (by omega) (by omega) (by omega))
        rw [e2, k1 32 (by omega), k1 31 (by omega), k1 7 (by omega), k1 (9 + 2 * l) (by omega), k1 (9 + 2 * l + 1) (by omega)]
      have R2 : kw_R n B W z2 w2 := by
        refine ⟨⟨⟨0, by omega, ?_, g2, fun i hi => absurd hi (Nat.not_lt_zero _)⟩, kw_RA_fr hA (fun c a b => kc c (by omega) (by omega) (by omega) (by omega) (by omega)) (g0 25 (by omega) (by omega) (by omega) (by omega) (by omega) (by omega)) (gc' 15 (by omega) (by omega)), kw_RF_fr hF (kc 3 (by omega) (by omega) (by omega) (by omega) (by omega)) (g0 24 (by omega) (by omega) (by omega) (by omega) (by omega) (by omega)) (gc' 14 (by omega) (by omega)), L2⟩, ⟨kw_RN_fr hN (fun c a b => kc c (by omega) (by omega) (by omega) (by omega) (by omega)) (gc' 16 (by omega) (by omega)), kw_RI_fr hI (by rw [kc 0 (by omega) (by omega) (by omega) (by omega) (by omega)]) (fun c a b => kc c (by omega) (by omega) (by omega) (by omega) (by omega)) (g0 42 (by omega) (by omega) (by omega) (by omega) (by omega) (by omega)) (gc' 25 (by omega) (by omega)), kw_RC_fr hC (fun c a b => kc c (by omega) (by omega) (by omega) (by omega) (by omega)) (g0 33 (by omega) (by omega) (by omega) (by omega) (by omega) (by omega)) (gc' 19 (by omega) (by omega))⟩, kw_RE_fr hE (fun c a b => kc c (by omega) (by omega) (by omega) (by omega) (by omega)) (g0 40 (by omega) (by omega) (by omega) (by omega) (by omega) (by omega)) (fun c a b => gc' c (by omega) (by omega)), kw_RG_fr hG (by rw [kc 0 (by omega) (by omega) (by omega) (by omega) (by omega)]) (g0 29 (by omega) (by omega) (by omega) (by omega) (by omega) (by omega))⟩
        rw [e2, kv_zne _ _ (by omega), kv_zne _ _ (by omega), kv_zne _ _ (by omega), kv_zs]
        exact if_pos rfl
      refine kw_A1 (r := Int32.ofNat l) R2 ?_ ?_
      · have kp := kx_keepK (d := d + 118) (e := []) (z := kv_z zk 1 (upd (zk 1) 1 0)) (zl := zl) (l := l) (by omega) (by rw [k1 7 (by omega), fk 7 (by omega) (by omega) (by omega)]; exact l2)
        rw [k1 32 (by omega), k1 31 (by omega), k1 7 (by omega), k1 (9 + 2 * l) (by omega), k1 (9 + 2 * l + 1) (by omega), ← e2] at kp
        simp only [kv_e85_0, kv_e85_1, kv_e85_4, kv_e85_5, kv_e85_8, kv_e85_11, kv_e85_14, kv_e85_15, kv_e85_18, kv_e85_19, kv_e85_22, kv_e85_23, kv_e85_26, kv_e85_27, kv_e85_28, kv_e85_29, kv_e85_32, kv_e85_33, kv_e85_36, kv_e85_39, kv_e85_41, kv_e85_44, kv_e85_45, kv_e85_48, kv_e85_51, kv_e85_54, kv_e85_55, kv_e85_58, kv_e85_59, kv_e85_62, kv_e85_63, kv_e85_66, kv_e85_67, kv_e85_70, kv_e85_73, kv_e85_76, kv_e85_77, kv_e85_78, kv_o10, not_false_eq_true, not_true, if_true, if_false, kv_then_s, kv_then_v, kv_then_n, List.cons_append, List.nil_append, kv_Ci, kv_Cr, kv_Cn, kv_Cu, kv_C0, kv_catc, kv_gCi, kv_gCl, kv_gCr, kv_nb0, kv_nb1, kv_nbi, kv_nb01, Nat.reduceAdd, Nat.reduceLeDiff, l2, e6, q6, rk, kp, show ((1 : Int32) = 0) = False from by decide]
      · have zm13 : zm 0 13 = Int32.ofNat l := (fm0 13 (by omega) (by omega) (by omega) (by omega)).trans l2'
        have zm13' : kx_f zm 2 0 0 13 = Int32.ofNat l := (kx_f_ne _ _ (by omega)).trans zm13
        have w13 : w2 0 13 = Int32.ofNat (l + 1) := g13
        simp only [kv_e192_0, kv_e192_1, kv_e192_4, kv_e192_5, kv_e192_8, kv_e192_9, kv_e192_12, kv_e192_13, kv_e192_14, kv_e192_17, kv_e192_18, kv_e192_21, kv_e192_22, kv_e192_23, kv_e192_24, kv_e192_27, kv_e192_28, kv_e192_31, kv_e192_33, kv_e192_36, kv_e192_37, kv_e192_38, kv_e192_41, kv_e192_44, kv_e192_45, kv_e192_48, kv_e192_49, kv_e192_50, kv_e192_53, kv_e192_54, kv_e192_55, kv_e192_58, kv_e192_59, kv_e192_60, kv_e192_63, kv_e192_64, kv_e192_67, kv_e192_68, kv_e192_69, kv_e192_70, kv_e192_71, kv_o10, not_false_eq_true, not_true, if_true, if_false, kv_then_s, kv_then_v, kv_then_n, List.cons_append, List.nil_append, kv_Ci, kv_Cr, kv_Cn, kv_Cu, kv_C0, kv_catc, kv_gCi, kv_gCl, kv_gCr, kv_nb0, kv_nb1, kv_nbi, kv_nb01, Nat.reduceAdd, Nat.reduceLeDiff, l2', e6, q6, rm, show ((1 : Int32) = 0) = False from by decide, kx_fd, zm13', kv_suc, ← e3, g13, kv_pre]
    · rw [if_neg qo] at rk rm
      have hm1 : (Int32.ofNat (kx_LW T L).2.1 = -1) = False := by
        obtain ⟨g1, -⟩ := kx_law_len (t := T) (L := L) (fun a ha => kx_WC_cls (t := T) (kx_W_S (t := T) (L := L) 6) (kx_W_U (t := T) (L := L) 6) ha) 240 0 (Nat.zero_le _)
        exact kw_of_m1 (Nat.lt_of_le_of_lt (Nat.le_trans g1 hL) (by decide))
      refine kw_A1 (r := -1) (n := n) (B := B) (W := W) (zK' := zk) (zM' := zm) ?_ ?_ ?_
      · exact kx_R_read (m := l) h0 (fun l' q1 q2 => Nat.le_of_eq (kx_ofN (by omega) (by omega) (q1.symm.trans l2))) t2 t4 t5 fk ck fm fm0 fmA
      · simp only [kv_e85_0, kv_e85_1, kv_e85_4, kv_e85_5, kv_e85_8, kv_e85_11, kv_e85_14, kv_e85_15, kv_e85_18, kv_e85_19, kv_e85_22, kv_e85_23, kv_e85_26, kv_e85_27, kv_e85_28, kv_e85_29, kv_e85_32, kv_e85_33, kv_e85_36, kv_e85_39, kv_e85_41, kv_e85_44, kv_e85_45, kv_e85_48, kv_e85_51, kv_e85_54, kv_e85_55, kv_e85_58, kv_e85_59, kv_e85_62, kv_e85_63, kv_e85_66, kv_e85_67, kv_e85_70, kv_e85_73, kv_e85_76, kv_e85_77, kv_e85_78, kv_o10, not_false_eq_true, not_true, if_true, if_false, kv_then_s, kv_then_v, kv_then_n, List.cons_append, List.nil_append, kv_Ci, kv_Cr, kv_Cn, kv_Cu, kv_C0, kv_catc, kv_gCi, kv_gCl, kv_gCr, kv_nb0, kv_nb1, kv_nbi, kv_nb01, Nat.reduceAdd, Nat.reduceLeDiff, l2, e6, q6, rk, show ((1 : Int32) = 0) = False from by decide]
      · simp only [kv_e192_0, kv_e192_1, kv_e192_4, kv_e192_5, kv_e192_8, kv_e192_9, kv_e192_12, kv_e192_13, kv_e192_14, kv_e192_17, kv_e192_18, kv_e192_21, kv_e192_22, kv_e192_23, kv_e192_24, kv_e192_27, kv_e192_28, kv_e192_31, kv_e192_33, kv_e192_36, kv_e192_37, kv_e192_38, kv_e192_41, kv_e192_44, kv_e192_45, kv_e192_48, kv_e192_49, kv_e192_50, kv_e192_53, kv_e192_54, kv_e192_55, kv_e192_58, kv_e192_59, kv_e192_60, kv_e192_63, kv_e192_64, kv_e192_67, kv_e192_68, kv_e192_69, kv_e192_70, kv_e192_71, kv_o10, not_false_eq_true, not_true, if_true, if_false, kv_then_s, kv_then_v, kv_then_n, List.cons_append, List.nil_append, kv_Ci, kv_Cr, kv_Cn, kv_Cu, kv_C0, kv_catc, kv_gCi, kv_gCl, kv_gCr, kv_nb0, kv_nb1, kv_nbi, kv_nb01, Nat.reduceAdd, Nat.reduceLeDiff, l2', e6, q6, rm, hm1, show ((1 : Int32) = 0) = False from by decide]
theorem kw_f_fault1 (h : kw_R n B W zK zM) : kw_A (d + 120) 84 190 [some (.ref 0), some (.int 1), none] [some (.ref 0), some (.int 1)] zK zM zl zlM := by
  obtain ⟨T, L, hL, ⟨t1, t2⟩, t3, t4, t5⟩ := kx_laws h
  obtain ⟨zk, rk, fk, ck, pk⟩ := kx_rdK (d := d + 116) (e := []) (z := zK) (zl := zl) (t := T) (L := L) t5 (by omega) t1 hL t3
  obtain ⟨zm, rm, ⟨fm, fm0, fmA⟩, pm⟩ := kx_readLawM (d := d + 117) (z := zM) (zl := zlM) (t := T) (L := L) (n := 6) (by omega) t2 hL t4 (Nat.le_refl _)
  have hR : kw_R n B W zk zm := kx_R_read (m := 6) h (fun l' q1 q2 => q2) t2 t4 t5 fk ck fm fm0 fmA
  rw [show Int32.ofNat 6 = (6 : Int32) from rfl] at rm
  by_cases qo : (kx_LW T L).1 = true
  · rw [if_pos qo] at rk rm
    refine kw_A1 (r := -1) hR ?_ ?_
    · simp only [kv_e84_0, kv_e84_1, kv_e84_4, kv_e84_5, kv_e84_6, kv_e84_9, kv_e84_11, kv_e84_12, kv_e84_13, kv_e84_16, kv_e84_17, kv_e84_20, kv_e84_23, kv_e84_26, kv_e84_27, kv_e84_30, kv_e84_33, kv_e84_34, kv_e84_35, kv_e84_38, kv_e84_39, kv_e84_42, kv_e84_43, kv_e84_46, kv_e84_49, kv_o10, not_false_eq_true, not_true, if_true, if_false, kv_then_s, kv_then_v, kv_then_n, List.cons_append, List.nil_append, kv_Ci, kv_Cr, kv_Cn, kv_Cu, kv_C0, kv_catc, kv_gCi, kv_gCl, kv_gCr, kv_nb0, kv_nb1, kv_nbi, kv_nb01, Nat.reduceAdd, Nat.reduceLeDiff, rk, show ((1 : Int32) = 0) = False from by decide]
    · simp only [kv_e190_0, kv_e190_1, kv_e190_4, kv_e190_5, kv_e190_8, kv_e190_11, kv_e190_12, kv_e190_13, kv_e190_16, kv_e190_17, kv_e190_19, kv_e190_22, kv_e190_25, kv_e190_27, kv_o10, not_false_eq_true, not_true, if_true, if_false, kv_then_s, kv_then_v, kv_then_n, List.cons_append, List.nil_append, kv_Ci, kv_Cr, kv_Cn, kv_Cu, kv_C0, kv_catc, kv_gCi, kv_gCl, kv_gCr, kv_nb0, kv_nb1, kv_nbi, kv_nb01, Nat.reduceAdd, Nat.reduceLeDiff, rm, show ((1 : Int32) = 0) = False from by decide]
  · rw [if_neg qo] at rk rm
    refine kw_A1 (r := Int32.ofNat (kx_LW T L).2.1) hR ?_ ?_
    · simp only [kv_e84_0, kv_e84_1, kv_e84_4, kv_e84_5, kv_e84_6, kv_e84_9, kv_e84_11, kv_e84_12, kv_e84_13, kv_e84_16, kv_e84_17, kv_e84_20, kv_e84_23, kv_e84_26, kv_e84_27, kv_e84_30, kv_e84_33, kv_e84_34, kv_e84_35, kv_e84_38, kv_e84_39, kv_e84_42, kv_e84_43, kv_e84_46, kv_e84_49, kv_o10, not_false_eq_true, not_true, if_true, if_false, kv_then_s, kv_then_v, kv_then_n, List.cons_append, List.nil_append, kv_Ci, kv_Cr, kv_Cn, kv_Cu, kv_C0, kv_catc, kv_gCi, kv_gCl, kv_gCr, kv_nb0, kv_nb1, kv_nbi, kv_nb01, Nat.reduceAdd, Nat.reduceLeDiff, rk, ck.2.1, show ((1 : Int32) = 0) = False from by decide]
    · simp only [kv_e190_0, kv_e190_1, kv_e190_4, kv_e190_5, kv_e190_8, kv_e190_11, kv_e190_12, kv_e190_13, kv_e190_16, kv_e190_17, kv_e190_19, kv_e190_22, kv_e190_25, kv_e190_27, kv_o10, not_false_eq_true, not_true, if_true, if_false, kv_then_s, kv_then_v, kv_then_n, List.cons_append, List.nil_append, kv_Ci, kv_Cr, kv_Cn, kv_Cu, kv_C0, kv_catc, kv_gCi, kv_gCl, kv_gCr, kv_nb0, kv_nb1, kv_nbi, kv_nb01, Nat.reduceAdd, Nat.reduceLeDiff, rm, show ((1 : Int32) = 0) = False from by decide]
theorem kw_f_text2 (h : kw_R n B W zK zM) (x : Int32) (h0 : ¬ x = 0) (h1 : ¬ x = 1) : kw_A d 85 192 [some (.ref 0), some (.int x)] [some (.ref 0), some (.int x)] zK zM zl zlM := by
  refine kw_A0 (r := -1) h ?_ ?_
  · simp only [kv_e85_0, kv_e85_1, kv_e85_4, kv_e85_5, kv_e85_8, kv_e85_11, kv_e85_14, kv_e85_15, kv_e85_18, kv_e85_19, kv_e85_22, kv_e85_23, kv_e85_26, kv_e85_27, kv_e85_28, kv_e85_29, kv_e85_32, kv_e85_33, kv_e85_36, kv_e85_39, kv_e85_41, kv_e85_44, kv_e85_45, kv_e85_48, kv_e85_51, kv_e85_54, kv_e85_55, kv_e85_58, kv_e85_59, kv_e85_62, kv_e85_63, kv_e85_66, kv_e85_67, kv_e85_70, kv_e85_73, kv_e85_76, kv_e85_77, kv_e85_78, kv_o10, not_false_eq_true, not_true, if_true, if_false, kv_then_s, kv_then_v, kv_then_n, List.cons_append, List.nil_append, kv_Ci, kv_Cr, kv_Cn, kv_Cu, kv_C0, kv_catc, kv_gCi, kv_gCl, kv_gCr, kv_nb0, kv_nb1, kv_nbi, kv_nb01, Nat.reduceAdd, Nat.reduceLeDiff, h0, h1]
  · simp only [kv_e192_0, kv_e192_1, kv_e192_4, kv_e192_5, kv_e192_8, kv_e192_9, kv_e192_12, kv_e192_13, kv_e192_14, kv_e192_17, kv_e192_18, kv_e192_21, kv_e192_22, kv_e192_23, kv_e192_24, kv_e192_27, kv_e192_28, kv_e192_31, kv_e192_33, kv_e192_36, kv_e192_37, kv_e192_38, kv_e192_41, kv_e192_44, kv_e192_45, kv_e192_48, kv_e192_49, kv_e192_50, kv_e192_53, kv_e192_54, kv_e192_55, kv_e192_58, kv_e192_59, kv_e192_60, kv_e192_63, kv_e192_64, kv_e192_67, kv_e192_68, kv_e192_69, kv_e192_70, kv_e192_71, kv_o10, not_false_eq_true, not_true, if_true, if_false, kv_then_s, kv_then_v, kv_then_n, List.cons_append, List.nil_append, kv_Ci, kv_Cr, kv_Cn, kv_Cu, kv_C0, kv_catc, kv_gCi, kv_gCl, kv_gCr, kv_nb0, kv_nb1, kv_nbi, kv_nb01, Nat.reduceAdd, Nat.reduceLeDiff, h0, h1]
theorem kw_f_fault2 (h : kw_R n B W zK zM) (x : Int32) (h0 : ¬ x = 0) (h1 : ¬ x = 1) : kw_A d 84 190 [some (.ref 0), some (.int x), none] [some (.ref 0), some (.int x)] zK zM zl zlM := by
  refine kw_A0 (r := -2) h ?_ ?_
  · simp only [kv_e84_0, kv_e84_1, kv_e84_4, kv_e84_5, kv_e84_6, kv_e84_9, kv_e84_11, kv_e84_12, kv_e84_13, kv_e84_16, kv_e84_17, kv_e84_20, kv_e84_23, kv_e84_26, kv_e84_27, kv_e84_30, kv_e84_33, kv_e84_34, kv_e84_35, kv_e84_38, kv_e84_39, kv_e84_42, kv_e84_43, kv_e84_46, kv_e84_49, kv_o10, not_false_eq_true, not_true, if_true, if_false, kv_then_s, kv_then_v, kv_then_n, List.cons_append, List.nil_append, kv_Ci, kv_Cr, kv_Cn, kv_Cu, kv_C0, kv_catc, kv_gCi, kv_gCl, kv_gCr, kv_nb0, kv_nb1, kv_nbi, kv_nb01, Nat.reduceAdd, Nat.reduceLeDiff, h0, h1]
  · simp only [kv_e190_0, kv_e190_1, kv_e190_4, kv_e190_5, kv_e190_8, kv_e190_11, kv_e190_12, kv_e190_13, kv_e190_16, kv_e190_17, kv_e190_19, kv_e190_22, kv_e190_25, kv_e190_27, kv_o10, not_false_eq_true, not_true, if_true, if_false, kv_then_s, kv_then_v, kv_then_n, List.cons_append, List.nil_append, kv_Ci, kv_Cr, kv_Cn, kv_Cu, kv_C0, kv_catc, kv_gCi, kv_gCl, kv_gCr, kv_nb0, kv_nb1, kv_nbi, kv_nb01, Nat.reduceAdd, Nat.reduceLeDiff, h0, h1]
end
