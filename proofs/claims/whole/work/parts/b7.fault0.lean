/-! fault(0): a field's text, both -/
section
variable {d n B W : Nat} {e : List kv_E} {z zK zM zK' zM' : Nat → Nat → Int32} {zl zlM : Nat → Nat → Int64}
theorem kx_RL_f (h : kw_RL zK zM) (k : ∀ c, 7 ≤ c → (c ≤ 20 ∨ c = 29) → zK' c = zK c) (m0 : zM' 0 13 = zM 0 13 ∧ zM' 0 27 = zM 0 27 ∧ zM' 0 28 = zM 0 28) (ml : ∀ c, 2 ≤ c → c ≤ 8 → zM' c = zM c) : kw_RL zK' zM' := by
  obtain ⟨b0, l, l1, l2, l3, l4, l5⟩ := h
  refine ⟨by rw [k 29 (by omega) (by omega)]; exact b0, l, l1, by rw [k 7 (by omega) (by omega), m0.1]; exact l2, by rw [k 7 (by omega) (by omega), m0.2.1]; exact l3, by rw [k 7 (by omega) (by omega), m0.2.2]; exact l4, fun i hi => ?_⟩
  rw [k (9 + 2 * i + 1) (by omega) (by omega), k (9 + 2 * i) (by omega) (by omega)]
  exact kw_ML_fr (l5 i hi) (kw_AG_of ml)
theorem kx_R_fld {T : Nat → Int32} {L a : Nat} {zk zm : Nat → Nat → Int32} (h : kw_R n B W zK zM) (fk : kx_frF zK zk) (ck : kw_ctK T L a zk) (t1 : zK 1 1 = Int32.ofNat L) (fm : kx_frR zM zm) : kw_R n B W zk zm := by
  obtain ⟨⟨⟨L', hL', x1, x2, x3⟩, hA, hF, hLw⟩, ⟨hN, hI, hC⟩, hE, hG⟩ := h
  have el : L' = L := kx_ofN (by omega) (by have := ck.1.2; omega) (x1.symm.trans t1)
  subst el
  have g0 : ∀ j, j ≠ 3 → j ≠ 4 → j ≠ 20 → j ≠ 21 → zm 0 j = zM 0 j := fm.2
  have kc : ∀ c, c ≠ 1 → (c < 21 ∨ 28 < c) → zk c = zK c := fk
  have mc : ∀ c, c ≠ 0 → c ≠ 11 → c ≠ 12 → c ≠ 13 → zm c = zM c := fm.1
  exact ⟨⟨⟨L', hL', ck.1.1, by rw [g0 2 (by omega) (by omega) (by omega) (by omega)]; exact x2, fun i hi => by rw [kc 2 (by omega) (by omega), mc 1 (by omega) (by omega) (by omega) (by omega)]; exact x3 i hi⟩, kw_RA_fr hA (fun c a b => kc c (by omega) (by omega)) (g0 25 (by omega) (by omega) (by omega) (by omega)) (mc 15 (by omega) (by omega) (by omega) (by omega)), kw_RF_fr hF (kc 3 (by omega) (by omega)) (g0 24 (by omega) (by omega) (by omega) (by omega)) (mc 14 (by omega) (by omega) (by omega) (by omega)), kx_RL_f hLw (fun c a b => kc c (by omega) (by omega)) ⟨g0 13 (by omega) (by omega) (by omega) (by omega), g0 27 (by omega) (by omega) (by omega) (by omega), g0 28 (by omega) (by omega) (by omega) (by omega)⟩ (fun c a b => mc c (by omega) (by omega) (by omega) (by omega))⟩, ⟨kw_RN_fr hN (fun c a b => kc c (by omega) (by omega)) (mc 16 (by omega) (by omega) (by omega) (by omega)), kw_RI_fr hI (by rw [kc 0 (by omega) (by omega)]) (fun c a b => kc c (by omega) (by omega)) (g0 42 (by omega) (by omega) (by omega) (by omega)) (mc 25 (by omega) (by omega) (by omega) (by omega)), kw_RC_fr hC (fun c a b => kc c (by omega) (by omega)) (g0 33 (by omega) (by omega) (by omega) (by omega)) (mc 19 (by omega) (by omega) (by omega) (by omega))⟩, kw_RE_fr hE (fun c a b => kc c (by omega) (by omega)) (g0 40 (by omega) (by omega) (by omega) (by omega)) (fun c a b => mc c (by omega) (by omega) (by omega) (by omega)), kw_RG_fr hG (by rw [kc 0 (by omega) (by omega)]) (g0 29 (by omega) (by omega) (by omega) (by omega))⟩
theorem kw_f_fault0 (h : kw_R n B W zK zM) : kw_A (d + 8) 84 190 [some (.ref 0), some (.int 0), none] [some (.ref 0), some (.int 0)] zK zM zl zlM := by
  obtain ⟨T, L, hL, ⟨t1, t2⟩, t3, t4, t5⟩ := kx_laws h
  obtain ⟨zk, rk, fk, ck, pk⟩ := kx_readFK (d := d) (e := []) (z := zK) (zl := zl) (t := T) (L := L) t5 t1 hL t3
  obtain ⟨zm, rm, fm, pm⟩ := kx_readFM (d := d + 3) (z := zM) (zl := zlM) (t := T) (L := L) t2 hL t4
  have hR : kw_R n B W zk zm := kx_R_fld h fk ck t1 fm
  by_cases qo : (kx_FL T L).1 = true
  · rw [if_pos qo] at rk rm
    refine kw_A1 (r := -1) hR ?_ ?_
    · simp only [kv_e84_0, kv_e84_1, kv_e84_4, kv_e84_5, kv_e84_6, kv_e84_9, kv_e84_11, kv_e84_12, kv_e84_13, kv_e84_16, kv_e84_17, kv_e84_20, kv_e84_23, kv_e84_26, kv_e84_27, kv_e84_30, kv_e84_33, kv_e84_34, kv_e84_35, kv_e84_38, kv_e84_39, kv_e84_42, kv_e84_43, kv_e84_46, kv_e84_49, kv_o10, not_false_eq_true, not_true, if_true, if_false, kv_then_s, kv_then_v, kv_then_n, List.cons_append, List.nil_append, kv_Ci, kv_Cr, kv_Cn, kv_Cu, kv_C0, kv_catc, kv_gCi, kv_gCl, kv_gCr, kv_nb0, kv_nb1, kv_nbi, kv_nb01, Nat.reduceAdd, Nat.reduceLeDiff, rk, show ((1 : Int32) = 0) = False from by decide]
    · simp only [kv_e190_0, kv_e190_1, kv_e190_4, kv_e190_5, kv_e190_8, kv_e190_11, kv_e190_12, kv_e190_13, kv_e190_16, kv_e190_17, kv_e190_19, kv_e190_22, kv_e190_25, kv_e190_27, kv_o10, not_false_eq_true, not_true, if_true, if_false, kv_then_s, kv_then_v, kv_then_n, List.cons_append, List.nil_append, kv_Ci, kv_Cr, kv_Cn, kv_Cu, kv_C0, kv_catc, kv_gCi, kv_gCl, kv_gCr, kv_nb0, kv_nb1, kv_nbi, kv_nb01, Nat.reduceAdd, Nat.reduceLeDiff, rm]
  · rw [if_neg qo] at rk rm
    refine kw_A1 (r := Int32.ofNat (kx_FL T L).2.1) hR ?_ ?_
    · simp only [kv_e84_0, kv_e84_1, kv_e84_4, kv_e84_5, kv_e84_6, kv_e84_9, kv_e84_11, kv_e84_12, kv_e84_13, kv_e84_16, kv_e84_17, kv_e84_20, kv_e84_23, kv_e84_26, kv_e84_27, kv_e84_30, kv_e84_33, kv_e84_34, kv_e84_35, kv_e84_38, kv_e84_39, kv_e84_42, kv_e84_43, kv_e84_46, kv_e84_49, kv_o10, not_false_eq_true, not_true, if_true, if_false, kv_then_s, kv_then_v, kv_then_n, List.cons_append, List.nil_append, kv_Ci, kv_Cr, kv_Cn, kv_Cu, kv_C0, kv_catc, kv_gCi, kv_gCl, kv_gCr, kv_nb0, kv_nb1, kv_nbi, kv_nb01, Nat.reduceAdd, Nat.reduceLeDiff, rk, ck.2.1]
    · simp only [kv_e190_0, kv_e190_1, kv_e190_4, kv_e190_5, kv_e190_8, kv_e190_11, kv_e190_12, kv_e190_13, kv_e190_16, kv_e190_17, kv_e190_19, kv_e190_22, kv_e190_25, kv_e190_27, kv_o10, not_false_eq_true, not_true, if_true, if_false, kv_then_s, kv_then_v, kv_then_n, List.cons_append, List.nil_append, kv_Ci, kv_Cr, kv_Cn, kv_Cu, kv_C0, kv_catc, kv_gCi, kv_gCl, kv_gCr, kv_nb0, kv_nb1, kv_nbi, kv_nb01, Nat.reduceAdd, Nat.reduceLeDiff, rm]
end
