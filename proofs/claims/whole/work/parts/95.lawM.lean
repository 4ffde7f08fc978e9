/-! laws as texts: the model's whole reader -/
section
variable {d n L a : Nat} {t : Nat → Int32} {z z' : Nat → Nat → Int32} {zl : Nat → Nat → Int64}
/-- all steps, all rows of a law -/
def kx_cds : List (List (Nat × Nat) × List (Nat × Nat)) → List (Nat × Nat)
  | [] => []
  | c :: l => c.1 ++ (c.2 ++ kx_cds l)
def kx_rws (m : Nat) : List (List (Nat × Nat) × List (Nat × Nat)) → List (Nat × Nat × Nat)
  | [] => []
  | c :: l => (m, m + c.1.length, m + c.1.length + c.2.length) :: kx_rws (m + c.1.length + c.2.length) l
theorem kx_atEnd0 (h : ¬ z 0 4 = -1) : kv_Rn (d + 1) 176 0 [some (.ref 0)] [] (kv_m z zl) = some (some (.int (z 0 4)), kv_m z zl) := by
  simp only [kv_e176_0, kv_e176_1, kv_e176_4, kv_e176_5, kv_e176_8, kv_e176_9, kv_e176_12, kv_e176_13, kv_e176_16, kv_e176_17, kv_e176_20, kv_e176_21, kv_e176_24, kv_o10, not_false_eq_true, not_true, if_true, if_false, kv_then_s, kv_then_v, kv_then_n, List.cons_append, List.nil_append, kv_Ci, kv_Cr, kv_Cn, kv_Cu, kv_C0, kv_catc, kv_gCi, kv_gCl, kv_gCr, kv_nb0, kv_nb1, kv_nbi, kv_nb01, Nat.reduceAdd, Nat.reduceLeDiff, h, kx_bad0 h]
theorem kx_atEnd (hw : z 0 4 = -1) (ha : a ≤ 100000) (hc : kx_ctM t L a z) : kv_Rn (d + 2) 176 0 [some (.ref 0)] [] (kv_m z zl) = some (some (.int (if kx_sg t L (kw_nx t L a) = -1 then -1 else Int32.ofNat (kw_nx t L a))), kv_m (if kx_sg t L (kw_nx t L a) = -1 then kx_a z (kw_nx t L a) else kx_f (kx_a z (kw_nx t L a)) 4 (Int32.ofNat (kw_nx t L a))) zl) := by
  have lk := kx_look (d := d) (zl := zl) ha hc
  have wa : kx_a z (kw_nx t L a) 0 4 = -1 := (kx_a_ne _ _ (by omega)).trans hw
  by_cases q : kx_sg t L (kw_nx t L a) = -1
  · rw [if_pos q, if_pos q]
    simp only [kv_e176_0, kv_e176_1, kv_e176_4, kv_e176_5, kv_e176_8, kv_e176_9, kv_e176_12, kv_e176_13, kv_e176_16, kv_e176_17, kv_e176_20, kv_e176_21, kv_e176_24, kv_o10, not_false_eq_true, not_true, if_true, if_false, kv_then_s, kv_then_v, kv_then_n, List.cons_append, List.nil_append, kv_Ci, kv_Cr, kv_Cn, kv_Cu, kv_C0, kv_catc, kv_gCi, kv_gCl, kv_gCr, kv_nb0, kv_nb1, kv_nbi, kv_nb01, Nat.reduceAdd, Nat.reduceLeDiff, hw, lk, q, wa]
  · rw [if_neg q, if_neg q]
    simp only [kv_e176_0, kv_e176_1, kv_e176_4, kv_e176_5, kv_e176_8, kv_e176_9, kv_e176_12, kv_e176_13, kv_e176_16, kv_e176_17, kv_e176_20, kv_e176_21, kv_e176_24, kv_o10, not_false_eq_true, not_true, if_true, if_false, kv_then_s, kv_then_v, kv_then_n, List.cons_append, List.nil_append, kv_Ci, kv_Cr, kv_Cn, kv_Cu, kv_C0, kv_catc, kv_gCi, kv_gCl, kv_gCr, kv_nb0, kv_nb1, kv_nbi, kv_nb01, Nat.reduceAdd, Nat.reduceLeDiff, hw, lk, q, kx_bad wa, kx_a_at, kx_f_at]
theorem kx_law_1 {c : Nat → kx_QC} {f : Nat} (h : (c a).1 = true) (q : kx_sg t L (kw_nx t L (c a).2.1) = 59) : kx_law c t L (f + 1) a = ((kx_law c t L f (kw_nx t L (c a).2.1 + 1)).1, (kx_law c t L f (kw_nx t L (c a).2.1 + 1)).2.1, (c a).2.2 :: (kx_law c t L f (kw_nx t L (c a).2.1 + 1)).2.2) := (if_pos h).trans (if_pos q)
theorem kx_law_2 {c : Nat → kx_QC} {f : Nat} (h : (c a).1 = true) (q : ¬ kx_sg t L (kw_nx t L (c a).2.1) = 59) (q2 : kx_sg t L (kw_nx t L (c a).2.1) = -1) : kx_law c t L (f + 1) a = (true, kw_nx t L (c a).2.1, [(c a).2.2]) := (if_pos h).trans ((if_neg q).trans (if_pos q2))
theorem kx_law_3 {c : Nat → kx_QC} {f : Nat} (h : (c a).1 = true) (q : ¬ kx_sg t L (kw_nx t L (c a).2.1) = 59) (q2 : ¬ kx_sg t L (kw_nx t L (c a).2.1) = -1) : kx_law c t L (f + 1) a = (false, kw_nx t L (c a).2.1, []) := (if_pos h).trans ((if_neg q).trans (if_neg q2))
theorem kx_law_4 {c : Nat → kx_QC} {f : Nat} (h : ¬ (c a).1 = true) : kx_law c t L (f + 1) a = (false, (c a).2.1, []) := if_neg h
theorem kx_lawLM (hd : 95 ≤ d) (x : Option Value) : ∀ m f a cs rs z, f < m → a ≤ L → L ≤ 240 → L ≤ a + f + 1 → cs.length ≤ a → 2 * rs.length ≤ a → kx_CM t L n cs rs (kx_cls t L (kx_S t L 6) (kx_U t L 6) a) z → ∃ z', kv_Rn (d + 2) 177 9 [some (.ref 0), x] [] (kv_m z zl) = some (some (.int (if (kx_law (kx_cls t L (kx_S t L 6) (kx_U t L 6)) t L (f + 1) a).1 = true then -1 else Int32.ofNat (kx_law (kx_cls t L (kx_S t L 6) (kx_U t L 6)) t L (f + 1) a).2.1)), kv_m z' zl) ∧ kx_frL n z z' ∧ ((kx_law (kx_cls t L (kx_S t L 6) (kx_U t L 6)) t L (f + 1) a).1 = true → kx_mc n (cs ++ kx_cds (kx_law (kx_cls t L (kx_S t L 6) (kx_U t L 6)) t L (f + 1) a).2.2) z' ∧ kx_cr n (rs ++ kx_rws cs.length (kx_law (kx_cls t L (kx_S t L 6) (kx_U t L 6)) t L (f + 1) a).2.2) z') := by
  obtain ⟨d', rfl⟩ : ∃ d', d = d' + 1 := ⟨d - 1, by omega⟩
  intro m
  induction m with
  | zero => intro f a cs rs z hm; exact absurd hm (Nat.not_lt_zero _)
  | succ m ih =>
    intro f a cs rs z hm ha hL hf hl hk h
    obtain ⟨⟨w1, w2⟩, w3⟩ := kx_WC_cls (t := t) (kx_W_S (t := t) (L := L) 6) (kx_W_U (t := t) (L := L) 6) ha
    obtain ⟨h1, h2⟩ := h
    generalize hc : kx_cls t L (kx_S t L 6) (kx_U t L 6) = c at *
    by_cases qo : (c a).1 = true
    · rw [if_pos qo] at h1
      obtain ⟨⟨ct, h5⟩, mc, cr⟩ := h2 qo
      have w3 := w3 qo
      have lk := kx_look (d := d' + 1) (zl := zl) (show (c a).2.1 ≤ 100000 by omega) ct
      have n1 := kw_nx_le t L (c a).2.1
      have n2 := kw_nx_L (t := t) w2
      have wa : ∀ b, kx_a z b 0 4 = -1 := fun b => (kx_a_ne _ _ (by omega)).trans h1
      by_cases q : kx_sg t L (kw_nx t L (c a).2.1) = 59
      · have hlt := kx_sg_ne (t := t) (L := L) (a := kw_nx t L (c a).2.1) (fun s => absurd (q.symm.trans s) (by decide))
        obtain ⟨f, rfl⟩ : ∃ f', f = f' + 1 := ⟨f - 1, by omega⟩
        rw [kx_law_1 qo q]
        obtain ⟨z2, r2, l2, c2⟩ := kx_clauseM (d := d' + 1) (zl := zl) (n := n) (z := kx_a z (kw_nx t L (c a).2.1 + 1)) (a := kw_nx t L (c a).2.1 + 1) (cs := cs ++ (c a).2.2.1 ++ (c a).2.2.2) (rs := rs ++ [(cs.length, cs.length + (c a).2.2.1.length, cs.length + (c a).2.2.1.length + (c a).2.2.2.length)]) hd (by omega) (wa _) ((kx_a_ne _ _ (by omega)).trans h5) (kx_ctM_a ct) (kx_mc_a mc) (by rw [List.length_append, List.length_append]; omega) (kx_cr_fr cr (kx_a_fr _ _ (by omega)) (kx_a_fr _ _ (by omega)) (kx_a_fr _ _ (by omega)) (kx_a_fr _ _ (by omega))) (by rw [List.length_append, List.length_cons, List.length_nil]; omega)
        rw [hc] at c2
        obtain ⟨z3, r3, l3, c3⟩ := ih f (kw_nx t L (c a).2.1 + 1) _ _ z2 (by omega) (by omega) hL (by omega) (by rw [List.length_append, List.length_append]; omega) (by rw [List.length_append, List.length_cons, List.length_nil]; omega) c2
        refine ⟨z3, ?_, kx_frL_tr (kx_frL_M kx_frM_a) (kx_frL_tr l2 l3), fun s => ?_⟩
        · rw [← r3]
          conv => lhs; rw [kv_e177_9]
          simp only [kv_e177_10, kv_e177_13, kv_e177_14, kv_e177_17, kv_e177_18, kv_e177_21, kv_e177_23, kv_e177_26, kv_e177_27, kv_e177_28, kv_e177_31, kv_e177_32, kv_e177_33, kv_e177_36, kv_e177_37, kv_e177_40, kv_o10, not_false_eq_true, not_true, if_true, if_false, kv_then_s, kv_then_v, kv_then_n, List.cons_append, List.nil_append, kv_Ci, kv_Cr, kv_Cn, kv_Cu, kv_C0, kv_catc, kv_gCi, kv_gCl, kv_gCr, kv_nb0, kv_nb1, kv_nbi, kv_nb01, Nat.reduceAdd, Nat.reduceLeDiff, h1, lk, q, kx_a_at, kv_suc, kx_fd, kx_fa, r2]
        · obtain ⟨g1, g2⟩ := c3 s
          constructor
          · show kx_mc n (cs ++ ((c a).2.2.1 ++ ((c a).2.2.2 ++ kx_cds _))) z3
            rw [← List.append_assoc, ← List.append_assoc]
            exact g1
          · show kx_cr n (rs ++ ((cs.length, cs.length + (c a).2.2.1.length, cs.length + (c a).2.2.1.length + (c a).2.2.2.length) :: kx_rws (cs.length + (c a).2.2.1.length + (c a).2.2.2.length) _)) z3
            rw [List.length_append, List.length_append, List.append_assoc] at g2
            exact g2
      · have ae := kx_atEnd (d := d') (zl := zl) (z := kx_a z (kw_nx t L (c a).2.1)) (wa _) (show kw_nx t L (c a).2.1 ≤ 100000 by omega) (kx_ctM_a ct)
        rw [kw_nx_nx, kx_a_a] at ae
        by_cases q2 : kx_sg t L (kw_nx t L (c a).2.1) = -1
        · rw [kx_law_2 qo q q2]
          rw [if_pos q2, if_pos q2] at ae
          refine ⟨kx_a z (kw_nx t L (c a).2.1), ?_, kx_frL_M kx_frM_a, fun _ => ⟨?_, ?_⟩⟩
          · rw [kv_e177_9]
            simp only [kv_e177_10, kv_e177_13, kv_e177_14, kv_e177_17, kv_e177_18, kv_e177_21, kv_e177_23, kv_e177_26, kv_e177_27, kv_e177_28, kv_e177_31, kv_e177_32, kv_e177_33, kv_e177_36, kv_e177_37, kv_e177_40, kv_e177_43, kv_e177_44, kv_e177_47, kv_o10, not_false_eq_true, not_true, if_true, if_false, kv_then_s, kv_then_v, kv_then_n, List.cons_append, List.nil_append, kv_Ci, kv_Cr, kv_Cn, kv_Cu, kv_C0, kv_catc, kv_gCi, kv_gCl, kv_gCr, kv_nb0, kv_nb1, kv_nbi, kv_nb01, Nat.reduceAdd, Nat.reduceLeDiff, h1, lk, q, ae]
          · show kx_mc n (cs ++ ((c a).2.2.1 ++ ((c a).2.2.2 ++ []))) _
            rw [List.append_nil, ← List.append_assoc]
            exact kx_mc_a mc
          · exact kx_cr_fr cr (kx_a_fr _ _ (by omega)) (kx_a_fr _ _ (by omega)) (kx_a_fr _ _ (by omega)) (kx_a_fr _ _ (by omega))
        · rw [kx_law_3 qo q q2]
          rw [if_neg q2, if_neg q2] at ae
          refine ⟨kx_f (kx_a z (kw_nx t L (c a).2.1)) 4 (Int32.ofNat (kw_nx t L (c a).2.1)), ?_, kx_frL_M (kx_frM_tr kx_frM_a (kx_frM_f (Or.inr (Or.inl rfl)))), fun s => absurd s (by simp)⟩
          rw [kv_e177_9]
          simp only [kv_e177_10, kv_e177_13, kv_e177_14, kv_e177_17, kv_e177_18, kv_e177_21, kv_e177_23, kv_e177_26, kv_e177_27, kv_e177_28, kv_e177_31, kv_e177_32, kv_e177_33, kv_e177_36, kv_e177_37, kv_e177_40, kv_e177_43, kv_e177_44, kv_e177_47, kv_o10, not_false_eq_true, not_true, if_true, if_false, kv_then_s, kv_then_v, kv_then_n, List.cons_append, List.nil_append, kv_Ci, kv_Cr, kv_Cn, kv_Cu, kv_C0, kv_catc, kv_gCi, kv_gCl, kv_gCr, kv_nb0, kv_nb1, kv_nbi, kv_nb01, Nat.reduceAdd, Nat.reduceLeDiff, h1, lk, q, ae, Bool.false_eq_true]
    · rw [if_neg qo] at h1
      rw [kx_law_4 qo]
      have wb : ¬ z 0 4 = -1 := by rw [h1, kw_of_m1 (by omega)]; exact fun s => s
      refine ⟨z, ?_, kx_frL_rf n z, fun s => absurd s (by simp)⟩
      rw [kv_e177_9]
      simp only [kv_e177_10, kv_e177_13, kv_e177_14, kv_e177_17, kv_e177_18, kv_e177_21, kv_e177_23, kv_e177_26, kv_e177_27, kv_e177_28, kv_e177_31, kv_e177_32, kv_e177_33, kv_e177_36, kv_e177_37, kv_e177_40, kv_e177_43, kv_e177_44, kv_e177_47, kv_o10, not_false_eq_true, not_true, if_true, if_false, kv_then_s, kv_then_v, kv_then_n, List.cons_append, List.nil_append, kv_Ci, kv_Cr, kv_Cn, kv_Cu, kv_C0, kv_catc, kv_gCi, kv_gCl, kv_gCr, kv_nb0, kv_nb1, kv_nbi, kv_nb01, Nat.reduceAdd, Nat.reduceLeDiff, wb, kx_atEnd0 wb, Bool.false_eq_true]
      rw [h1]
theorem kx_readLawM (hd : 95 ≤ d) (h2 : z 0 2 = Int32.ofNat L) (hL : L ≤ 240) (ht : ∀ i, i < L → z 1 i = t i) (hn : n ≤ 6) : ∃ z', kv_Rn (d + 2) 177 0 [some (.ref 0), some (.int (Int32.ofNat n))] [] (kv_m z zl) = some (some (.int (if (kx_LW t L).1 = true then -1 else Int32.ofNat (kx_LW t L).2.1)), kv_m z' zl) ∧ ((∀ c, c ≠ 0 → (c < 2 ∨ 8 < c) → z' c = z c) ∧ (∀ j, j ≠ 3 → j ≠ 4 → j ≠ 5 → j ≠ 14 → z' 0 j = z 0 j) ∧ ∀ i, i ≠ n → kw_AG i z z') ∧ ((kx_LW t L).1 = true → kx_mc n (kx_cds (kx_LW t L).2.2) z' ∧ kx_cr n (kx_rws 0 (kx_LW t L).2.2) z') := by
  have hn2 : n < 2147483648 := by omega
  obtain ⟨z1, e1⟩ : ∃ z1, z1 = kv_z (kv_z (kx_f (kx_f (kx_f (kx_f z 14 (Int32.ofNat n)) 3 0) 4 (-1)) 5 0) 4 (upd (z 4) n 0)) 5 (upd (z 5) n 0) := ⟨_, rfl⟩
  have f1 : ∀ c, c ≠ 0 → c ≠ 4 → c ≠ 5 → z1 c = z c := fun c a0 a4 a5 => by rw [e1, kv_zne _ _ a5, kv_zne _ _ a4, kx_f_fr _ _ _ a0, kx_f_fr _ _ _ a0, kx_f_fr _ _ _ a0, kx_f_fr _ _ _ a0]
  have f0 : z1 0 = kx_f (kx_f (kx_f (kx_f z 14 (Int32.ofNat n)) 3 0) 4 (-1)) 5 0 0 := by rw [e1, kv_zne _ _ (by omega), kv_zne _ _ (by omega)]
  have g3 : z1 0 3 = 0 := by rw [f0, kx_f_ne _ _ (by omega), kx_f_ne _ _ (by omega), kx_f_at]
  have g4 : z1 0 4 = -1 := by rw [f0, kx_f_ne _ _ (by omega), kx_f_at]
  have g5 : z1 0 5 = 0 := by rw [f0, kx_f_at]
  have g14 : z1 0 14 = Int32.ofNat n := by rw [f0, kx_f_ne _ _ (by omega), kx_f_ne _ _ (by omega), kx_f_ne _ _ (by omega), kx_f_at]
  have gj : ∀ j, j ≠ 3 → j ≠ 4 → j ≠ 5 → j ≠ 14 → z1 0 j = z 0 j := fun j a3 a4 a5 a14 => by rw [f0, kx_f_ne _ _ a5, kx_f_ne _ _ a4, kx_f_ne _ _ a3, kx_f_ne _ _ a14]
  have q4 : z1 4 n = 0 := by
    rw [e1, kv_zne _ _ (by omega), kv_zs]
    exact if_pos rfl
  have q5 : z1 5 n = 0 := by
    rw [e1, kv_zs]
    exact if_pos rfl
  have q5' : ∀ i, i ≠ n → z1 5 i = z 5 i := fun i hi => by
    rw [e1, kv_zs]
    exact if_neg hi
  have op : kv_Rn (d + 1) 175 0 [some (.ref 0), some (.int (Int32.ofNat n))] [] (kv_m z zl) = some (none, kv_m z1 zl) := by
    rw [e1]
    have e4 : ∀ (w : Nat → Nat → Int32) j x, kx_f w j x 4 = w 4 := fun w j x => kx_f_fr _ _ _ (by omega)
    have e5 : ∀ (w : Nat → Nat → Int32) j x, kx_f w j x 5 = w 5 := fun w j x => kx_f_fr _ _ _ (by omega)
    have e54 : ∀ (w : Nat → Nat → Int32) f, kv_z w 4 f 5 = w 5 := fun w f => kv_zne _ _ (by omega)
    simp only [kv_e175_0, kv_e175_1, kv_e175_2, kv_e175_5, kv_e175_6, kv_e175_7, kv_e175_10, kv_e175_11, kv_e175_12, kv_e175_15, kv_e175_16, kv_e175_17, kv_e175_20, kv_e175_21, kv_e175_24, kv_e175_25, kv_e175_26, kv_e175_27, kv_e175_28, kv_e175_31, kv_e175_32, kv_e175_33, kv_e175_34, kv_o10, not_false_eq_true, not_true, if_true, if_false, kv_then_s, kv_then_v, kv_then_n, List.cons_append, List.nil_append, kv_Ci, kv_Cr, kv_Cn, kv_Cu, kv_C0, kv_catc, kv_gCi, kv_gCl, kv_gCr, kv_nb0, kv_nb1, kv_nbi, kv_nb01, Nat.reduceAdd, Nat.reduceLeDiff, kx_fd, kw_n0 hn2, kv_tn hn2, kv_lN (show n < 7 by omega), kv_ar_lt (show 4 < 300 by omega), kv_ar_lt (show 5 < 300 by omega), kv_am4, kv_am5, or_self, e4, e5, e54]
  have c1 : kx_ctM t L 0 z1 := ⟨⟨by rw [gj 2 (by omega) (by omega) (by omega) (by omega)]; exact h2, hL⟩, g3, by rw [f1 1 (by omega) (by omega) (by omega)]; exact ht⟩
  have m1 : kx_mc n [] z1 := ⟨⟨g14, hn⟩, q4, fun i hi => absurd hi (Nat.not_lt_zero _)⟩
  have r1 : kx_cr n [] z1 := ⟨q5, fun i hi => absurd hi (Nat.not_lt_zero _)⟩
  obtain ⟨z2, r2, l2, h2'⟩ := kx_clauseM (d := d) (zl := zl) (n := n) (z := z1) (a := 0) (cs := []) (rs := []) hd (Nat.zero_le _) g4 g5 c1 m1 (Nat.le_refl _) r1 (by decide)
  obtain ⟨z3, r3, l3, h3⟩ := kx_lawLM (d := d) (zl := zl) (t := t) (L := L) (n := n) hd (some (.int (Int32.ofNat n))) 240 239 0 [] [] z2 (by omega) (Nat.zero_le _) hL (by omega) (Nat.le_refl _) (Nat.le_refl _) h2'
  have l4 := kx_frL_tr l2 l3
  refine ⟨z3, ?_, ⟨fun c a0 a1 => (l4.1 c a0 a1).trans (f1 c a0 (by omega) (by omega)), fun j a3 a4 a5 a14 => (l4.2.1 j a3 a4 a5).trans (gj j a3 a4 a5 a14), fun i hi => ⟨fun j b1 b2 => ?_, ?_, fun j b1 b2 => ?_⟩⟩, ?_⟩
  · have e : kx_LW t L = kx_law (kx_cls t L (kx_S t L 6) (kx_U t L 6)) t L (239 + 1) 0 := rfl
    rw [e, ← r3]
    simp only [kv_e177_0, kv_e177_1, kv_e177_2, kv_e177_5, kv_e177_6, kv_o10, not_false_eq_true, not_true, if_true, if_false, kv_then_s, kv_then_v, kv_then_n, List.cons_append, List.nil_append, kv_Ci, kv_Cr, kv_Cn, kv_Cu, kv_C0, kv_catc, kv_gCi, kv_gCl, kv_gCr, kv_nb0, kv_nb1, kv_nbi, kv_nb01, Nat.reduceAdd, Nat.reduceLeDiff, op, r2]
  · rw [← f1 2 (by omega) (by omega) (by omega), ← f1 3 (by omega) (by omega) (by omega)]
    exact l4.2.2.1 j (by omega)
  · rw [l4.2.2.2.2 i hi]
    exact q5' i hi
  · rw [← f1 6 (by omega) (by omega) (by omega), ← f1 7 (by omega) (by omega) (by omega), ← f1 8 (by omega) (by omega) (by omega)]
    exact l4.2.2.2.1 j (by omega)
  · exact h3
end
