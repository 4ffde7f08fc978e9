/-! fields as texts: the model's whole reader, its loop -/
section
variable {d L a : Nat} {t : Nat → Int32} {z : Nat → Nat → Int32} {zl : Nat → Nat → Int64}
theorem kx_tail0 {l c : Int32} (ha : a ≤ L) (hc : kx_ctM t L a z) (hw : z 0 4 = -1) (h : ¬ kx_sg t L (kw_nx t L a) = 59) : kv_Rn (d + 4) 189 223 [some (.ref 0), some (.int l), some (.int 1), some (.int c)] [] (kv_m z zl) = kv_Rn (d + 4) 189 50 [some (.ref 0), some (.int l), some (.int 0), some (.int c)] [] (kv_m (kx_a z (kw_nx t L a)) zl) := by
  have hL := hc.1.2
  have lk := kx_look (d := d + 2) (zl := zl) (show a ≤ 100000 by omega) hc
  simp only [kv_e189_223, kv_e189_224, kv_e189_227, kv_e189_228, kv_e189_231, kv_e189_232, kv_e189_235, kv_e189_237, kv_e189_240, kv_e189_241, kv_e189_244, kv_e189_245, kv_e189_246, kv_e189_247, kv_e189_248, kv_e189_251, kv_e189_252, kv_e189_255, kv_e189_256, kv_e189_259, kv_e189_260, kv_e189_261, kv_e189_264, kv_o10, not_false_eq_true, not_true, if_true, if_false, kv_then_s, kv_then_v, kv_then_n, List.cons_append, List.nil_append, kv_Ci, kv_Cr, kv_Cn, kv_Cu, kv_C0, kv_catc, kv_gCi, kv_gCl, kv_gCr, kv_nb0, kv_nb1, kv_nbi, kv_nb01, Nat.reduceAdd, Nat.reduceLeDiff, hw, lk, h, kx_a_at, Int32.add_zero, kx_fd, kx_fa]
theorem kx_tail1 {l c : Int32} (ha : a ≤ L) (hc : kx_ctM t L a z) (hw : z 0 4 = -1) (h : kx_sg t L (kw_nx t L a) = 59) : kv_Rn (d + 4) 189 223 [some (.ref 0), some (.int l), some (.int 1), some (.int c)] [] (kv_m z zl) = kv_Rn (d + 4) 189 50 [some (.ref 0), some (.int l), some (.int 1), some (.int c)] [] (kv_m (kx_a z (kw_nx t L a + 1)) zl) := by
  have hL := hc.1.2
  have lk := kx_look (d := d + 2) (zl := zl) (show a ≤ 100000 by omega) hc
  simp only [kv_e189_223, kv_e189_224, kv_e189_227, kv_e189_228, kv_e189_231, kv_e189_232, kv_e189_235, kv_e189_237, kv_e189_240, kv_e189_241, kv_e189_244, kv_e189_245, kv_e189_246, kv_e189_247, kv_e189_248, kv_e189_251, kv_e189_252, kv_e189_255, kv_e189_256, kv_e189_259, kv_e189_260, kv_e189_261, kv_e189_264, kv_o10, not_false_eq_true, not_true, if_true, if_false, kv_then_s, kv_then_v, kv_then_n, List.cons_append, List.nil_append, kv_Ci, kv_Cr, kv_Cn, kv_Cu, kv_C0, kv_catc, kv_gCi, kv_gCl, kv_gCr, kv_nb0, kv_nb1, kv_nbi, kv_nb01, Nat.reduceAdd, Nat.reduceLeDiff, hw, lk, h, show ((1 : Int32) = 0) = False from by decide, kx_a_at, kv_suc, kx_fd, kx_fa]
theorem kx_tail2 {l c : Int32} (hw : ¬ z 0 4 = -1) : kv_Rn (d + 4) 189 223 [some (.ref 0), some (.int l), some (.int 1), some (.int c)] [] (kv_m z zl) = some (some (.int (z 0 4)), kv_m (kx_f z 3 (z 0 3 + 0)) zl) := by
  have w1 : kx_f z 3 (z 0 3 + 0) 0 4 = z 0 4 := kx_f_ne _ _ (by omega)
  simp only [kv_e189_223, kv_e189_224, kv_e189_227, kv_e189_228, kv_e189_231, kv_e189_232, kv_e189_235, kv_e189_237, kv_e189_240, kv_e189_241, kv_e189_244, kv_e189_245, kv_e189_246, kv_e189_247, kv_e189_248, kv_e189_251, kv_e189_252, kv_e189_255, kv_e189_256, kv_e189_259, kv_e189_260, kv_e189_261, kv_e189_264, kv_o10, not_false_eq_true, not_true, if_true, if_false, kv_then_s, kv_then_v, kv_then_n, List.cons_append, List.nil_append, kv_Ci, kv_Cr, kv_Cn, kv_Cu, kv_C0, kv_catc, kv_gCi, kv_gCl, kv_gCr, kv_nb0, kv_nb1, kv_nbi, kv_nb01, Nat.reduceAdd, Nat.reduceLeDiff, hw, kx_fd]
  rw [kv_e189_50]
  simp only [kv_e189_51, kv_e189_267, kv_e189_268, kv_e189_271, kv_e189_272, kv_e189_275, kv_e189_276, kv_e189_279, kv_e189_280, kv_e189_283, kv_e189_284, kv_e189_287, kv_e189_290, kv_e189_291, kv_e189_294, kv_e189_295, kv_e189_298, kv_o10, not_false_eq_true, not_true, if_true, if_false, kv_then_s, kv_then_v, kv_then_n, List.cons_append, List.nil_append, kv_Ci, kv_Cr, kv_Cn, kv_Cu, kv_C0, kv_catc, kv_gCi, kv_gCl, kv_gCr, kv_nb0, kv_nb1, kv_nbi, kv_nb01, Nat.reduceAdd, Nat.reduceLeDiff, w1, hw]
theorem kx_flM : ∀ f i a q z u, i + f = 240 → 2 * i ≤ a → a ≤ L → kx_ctM t L a z → z 0 4 = -1 → kx_fM q z → ∃ z', kv_Rn (d + 4) 189 50 [some (.ref 0), some (.int (if q.1 = true then 1 else 0)), some (.int 1), u] [] (kv_m z zl) = some (some (.int (if (kx_fl t L f a q).1 = true then -1 else Int32.ofNat (kx_fl t L f a q).2.1)), kv_m z' zl) ∧ kx_frR z z' ∧ ((kx_fl t L f a q).1 = true → kx_fM (kx_fl t L f a q).2.2 z') := by
  intro f
  induction f with
  | zero => intro i a q z u hi h2 ha hc; have := hc.1.2; omega
  | succ f ih =>
    intro i a q z u hi h2i ha hc hw hq
    have hL := hc.1.2
    obtain ⟨z1, l, c, r1, f1, w1, c1, k1⟩ := kx_clauseFM (d := d) (zl := zl) ha hc hw hq u
    obtain ⟨⟨p1, p2⟩, p3⟩ := kx_fc_W (t := t) (q := q) ha
    rw [r1]
    rcases kx_fc_012 (t := t) (L := L) (a := a) q with h | h | h
    · obtain ⟨k1, hl⟩ := k1 h
      have p3 := p3 h
      rw [if_neg (by rw [h]; decide)] at w1
      have c1 := c1 (by rw [h]; decide)
      have m1 := kw_nx_le t L (kx_fc t L a q).2.1
      have m2 := kw_nx_L (t := t) p2
      have wa : ∀ b, kx_a z1 b 0 4 = -1 := fun b => (kx_a_ne _ _ (by omega)).trans w1
      by_cases g : kx_sg t L (kw_nx t L (kx_fc t L a q).2.1) = 59
      · have hlt := kx_sg_ne (t := t) (L := L) (a := kw_nx t L (kx_fc t L a q).2.1) (fun s => absurd (g.symm.trans s) (by decide))
        rw [kx_fl_1 h g, kx_tail1 p2 c1 w1 g, hl]
        obtain ⟨z2, r2, f2, k2⟩ := ih (i + 1) (kw_nx t L (kx_fc t L a q).2.1 + 1) (kx_fc t L a q).2.2 (kx_a z1 (kw_nx t L (kx_fc t L a q).2.1 + 1)) (some (.int c)) (by omega) (by omega) (by omega) (kx_ctM_a c1) (wa _) (kx_fM_a k1)
        exact ⟨z2, r2, kx_frR_tr f1 (kx_frR_tr kx_frR_a f2), k2⟩
      · rw [kx_fl_2 h g, kx_tail0 p2 c1 w1 g]
        have c2 := kx_ctM_a (b := kw_nx t L (kx_fc t L a q).2.1) c1
        obtain ⟨z2, r2, f2, k2⟩ := kx_endM (d := d) (zl := zl) (t := t) (L := L) (a := kw_nx t L (kx_fc t L a q).2.1) (P := kx_st (kx_fc t L a q).2.2) (l := l) (u := some (.int c)) m2 c2 (wa _) (fun _ => kx_wholeM (kx_fM_a (kx_fM_a k1)))
        rw [kw_nx_nx] at r2 k2
        refine ⟨z2, r2, kx_frR_tr f1 (kx_frR_tr kx_frR_a f2), fun s => ?_⟩
        rw [k2 (@of_decide_eq_true _ (Classical.propDecidable _) s)]
        exact kx_fM_a (kx_fM_a k1)
    · rw [if_neg (by rw [h]; decide)] at w1
      have c1 := c1 (by rw [h]; decide)
      obtain ⟨x1, x2, x3⟩ := kx_fc_k1 h
      rw [kx_fl_3 (by rw [h]; decide), kx_tail0 p2 c1 w1 (by rw [x1]; exact x3), x1]
      have wa : ∀ b, kx_a z1 b 0 4 = -1 := fun b => (kx_a_ne _ _ (by omega)).trans w1
      obtain ⟨z2, r2, f2, k2⟩ := kx_endM (d := d) (zl := zl) (t := t) (L := L) (a := (kx_fc t L a q).2.1) (P := False) (l := l) (u := some (.int c)) p2 (kx_ctM_a c1) (wa _) (fun s => absurd (by rw [x1] at s; exact s) x2)
      rw [x1, @decide_eq_false _ (Classical.propDecidable _) (show ¬ (kx_sg t L (kx_fc t L a q).2.1 = -1 ∧ False) from fun s => s.2)] at r2
      exact ⟨z2, r2, kx_frR_tr f1 (kx_frR_tr kx_frR_a f2), fun s => absurd s (by simp)⟩
    · rw [if_pos h] at w1
      have w1' : ¬ z1 0 4 = -1 := by rw [w1, kw_of_m1 (by omega)]; exact fun s => s
      rw [kx_fl_3 (by rw [h]; decide), kx_tail2 w1', w1]
      exact ⟨_, rfl, kx_frR_tr f1 (kx_frR_f (by omega)), fun s => absurd s (by simp)⟩
theorem kx_readFM (h2 : z 0 2 = Int32.ofNat L) (hL : L ≤ 240) (ht : ∀ i, i < L → z 1 i = t i) : ∃ z', kv_Rn (d + 4) 189 0 [some (.ref 0), none, none, none] [] (kv_m z zl) = some (some (.int (if (kx_FL t L).1 = true then -1 else Int32.ofNat (kx_FL t L).2.1)), kv_m z' zl) ∧ kx_frR z z' ∧ ((kx_FL t L).1 = true → kx_fM (kx_FL t L).2.2 z') := by
  obtain ⟨y1, e1⟩ : ∃ y, y = kx_f (kx_f (kx_f (kx_f z 3 0) 4 (-1)) 20 0) 21 0 := ⟨_, rfl⟩
  have f1 : ∀ c, c ≠ 0 → y1 c = z c := fun c h => by rw [e1, kx_f_fr _ _ _ h, kx_f_fr _ _ _ h, kx_f_fr _ _ _ h, kx_f_fr _ _ _ h]
  have g3 : y1 0 3 = 0 := by rw [e1, kx_f_ne _ _ (by omega), kx_f_ne _ _ (by omega), kx_f_ne _ _ (by omega), kx_f_at]
  have g4 : y1 0 4 = -1 := by rw [e1, kx_f_ne _ _ (by omega), kx_f_ne _ _ (by omega), kx_f_at]
  have g20 : y1 0 20 = 0 := by rw [e1, kx_f_ne _ _ (by omega), kx_f_at]
  have g21 : y1 0 21 = 0 := by rw [e1, kx_f_at]
  have gj : ∀ j, j ≠ 3 → j ≠ 4 → j ≠ 20 → j ≠ 21 → y1 0 j = z 0 j := fun j a1 a2 a3 a4 => by rw [e1, kx_f_ne _ _ a4, kx_f_ne _ _ a3, kx_f_ne _ _ a2, kx_f_ne _ _ a1]
  have loop : ∀ m j (z : Nat → Nat → Int32), j + m = 4 → (∀ i, i < j → z 11 i = kx_us 0 0 i) → ∃ z1, kv_Rn (d + 4) 189 24 [some (.ref 0), some (.int 0), some (.int (Int32.ofNat j)), none] [] (kv_m z zl) = kv_Rn (d + 4) 189 48 [some (.ref 0), some (.int 0), some (.int (Int32.ofNat 4)), none] [] (kv_m z1 zl) ∧ (∀ c, c ≠ 11 → z1 c = z c) ∧ ∀ i, i < 4 → z1 11 i = kx_us 0 0 i := by
    intro m
    induction m with
    | zero =>
      intro j z hj hv
      have hj : j = 4 := by omega
      subst hj
      refine ⟨z, ?_, fun _ _ => rfl, hv⟩
      rw [kv_e189_24]
      simp only [kv_e189_25, kv_e189_26, kv_e189_29, kv_e189_30, kv_e189_33, kv_e189_34, kv_e189_36, kv_e189_37, kv_e189_38, kv_e189_41, kv_e189_42, kv_e189_45, kv_o10, not_false_eq_true, not_true, if_true, if_false, kv_then_s, kv_then_v, kv_then_n, List.cons_append, List.nil_append, kv_Ci, kv_Cr, kv_Cn, kv_Cu, kv_C0, kv_catc, kv_gCi, kv_gCl, kv_gCr, kv_nb0, kv_nb1, kv_nbi, kv_nb01, Nat.reduceAdd, Nat.reduceLeDiff, show ((4 : Int32) ≤ Int32.ofNat 4) = True from by decide]
    | succ m ih =>
      intro j z hj hv
      have hj4 : j < 4 := by omega
      have hj2 : j < 2147483648 := by omega
      have ge : ((4 : Int32) ≤ Int32.ofNat j) = False := kv_ln_ (m := 4) hj4 (by omega)
      have us := fun h => kx_usM (d := d + 3) (g := 0) (i := j) (k := 0) (by omega) hj4 (Or.inl rfl) (h := h)
      have us : ∀ h, kv_Rn (d + 3) 186 0 [some (.int 102), some (.int (Int32.ofNat j)), some (.int 0)] [] h = some (some (.int (kx_us 0 0 j)), h) := us
      obtain ⟨z4, e4⟩ : ∃ y, y = kv_z z 11 (upd (z 11) j (kx_us 0 0 j)) := ⟨_, rfl⟩
      have f4 : ∀ c, c ≠ 11 → z4 c = z c := fun c h => by rw [e4]; exact kv_zne _ _ h
      obtain ⟨z1, r1, g1, v1⟩ := ih (j + 1) z4 (by omega) (fun i hi => by
        rw [e4, kv_zs]
        unfold upd
        by_cases q : i = j
        · rw [if_pos q, q]
        · rw [if_neg q]
          exact hv i (by omega))
      refine ⟨z1, ?_, fun c h => (g1 c h).trans (f4 c h), v1⟩
      rw [← r1]
      conv => lhs; rw [kv_e189_24]
      simp only [kv_e189_25, kv_e189_26, kv_e189_29, kv_e189_30, kv_e189_33, kv_e189_34, kv_e189_36, kv_e189_37, kv_e189_38, kv_e189_41, kv_e189_42, kv_e189_45, kv_o10, not_false_eq_true, not_true, if_true, if_false, kv_then_s, kv_then_v, kv_then_n, List.cons_append, List.nil_append, kv_Ci, kv_Cr, kv_Cn, kv_Cu, kv_C0, kv_catc, kv_gCi, kv_gCl, kv_gCr, kv_nb0, kv_nb1, kv_nbi, kv_nb01, Nat.reduceAdd, Nat.reduceLeDiff, ge, us, kw_n0 hj2, kv_tn hj2, kv_lN hj4, kv_am11, or_self, ← e4, kv_suc]
  obtain ⟨y2, r2, f2, v2⟩ := loop 4 0 y1 (by omega) (fun i hi => absurd hi (Nat.not_lt_zero _))
  have y20 : y2 0 = y1 0 := f2 0 (by omega)
  have c2 : kx_ctM t L 0 y2 := ⟨⟨by rw [y20, gj 2 (by omega) (by omega) (by omega) (by omega)]; exact h2, hL⟩, by rw [y20]; exact g3, by rw [f2 1 (by omega), f1 1 (by omega)]; exact ht⟩
  have m2 : kx_fM kx_q0 y2 := ⟨⟨by rw [y20]; exact g20, by decide⟩, ⟨by rw [y20]; exact g21, by decide⟩, v2, fun k hk => absurd hk (Nat.not_lt_zero _), fun k hk => absurd hk (Nat.not_lt_zero _)⟩
  obtain ⟨z', r, fr, k⟩ := kx_flM (d := d) (zl := zl) 240 0 0 kx_q0 y2 none (by omega) (by omega) (by omega) c2 (by rw [y20]; exact g4) m2
  refine ⟨z', ?_, kx_frR_tr ⟨fun c a1 a2 _ _ => (f2 c a2).trans (f1 c a1), fun j a1 a2 a3 a4 => by rw [y20]; exact gj j a1 a2 a3 a4⟩ fr, k⟩
  unfold kx_FL
  rw [← r]
  have r2 : kv_Rn (d + 4) 189 24 [some (.ref 0), some (.int 0), some (.int 0), none] [] (kv_m y1 zl) = kv_Rn (d + 4) 189 48 [some (.ref 0), some (.int 0), some (.int (Int32.ofNat 4)), none] [] (kv_m y2 zl) := r2
  simp only [kv_e189_0, kv_e189_1, kv_e189_2, kv_e189_5, kv_e189_6, kv_e189_7, kv_e189_10, kv_e189_11, kv_e189_12, kv_e189_15, kv_e189_16, kv_e189_17, kv_e189_20, kv_e189_21, kv_e189_22, kv_e189_23, kv_o10, not_false_eq_true, not_true, if_true, if_false, kv_then_s, kv_then_v, kv_then_n, List.cons_append, List.nil_append, kv_Ci, kv_Cr, kv_Cn, kv_Cu, kv_C0, kv_catc, kv_gCi, kv_gCl, kv_gCr, kv_nb0, kv_nb1, kv_nbi, kv_nb01, Nat.reduceAdd, Nat.reduceLeDiff, kx_fd, ← e1, r2]
  simp only [kv_e189_48, kv_e189_49, kv_o10, not_false_eq_true, not_true, if_true, if_false, kv_then_s, kv_then_v, kv_then_n, List.cons_append, List.nil_append, kv_Ci, kv_Cr, kv_Cn, kv_Cu, kv_C0, kv_catc, kv_gCi, kv_gCl, kv_gCr, kv_nb0, kv_nb1, kv_nbi, kv_nb01, Nat.reduceAdd, Nat.reduceLeDiff]
  rfl
end
