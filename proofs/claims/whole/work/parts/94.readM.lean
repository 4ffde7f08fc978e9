/-! laws as texts: the model's clauses, the whole reader -/
section
variable {d n L a : Nat} {t : Nat → Int32} {z z' : Nat → Nat → Int32} {zl : Nat → Nat → Int64}
/-- where a clause comes to lie -/
def kx_WC (L a : Nat) (r : kx_QC) : Prop := (a ≤ r.2.1 ∧ r.2.1 ≤ L) ∧ (r.1 = true → r.2.2.1.length + r.2.2.2.length + a ≤ r.2.1)
theorem kx_WC_gate {s : Nat → kx_Q} (hs : kx_W L s) {r : kx_Q} (h : (a ≤ r.2.1 ∧ r.2.1 ≤ L) ∧ r.2.2.length + a ≤ r.2.1) : kx_WC L a (kx_gate t L s r) := by
  obtain ⟨⟨h1, h2⟩, h3⟩ := h
  have n1 := kw_nx_le t L r.2.1
  have n2 := kw_nx_L (t := t) h2
  unfold kx_gate
  by_cases q : r.1 = true
  · rw [if_pos q]
    by_cases q2 : kx_sg t L (kw_nx t L r.2.1) = 63
    · have hlt := kx_sg_ne (t := t) (L := L) (a := kw_nx t L r.2.1) (fun s => absurd (q2.symm.trans s) (by decide))
      obtain ⟨⟨w1, w2⟩, w3⟩ := hs (kw_nx t L r.2.1 + 1) (by omega)
      rw [if_pos q2]
      exact ⟨⟨by dsimp only; omega, w2⟩, fun _ => by dsimp only; omega⟩
    · rw [if_neg q2]
      exact ⟨⟨by dsimp only; omega, n2⟩, fun s => absurd s (by simp)⟩
  · rw [if_neg q]
    exact ⟨⟨h1, h2⟩, fun s => absurd s (by simp)⟩
theorem kx_WC_body {s u : Nat → kx_Q} (hs : kx_W L s) (hu : kx_W L u) (ha : a ≤ L) : kx_WC L a (kx_body t L s u a) := by
  by_cases q : kx_sg t L a = 33 ∨ kx_sg t L a = 40
  · rw [kx_body_c q]
    exact kx_WC_gate hs (kx_W_cd hu a ha)
  · obtain ⟨⟨w1, w2⟩, w3⟩ := hs a ha
    have n1 := kw_nx_le t L (s a).2.1
    have n2 := kw_nx_L (t := t) w2
    by_cases h : (s a).1 = true
    · by_cases g : kx_oC (kx_sg t L (kw_nx t L (s a).2.1)) = 0
      · rw [kx_body_s q h g]
        exact ⟨⟨by dsimp only; omega, n2⟩, fun _ => by dsimp only; rw [List.length_nil]; omega⟩
      · rw [kx_body_g q h g]
        obtain ⟨⟨v1, v2⟩, v3⟩ := kx_W_cdB (t := t) hs hu (s a).2.1 w2
        exact kx_WC_gate hs ⟨⟨by dsimp only; omega, v2⟩, by dsimp only; rw [List.length_append]; omega⟩
    · rw [kx_body_f q h]
      exact ⟨⟨w1, w2⟩, fun s => absurd s (by simp)⟩
theorem kx_WC_cls {s u : Nat → kx_Q} (hs : kx_W L s) (hu : kx_W L u) (ha : a ≤ L) : (a ≤ (kx_cls t L s u a).2.1 ∧ (kx_cls t L s u a).2.1 ≤ L) ∧ ((kx_cls t L s u a).1 = true → (kx_cls t L s u a).2.2.1.length + (kx_cls t L s u a).2.2.2.length + a + 2 ≤ (kx_cls t L s u a).2.1) := by
  have n1 := kw_nx_le t L a
  have n2 := kw_nx_L (t := t) ha
  unfold kx_cls
  by_cases q : kx_sg t L (kw_nx t L a) = 121
  · have hlt := kx_sg_ne (t := t) (L := L) (a := kw_nx t L a) (fun s => absurd (q.symm.trans s) (by decide))
    have m1 := kw_nx_le t L (kw_nx t L a + 1)
    have m2 := kw_nx_L (t := t) (show kw_nx t L a + 1 ≤ L by omega)
    rw [if_pos q]
    by_cases q2 : kx_sg t L (kw_nx t L (kw_nx t L a + 1)) = 58
    · have hlt2 := kx_sg_ne (t := t) (L := L) (a := kw_nx t L (kw_nx t L a + 1)) (fun s => absurd (q2.symm.trans s) (by decide))
      have k1 := kw_nx_le t L (kw_nx t L (kw_nx t L a + 1) + 1)
      have k2 := kw_nx_L (t := t) (show kw_nx t L (kw_nx t L a + 1) + 1 ≤ L by omega)
      rw [if_pos q2]
      obtain ⟨⟨b1, b2⟩, b3⟩ := kx_WC_body (t := t) hs hu k2
      exact ⟨⟨by omega, b2⟩, fun s => by have := b3 s; omega⟩
    · rw [if_neg q2]
      exact ⟨⟨by dsimp only; omega, m2⟩, fun s => absurd s (by simp)⟩
  · rw [if_neg q]
    exact ⟨⟨n1, n2⟩, fun s => absurd s (by simp)⟩
/-- a law's clauses as the model keeps them -/
def kx_cr (n : Nat) (rs : List (Nat × Nat × Nat)) (z : Nat → Nat → Int32) : Prop := z 5 n = Int32.ofNat rs.length ∧ ∀ i, i < rs.length → z 6 (140 * n + i) = Int32.ofNat (rs.getD i (0, 0, 0)).1 ∧ z 7 (140 * n + i) = Int32.ofNat (rs.getD i (0, 0, 0)).2.1 ∧ z 8 (140 * n + i) = Int32.ofNat (rs.getD i (0, 0, 0)).2.2
theorem kx_cr_fr {rs : List (Nat × Nat × Nat)} (h : kx_cr n rs z) (h5 : z' 5 = z 5) (h6 : z' 6 = z 6) (h7 : z' 7 = z 7) (h8 : z' 8 = z 8) : kx_cr n rs z' := by
  unfold kx_cr at h ⊢
  rw [h5, h6, h7, h8]
  exact h
theorem kx_mc_fr {cs : List (Nat × Nat)} (h : kx_mc n cs z) (h0 : z' 0 = z 0) (h2 : z' 2 = z 2) (h3 : z' 3 = z 3) (h4 : z' 4 = z 4) : kx_mc n cs z' := by
  unfold kx_mc at h ⊢
  rw [h0, h2, h3, h4]
  exact h
def kx_frL (n : Nat) (z z' : Nat → Nat → Int32) : Prop := (∀ c, c ≠ 0 → (c < 2 ∨ 8 < c) → z' c = z c) ∧ (∀ j, j ≠ 3 → j ≠ 4 → j ≠ 5 → z' 0 j = z 0 j) ∧ (∀ j, (j < 520 * n ∨ 520 * n + 520 ≤ j) → z' 2 j = z 2 j ∧ z' 3 j = z 3 j) ∧ (∀ j, (j < 140 * n ∨ 140 * n + 140 ≤ j) → z' 6 j = z 6 j ∧ z' 7 j = z 7 j ∧ z' 8 j = z 8 j) ∧ ∀ j, j ≠ n → z' 5 j = z 5 j
theorem kx_frL_rf (n : Nat) (z : Nat → Nat → Int32) : kx_frL n z z := ⟨fun _ _ _ => rfl, fun _ _ _ _ => rfl, fun _ _ => ⟨rfl, rfl⟩, fun _ _ => ⟨rfl, rfl, rfl⟩, fun _ _ => rfl⟩
theorem kx_frL_tr {z1 z2 : Nat → Nat → Int32} (h : kx_frL n z z1) (g : kx_frL n z1 z2) : kx_frL n z z2 := ⟨fun c a1 a2 => (g.1 c a1 a2).trans (h.1 c a1 a2), fun j a1 a2 a3 => (g.2.1 j a1 a2 a3).trans (h.2.1 j a1 a2 a3), fun j hj => ⟨(g.2.2.1 j hj).1.trans (h.2.2.1 j hj).1, (g.2.2.1 j hj).2.trans (h.2.2.1 j hj).2⟩, fun j hj => ⟨(g.2.2.2.1 j hj).1.trans (h.2.2.2.1 j hj).1, (g.2.2.2.1 j hj).2.1.trans (h.2.2.2.1 j hj).2.1, (g.2.2.2.1 j hj).2.2.trans (h.2.2.2.1 j hj).2.2⟩, fun j hj => (g.2.2.2.2 j hj).trans (h.2.2.2.2 j hj)⟩
theorem kx_frL_M (h : kx_frM n z z') : kx_frL n z z' := ⟨fun c a1 a2 => h.1 c a1 (by omega) (by omega) (by omega), h.2.1, h.2.2, fun j _ => by rw [h.1 6 (by omega) (by omega) (by omega) (by omega), h.1 7 (by omega) (by omega) (by omega) (by omega), h.1 8 (by omega) (by omega) (by omega) (by omega)]; exact ⟨rfl, rfl, rfl⟩, fun j _ => by rw [h.1 5 (by omega) (by omega) (by omega) (by omega)]⟩
theorem kx_frL_r {c x : Nat} {v : Int32} (hc : c = 6 ∨ c = 7 ∨ c = 8) (h1 : 140 * n ≤ x) (h2 : x < 140 * n + 140) : kx_frL n z (kv_z z c (upd (z c) x v)) := by
  refine ⟨fun c' a1 a2 => kv_zne _ _ (by omega), fun j _ _ _ => by rw [kv_zne _ _ (by omega)], fun j _ => by rw [kv_zne _ _ (by omega), kv_zne _ _ (by omega)]; exact ⟨rfl, rfl⟩, fun j hj => ?_, fun j _ => by rw [kv_zne _ _ (by omega)]⟩
  have key : ∀ c', kv_z z c (upd (z c) x v) c' j = z c' j := by
    intro c'
    by_cases q : c' = c
    · rw [q, kv_zs]
      exact if_neg (by omega)
    · rw [kv_zne _ _ q]
  exact ⟨key 6, key 7, key 8⟩
theorem kx_frL_5 {v : Int32} : kx_frL n z (kv_z z 5 (upd (z 5) n v)) := by
  refine ⟨fun c' a1 a2 => kv_zne _ _ (by omega), fun j _ _ _ => by rw [kv_zne _ _ (by omega)], fun j _ => by rw [kv_zne _ _ (by omega), kv_zne _ _ (by omega)]; exact ⟨rfl, rfl⟩, fun j hj => ?_, fun j hj => ?_⟩
  · rw [kv_zne _ _ (by omega), kv_zne _ _ (by omega), kv_zne _ _ (by omega)]
    exact ⟨rfl, rfl, rfl⟩
  · rw [kv_zs]
    exact if_neg hj
theorem kx_bad0 (h : ¬ z 0 4 = -1) : kv_Rn d 158 0 [some (.ref 0)] [] (kv_m z zl) = some (none, kv_m z zl) := by
  simp only [kv_e158_0, kv_e158_1, kv_e158_2, kv_e158_5, kv_e158_6, kv_e158_9, kv_e158_10, kv_e158_13, kv_e158_16, kv_e158_17, kv_e158_20, kv_e158_23, kv_o10, not_false_eq_true, not_true, if_true, if_false, kv_then_s, kv_then_v, kv_then_n, List.cons_append, List.nil_append, kv_Ci, kv_Cr, kv_Cn, kv_Cu, kv_C0, kv_catc, kv_gCi, kv_gCl, kv_gCr, kv_nb0, kv_nb1, kv_nbi, kv_nb01, Nat.reduceAdd, Nat.reduceLeDiff, h]
  exact congrArg (fun w => some (none, kv_m w zl)) (kx_f_id (j := 4) rfl)
theorem kx_140 (n i : Nat) : (140 : Int32) * Int32.ofNat n + Int32.ofNat i = Int32.ofNat (140 * n + i) := by rw [show (140 : Int32) = Int32.ofNat 140 from rfl, kw_mulN, kw_addN]
/-- what a clause leaves -/
def kx_CM (t : Nat → Int32) (L n : Nat) (cs : List (Nat × Nat)) (rs : List (Nat × Nat × Nat)) (G : kx_QC) (z' : Nat → Nat → Int32) : Prop := z' 0 4 = (if G.1 = true then -1 else Int32.ofNat G.2.1) ∧ (G.1 = true → (kx_ctM t L G.2.1 z' ∧ z' 0 5 = 0) ∧ kx_mc n (cs ++ G.2.2.1 ++ G.2.2.2) z' ∧ kx_cr n (rs ++ [(cs.length, cs.length + G.2.2.1.length, cs.length + G.2.2.1.length + G.2.2.2.length)]) z')
theorem kx_rowM {k m : Nat} (b : Int32) (h14 : z 0 14 = Int32.ofNat n) (hn : n ≤ 6) (h4 : z 4 n = Int32.ofNat m) (h5 : z 5 n = Int32.ofNat k) (hk : k < 140) : ∃ z', kv_Rn d 174 251 [some (.ref 0), some (.int (Int32.ofNat (140 * n + k))), some (.int b)] [] (kv_m z zl) = some (none, kv_m z' zl) ∧ kx_frL n z z' ∧ (∀ c, c ≠ 5 → c ≠ 8 → z' c = z c) ∧ z' 5 n = Int32.ofNat (k + 1) ∧ z' 8 (140 * n + k) = Int32.ofNat m ∧ ∀ j, j ≠ 140 * n + k → z' 8 j = z 8 j := by
  have hx : 140 * n + k < 980 := by omega
  have hn2 : n < 2147483648 := by omega
  have hx2 : 140 * n + k < 2147483648 := by omega
  have r4 : ∀ (w : Nat → Nat → Int32) j, kv_rd w 4 j = w 4 j := fun w j => kv_rd_lt (by omega)
  have r5 : ∀ (w : Nat → Nat → Int32) j, kv_rd w 5 j = w 5 j := fun w j => kv_rd_lt (by omega)
  have f0 : ∀ (w : Nat → Nat → Int32) (f : Nat → Int32), kv_z w 8 f 0 = w 0 := fun w f => kv_zne _ _ (by omega)
  have f5 : ∀ (w : Nat → Nat → Int32) (f : Nat → Int32), kv_z w 8 f 5 = w 5 := fun w f => kv_zne _ _ (by omega)
  refine ⟨kv_z (kv_z z 8 (upd (z 8) (140 * n + k) (Int32.ofNat m))) 5 (upd (kv_z z 8 (upd (z 8) (140 * n + k) (Int32.ofNat m)) 5) n (Int32.ofNat (k + 1))), ?_, kx_frL_tr (kx_frL_r (c := 8) (by omega) (by omega) (by omega)) kx_frL_5, fun c a1 a2 => (kv_zne _ _ a1).trans (kv_zne _ _ a2), ?_, ?_, fun j hj => ?_⟩
  · simp only [kv_e174_251, kv_e174_252, kv_e174_255, kv_e174_256, kv_e174_257, kv_e174_260, kv_e174_261, kv_e174_264, kv_e174_265, kv_e174_266, kv_e174_267, kv_e174_270, kv_e174_271, kv_e174_274, kv_e174_275, kv_e174_276, kv_e174_277, kv_e174_278, kv_e174_279, kv_o10, not_false_eq_true, not_true, if_true, if_false, kv_then_s, kv_then_v, kv_then_n, List.cons_append, List.nil_append, kv_Ci, kv_Cr, kv_Cn, kv_Cu, kv_C0, kv_catc, kv_gCi, kv_gCl, kv_gCr, kv_nb0, kv_nb1, kv_nbi, kv_nb01, Nat.reduceAdd, Nat.reduceLeDiff, h14, kw_n0 hn2, kv_tn hn2, kv_lN (show n < 7 by omega), kv_ar_lt (show 4 < 300 by omega), kv_ar_lt (show 5 < 300 by omega), kv_ar_lt (show 8 < 300 by omega), kv_am4, kv_am5, kv_am8, or_self, r4, r5, h4, kw_n0 hx2, kv_tn hx2, kv_lN hx, f0, f5, h5, kv_suc]
  · rw [kv_zs]
    exact if_pos rfl
  · rw [kv_zne _ _ (by omega), kv_zs]
    exact if_pos rfl
  · rw [kv_zne _ _ (by omega), kv_zs]
    exact if_neg hj
theorem kx_row_cr {rs : List (Nat × Nat × Nat)} {m0 m1 m2 : Nat} (h : kx_cr n rs z) (h5 : z' 5 n = Int32.ofNat (rs.length + 1)) (hlt : ∀ i, i < 140 * n + rs.length → z' 6 i = z 6 i ∧ z' 7 i = z 7 i ∧ z' 8 i = z 8 i) (h6 : z' 6 (140 * n + rs.length) = Int32.ofNat m0) (h7 : z' 7 (140 * n + rs.length) = Int32.ofNat m1) (h8 : z' 8 (140 * n + rs.length) = Int32.ofNat m2) : kx_cr n (rs ++ [(m0, m1, m2)]) z' := by
  refine ⟨by rw [List.length_append]; exact h5, fun i hi => ?_⟩
  rw [List.length_append, List.length_cons, List.length_nil] at hi
  by_cases q : i = rs.length
  · rw [q, List.getD_eq_getElem?_getD, List.getElem?_append_right (Nat.le_refl _), Nat.sub_self]
    exact ⟨h6, h7, h8⟩
  · rw [List.getD_eq_getElem?_getD, List.getElem?_append_left (by omega), ← List.getD_eq_getElem?_getD]
    obtain ⟨g6, g7, g8⟩ := hlt (140 * n + i) (by omega)
    rw [g6, g7, g8]
    exact h.2 i (by omega)
/-- behind a clause's lone sum -/
theorem kx_lone {rs : List (Nat × Nat × Nat)} {cs : List (Nat × Nat)} {R : kx_Q} (hw : z 0 4 = (if R.1 = true then -1 else Int32.ofNat R.2.1)) (hok : R.1 = true → kx_ctM t L R.2.1 z ∧ z 0 5 = 0) (hm : kx_mc n (cs ++ R.2.2) z) (hr : kx_cr n rs z) (h6 : z 6 (140 * n + rs.length) = Int32.ofNat cs.length) (hk : rs.length < 140) : ∃ z', kv_Rn d 174 184 [some (.ref 0), some (.int (Int32.ofNat (140 * n + rs.length))), some (.int 0)] [] (kv_m z zl) = some (none, kv_m z' zl) ∧ kx_frL n z z' ∧ kx_CM t L n cs rs (R.1, R.2.1, [], R.2.2) z' := by
  have hn := hm.1.2
  have hx : 140 * n + rs.length < 980 := by omega
  have hx2 : 140 * n + rs.length < 2147483648 := by omega
  have r6 : ∀ (w : Nat → Nat → Int32) j, kv_rd w 6 j = w 6 j := fun w j => kv_rd_lt (by omega)
  obtain ⟨z1, e1⟩ : ∃ z1, z1 = kv_z z 7 (upd (z 7) (140 * n + rs.length) (Int32.ofNat cs.length)) := ⟨_, rfl⟩
  have f1 : ∀ c, c ≠ 7 → z1 c = z c := fun c h => by rw [e1]; exact kv_zne _ _ h
  have l1 : kx_frL n z z1 := by rw [e1]; exact kx_frL_r (by omega) (by omega) (by omega)
  obtain ⟨z2, r2, l2, f2, g5, g8, k8⟩ := kx_rowM (d := d) (z := z1) (zl := zl) 0 (n := n) (m := (cs ++ R.2.2).length) (k := rs.length) (by rw [f1 0 (by omega)]; exact hm.1.1) hn (by rw [f1 4 (by omega)]; exact hm.2.1) (by rw [f1 5 (by omega)]; exact hr.1) hk
  have f3 : ∀ c, c ≠ 5 → c ≠ 7 → c ≠ 8 → z2 c = z c := fun c a1 a2 a3 => (f2 c a1 a3).trans (f1 c a2)
  refine ⟨z2, ?_, kx_frL_tr l1 l2, by rw [f3 0 (by omega) (by omega) (by omega)]; exact hw, fun s => ⟨⟨kx_ctM_fr (hok s).1 (f3 0 (by omega) (by omega) (by omega)) (f3 1 (by omega) (by omega) (by omega)), by rw [f3 0 (by omega) (by omega) (by omega)]; exact (hok s).2⟩, ?_, ?_⟩⟩
  · rw [← r2, e1]
    simp only [kv_e174_184, kv_e174_185, kv_e174_188, kv_e174_189, kv_e174_190, kv_e174_193, kv_e174_194, kv_e174_195, kv_e174_196, kv_e174_197, kv_o10, not_false_eq_true, not_true, if_true, if_false, kv_then_s, kv_then_v, kv_then_n, List.cons_append, List.nil_append, kv_Ci, kv_Cr, kv_Cn, kv_Cu, kv_C0, kv_catc, kv_gCi, kv_gCl, kv_gCr, kv_nb0, kv_nb1, kv_nbi, kv_nb01, Nat.reduceAdd, Nat.reduceLeDiff, kw_n0 hx2, kv_tn hx2, kv_lN hx, kv_ar_lt (show 6 < 300 by omega), kv_ar_lt (show 7 < 300 by omega), kv_am6, kv_am7, or_self, r6, h6]
  · dsimp only
    rw [List.append_nil]
    exact kx_mc_fr hm (f3 0 (by omega) (by omega) (by omega)) (f3 2 (by omega) (by omega) (by omega)) (f3 3 (by omega) (by omega) (by omega)) (f3 4 (by omega) (by omega) (by omega))
  · refine kx_row_cr hr g5 (fun i hi => ⟨?_, ?_, ?_⟩) ?_ ?_ ?_
    · rw [f3 6 (by omega) (by omega) (by omega)]
    · rw [f2 7 (by omega) (by omega), e1, kv_zs]
      exact if_neg (by omega)
    · rw [k8 i (by omega), f1 8 (by omega)]
    · rw [f3 6 (by omega) (by omega) (by omega)]
      exact h6
    · rw [f2 7 (by omega) (by omega), e1, kv_zs]
      exact if_pos rfl
    · rw [g8, List.length_append]
      rfl
/-- behind a clause's test -/
theorem kx_gateM {rs : List (Nat × Nat × Nat)} {cs : List (Nat × Nat)} {R : kx_Q} (hd : 31 ≤ d) (hw : z 0 4 = (if R.1 = true then -1 else Int32.ofNat R.2.1)) (hok : R.1 = true → kx_ctM t L R.2.1 z ∧ z 0 5 = 0) (hb : R.2.1 ≤ L ∧ cs.length + R.2.2.length ≤ R.2.1 ∧ L ≤ 240) (hm : kx_mc n (cs ++ R.2.2) z) (hr : kx_cr n rs z) (h6 : z 6 (140 * n + rs.length) = Int32.ofNat cs.length) (hk : rs.length < 140) : ∃ z', kv_Rn (d + 1) 174 184 [some (.ref 0), some (.int (Int32.ofNat (140 * n + rs.length))), some (.int 1)] [] (kv_m z zl) = some (none, kv_m z' zl) ∧ kx_frL n z z' ∧ kx_CM t L n cs rs (kx_gate t L (kx_S t L 6) R) z' := by
  obtain ⟨hb1, hb2, hb3⟩ := hb
  have hn := hm.1.2
  have hn2 : n < 2147483648 := by omega
  have hx : 140 * n + rs.length < 980 := by omega
  have hx2 : 140 * n + rs.length < 2147483648 := by omega
  have r6 : ∀ (w : Nat → Nat → Int32) j, kv_rd w 6 j = w 6 j := fun w j => kv_rd_lt (by omega)
  have r4 : ∀ (w : Nat → Nat → Int32) j, kv_rd w 4 j = w 4 j := fun w j => kv_rd_lt (by omega)
  obtain ⟨z1, e1⟩ : ∃ z1, z1 = kv_z z 7 (upd (z 7) (140 * n + rs.length) (Int32.ofNat cs.length)) := ⟨_, rfl⟩
  have f1 : ∀ c, c ≠ 7 → z1 c = z c := fun c h => by rw [e1]; exact kv_zne _ _ h
  have l1 : kx_frL n z z1 := by rw [e1]; exact kx_frL_r (by omega) (by omega) (by omega)
  have s1 : kv_Rn (d + 1) 174 184 [some (.ref 0), some (.int (Int32.ofNat (140 * n + rs.length))), some (.int 1)] [] (kv_m z zl) = kv_Rn (d + 1) 174 200 [some (.ref 0), some (.int (Int32.ofNat (140 * n + rs.length))), some (.int 1)] [] (kv_m z1 zl) := by
    rw [e1]
    simp only [kv_e174_184, kv_e174_185, kv_e174_188, kv_e174_189, kv_e174_190, kv_e174_193, kv_e174_194, kv_e174_195, kv_e174_196, kv_e174_197, kv_o10, not_false_eq_true, not_true, if_true, if_false, kv_then_s, kv_then_v, kv_then_n, List.cons_append, List.nil_append, kv_Ci, kv_Cr, kv_Cn, kv_Cu, kv_C0, kv_catc, kv_gCi, kv_gCl, kv_gCr, kv_nb0, kv_nb1, kv_nbi, kv_nb01, Nat.reduceAdd, Nat.reduceLeDiff, kw_n0 hx2, kv_tn hx2, kv_lN hx, kv_ar_lt (show 6 < 300 by omega), kv_ar_lt (show 7 < 300 by omega), kv_am6, kv_am7, or_self, r6, h6]
  have w1 : z1 0 4 = (if R.1 = true then -1 else Int32.ofNat R.2.1) := by rw [f1 0 (by omega)]; exact hw
  have m1 : kx_mc n (cs ++ R.2.2) z1 := kx_mc_fr hm (f1 0 (by omega)) (f1 2 (by omega)) (f1 3 (by omega)) (f1 4 (by omega))
  rw [s1]
  unfold kx_gate
  by_cases q : R.1 = true
  · rw [if_pos q]
    rw [if_pos q] at w1
    obtain ⟨hc, h5⟩ := hok q
    have c1 := kx_ctM_fr hc (f1 0 (by omega)) (f1 1 (by omega))
    have h5 : z1 0 5 = 0 := by rw [f1 0 (by omega)]; exact h5
    have n1 := kw_nx_le t L R.2.1
    have n2 := kw_nx_L (t := t) hb1
    obtain ⟨d', rfl⟩ : ∃ d', d = d' + 1 := ⟨d - 1, by omega⟩
    have lk := kx_look (d := d') (zl := zl) (show R.2.1 ≤ 100000 by omega) c1
    by_cases q2 : kx_sg t L (kw_nx t L R.2.1) = 63
    · rw [if_pos q2]
      have hlt := kx_sg_ne (t := t) (L := L) (a := kw_nx t L R.2.1) (fun s => absurd (q2.symm.trans s) (by decide))
      obtain ⟨z2, e2⟩ : ∃ z2, z2 = kv_z (kx_a z1 (kw_nx t L R.2.1 + 1)) 7 (upd (kx_a z1 (kw_nx t L R.2.1 + 1) 7) (140 * n + rs.length) (Int32.ofNat (cs ++ R.2.2).length)) := ⟨_, rfl⟩
      have f2 : ∀ c, c ≠ 0 → c ≠ 7 → z2 c = z c := fun c h0 h => by rw [e2, kv_zne _ _ h, kx_a_fr _ _ h0, f1 c h]
      have f20 : z2 0 = kx_a z1 (kw_nx t L R.2.1 + 1) 0 := by rw [e2]; exact kv_zne _ _ (by omega)
      have l2 : kx_frL n z1 z2 := by rw [e2]; exact kx_frL_tr (kx_frL_M kx_frM_a) (kx_frL_r (by omega) (by omega) (by omega))
      have m2 : kx_mc n (cs ++ R.2.2) z2 := by rw [e2]; exact kx_mc_fr (kx_mc_a m1) (kv_zne _ _ (by omega)) (kv_zne _ _ (by omega)) (kv_zne _ _ (by omega)) (kv_zne _ _ (by omega))
      have c2 : kx_ctM t L (kw_nx t L R.2.1 + 1) z2 := by rw [e2]; exact kx_ctM_fr (kx_ctM_a c1) (kv_zne _ _ (by omega)) (kv_zne _ _ (by omega))
      obtain ⟨z3, r3, f3, m3, w3, c3⟩ := kx_SumM (n := n) (zl := zl) (t := t) (L := L) 6 (d' + 1) (by omega) (by omega) (kw_nx t L R.2.1 + 1) (cs ++ R.2.2) z2 (by omega) c2 m2 (by rw [List.length_append]; omega) (by rw [f20, kx_a_ne _ _ (by omega)]; exact w1) (by rw [f20, kx_a_ne _ _ (by omega)]; exact h5)
      generalize kx_S t L 6 (kw_nx t L R.2.1 + 1) = S at *
      have f3' : ∀ c, c ≠ 0 → c ≠ 2 → c ≠ 3 → c ≠ 4 → z3 c = z2 c := f3.1
      obtain ⟨z4, r4', l4, f4, g5, g8, k8⟩ := kx_rowM (d := d' + 1 + 1) (z := z3) (zl := zl) 1 (n := n) (m := (cs ++ R.2.2 ++ S.2.2).length) (k := rs.length) m3.1.1 hn m3.2.1 (by rw [f3' 5 (by omega) (by omega) (by omega) (by omega), f2 5 (by omega) (by omega)]; exact hr.1) hk
      refine ⟨z4, ?_, kx_frL_tr l1 (kx_frL_tr l2 (kx_frL_tr (kx_frL_M f3) l4)), by rw [f4 0 (by omega) (by omega)]; exact w3, fun s => ⟨⟨kx_ctM_fr (c3 s).1 (f4 0 (by omega) (by omega)) (f4 1 (by omega) (by omega)), by rw [f4 0 (by omega) (by omega)]; exact (c3 s).2⟩, kx_mc_fr m3 (f4 0 (by omega) (by omega)) (f4 2 (by omega) (by omega)) (f4 3 (by omega) (by omega)) (f4 4 (by omega) (by omega)), ?_⟩⟩
      · rw [← r4']
        have g0 : ∀ b, kx_a z1 b 0 14 = Int32.ofNat n := fun b => (kx_a_ne _ _ (by omega)).trans m1.1.1
        have g4 : ∀ b, kx_a z1 b 4 n = Int32.ofNat (cs ++ R.2.2).length := fun b => by rw [kx_a_fr _ _ (by omega)]; exact m1.2.1
        simp only [kv_e174_200, kv_e174_201, kv_e174_204, kv_e174_205, kv_e174_208, kv_e174_209, kv_e174_212, kv_e174_214, kv_e174_217, kv_e174_218, kv_e174_221, kv_e174_222, kv_e174_223, kv_e174_224, kv_e174_227, kv_e174_228, kv_e174_229, kv_e174_232, kv_e174_233, kv_e174_236, kv_e174_237, kv_e174_238, kv_e174_241, kv_e174_242, kv_e174_245, kv_e174_246, kv_e174_247, kv_e174_248, kv_o10, not_false_eq_true, not_true, if_true, if_false, kv_then_s, kv_then_v, kv_then_n, List.cons_append, List.nil_append, kv_Ci, kv_Cr, kv_Cn, kv_Cu, kv_C0, kv_catc, kv_gCi, kv_gCl, kv_gCr, kv_nb0, kv_nb1, kv_nbi, kv_nb01, Nat.reduceAdd, Nat.reduceLeDiff, w1, lk, q2, kx_a_at, kv_suc, kx_fd, kx_fa, g0, g4, kw_n0 hn2, kv_tn hn2, kv_lN (show n < 7 by omega), kw_n0 hx2, kv_tn hx2, kv_lN hx, kv_ar_lt (show 4 < 300 by omega), kv_ar_lt (show 7 < 300 by omega), kv_am4, kv_am7, or_self, r4, ← e2]
        simp only [r3, kv_o10, not_false_eq_true, not_true, if_true, if_false, kv_then_s, kv_then_v, kv_then_n, List.cons_append, List.nil_append, kv_Ci, kv_Cr, kv_Cn, kv_Cu, kv_C0, kv_catc, kv_gCi, kv_gCl, kv_gCr, kv_nb0, kv_nb1, kv_nbi, kv_nb01, Nat.reduceAdd, Nat.reduceLeDiff]
      · refine kx_row_cr hr g5 (fun i hi => ⟨?_, ?_, ?_⟩) ?_ ?_ ?_
        · rw [f4 6 (by omega) (by omega), f3' 6 (by omega) (by omega) (by omega) (by omega), f2 6 (by omega) (by omega)]
        · rw [f4 7 (by omega) (by omega), f3' 7 (by omega) (by omega) (by omega) (by omega), e2, kv_zs]
          refine (if_neg (by omega)).trans ?_
          rw [kx_a_fr _ _ (by omega), e1, kv_zs]
          exact if_neg (by omega)
        · rw [k8 i (by omega), f3' 8 (by omega) (by omega) (by omega) (by omega), f2 8 (by omega) (by omega)]
        · rw [f4 6 (by omega) (by omega), f3' 6 (by omega) (by omega) (by omega) (by omega), f2 6 (by omega) (by omega)]
          exact h6
        · rw [f4 7 (by omega) (by omega), f3' 7 (by omega) (by omega) (by omega) (by omega), e2, kv_zs, ← List.length_append]
          exact if_pos rfl
        · rw [g8, List.length_append, List.length_append]
    · rw [if_neg q2]
      have wb : kx_a z1 (kw_nx t L R.2.1) 0 4 = -1 := (kx_a_ne _ _ (by omega)).trans w1
      refine ⟨kx_f (kx_a z1 (kw_nx t L R.2.1)) 4 (Int32.ofNat (kw_nx t L R.2.1)), ?_, kx_frL_tr l1 (kx_frL_M (kx_frM_tr kx_frM_a (kx_frM_f (Or.inr (Or.inl rfl))))), kx_f_at _ _ _, fun s => absurd s (by simp)⟩
      simp only [kv_e174_200, kv_e174_201, kv_e174_204, kv_e174_205, kv_e174_208, kv_e174_209, kv_e174_212, kv_e174_214, kv_e174_217, kv_e174_218, kv_e174_221, kv_o10, not_false_eq_true, not_true, if_true, if_false, kv_then_s, kv_then_v, kv_then_n, List.cons_append, List.nil_append, kv_Ci, kv_Cr, kv_Cn, kv_Cu, kv_C0, kv_catc, kv_gCi, kv_gCl, kv_gCr, kv_nb0, kv_nb1, kv_nbi, kv_nb01, Nat.reduceAdd, Nat.reduceLeDiff, w1, lk, q2, kx_bad wb, kx_a_at]
  · rw [if_neg q]
    rw [if_neg q] at w1
    have wb : ¬ z1 0 4 = -1 := by rw [w1, kw_of_m1 (by omega)]; exact fun s => s
    obtain ⟨z2, r2, l2, f2, g5, g8, k8⟩ := kx_rowM (d := d + 1) (z := z1) (zl := zl) 1 (n := n) (m := (cs ++ R.2.2).length) (k := rs.length) m1.1.1 hn m1.2.1 (by rw [f1 5 (by omega)]; exact hr.1) hk
    refine ⟨z2, ?_, kx_frL_tr l1 l2, by rw [f2 0 (by omega) (by omega)]; exact w1, fun s => absurd s (by simp)⟩
    rw [← r2]
    simp only [kv_e174_200, kv_e174_201, kv_e174_204, kv_e174_205, kv_e174_208, kv_e174_209, kv_e174_212, kv_e174_214, kv_e174_217, kv_e174_218, kv_e174_221, kv_o10, not_false_eq_true, not_true, if_true, if_false, kv_then_s, kv_then_v, kv_then_n, List.cons_append, List.nil_append, kv_Ci, kv_Cr, kv_Cn, kv_Cu, kv_C0, kv_catc, kv_gCi, kv_gCl, kv_gCr, kv_nb0, kv_nb1, kv_nbi, kv_nb01, Nat.reduceAdd, Nat.reduceLeDiff, wb]
/-- a clause's test, or its lone sum -/
theorem kx_bodyM {rs : List (Nat × Nat × Nat)} {cs : List (Nat × Nat)} (hd : 95 ≤ d) (ha : a ≤ L) (hw : z 0 4 = -1) (h5 : z 0 5 = 0) (hc : kx_ctM t L a z) (hm : kx_mc n cs z) (hl : cs.length ≤ a) (hr : kx_cr n rs z) (hk : rs.length < 140) (x : Option Value) : ∃ z', kv_Rn (d + 1) 174 90 [some (.ref 0), some (.int (Int32.ofNat (140 * n + rs.length))), x] [] (kv_m z zl) = some (none, kv_m z' zl) ∧ kx_frL n z z' ∧ kx_CM t L n cs rs (kx_body t L (kx_S t L 6) (kx_U t L 6) (kw_nx t L a)) z' := by
  have hL := hc.1.2
  have hn := hm.1.2
  have hn2 : n < 2147483648 := by omega
  have hx : 140 * n + rs.length < 980 := by omega
  have hx2 : 140 * n + rs.length < 2147483648 := by omega
  have r4 : ∀ (w : Nat → Nat → Int32) j, kv_rd w 4 j = w 4 j := fun w j => kv_rd_lt (by omega)
  have n1 := kw_nx_le t L a
  have n2 := kw_nx_L (t := t) ha
  obtain ⟨z1, e1⟩ : ∃ z1, z1 = kv_z z 6 (upd (z 6) (140 * n + rs.length) (Int32.ofNat cs.length)) := ⟨_, rfl⟩
  have f1 : ∀ c, c ≠ 6 → z1 c = z c := fun c h => by rw [e1]; exact kv_zne _ _ h
  have l1 : kx_frL n z z1 := by rw [e1]; exact kx_frL_r (by omega) (by omega) (by omega)
  have g6 : z1 6 (140 * n + rs.length) = Int32.ofNat cs.length := by rw [e1, kv_zs]; exact if_pos rfl
  have c1 := kx_ctM_fr hc (f1 0 (by omega)) (f1 1 (by omega))
  have m1 : kx_mc n cs z1 := kx_mc_fr hm (f1 0 (by omega)) (f1 2 (by omega)) (f1 3 (by omega)) (f1 4 (by omega))
  have q1 : kx_cr n rs z1 := by
    refine ⟨by rw [f1 5 (by omega)]; exact hr.1, fun i hi => ?_⟩
    rw [f1 7 (by omega), f1 8 (by omega), e1, kv_zs]
    unfold upd
    rw [if_neg (by omega)]
    exact hr.2 i hi
  obtain ⟨d', rfl⟩ : ∃ d', d = d' + 5 := ⟨d - 5, by omega⟩
  have lk := kx_look (d := d' + 4) (zl := zl) (show a ≤ 100000 by omega) c1
  have ca := kx_ctM_a (b := kw_nx t L a) c1
  have lk2 := kx_look (d := d' + 4) (zl := zl) (show kw_nx t L a ≤ 100000 by omega) ca
  rw [kw_nx_nx, kx_a_a] at lk2
  have wa : kx_a z1 (kw_nx t L a) 0 4 = -1 := by rw [kx_a_ne _ _ (by omega), f1 0 (by omega)]; exact hw
  have da : kx_a z1 (kw_nx t L a) 0 5 = Int32.ofNat 0 := by rw [kx_a_ne _ _ (by omega), f1 0 (by omega)]; exact h5
  have ma := kx_mc_a (b := kw_nx t L a) m1
  have qa : kx_cr n rs (kx_a z1 (kw_nx t L a)) := kx_cr_fr q1 (kx_a_fr _ _ (by omega)) (kx_a_fr _ _ (by omega)) (kx_a_fr _ _ (by omega)) (kx_a_fr _ _ (by omega))
  have ga : kx_a z1 (kw_nx t L a) 6 (140 * n + rs.length) = Int32.ofNat cs.length := by rw [kx_a_fr _ _ (by omega)]; exact g6
  have la : kx_frL n z (kx_a z1 (kw_nx t L a)) := kx_frL_tr l1 (kx_frL_M kx_frM_a)
  have s1 : kv_Rn (d' + 5 + 1) 174 90 [some (.ref 0), some (.int (Int32.ofNat (140 * n + rs.length))), x] [] (kv_m z zl) = kv_Rn (d' + 5 + 1) 174 105 [some (.ref 0), some (.int (Int32.ofNat (140 * n + rs.length))), x] [] (kv_m z1 zl) := by
    rw [e1]
    simp only [kv_e174_90, kv_e174_91, kv_e174_94, kv_e174_95, kv_e174_96, kv_e174_99, kv_e174_100, kv_e174_103, kv_e174_104, kv_o10, not_false_eq_true, not_true, if_true, if_false, kv_then_s, kv_then_v, kv_then_n, List.cons_append, List.nil_append, kv_Ci, kv_Cr, kv_Cn, kv_Cu, kv_C0, kv_catc, kv_gCi, kv_gCl, kv_gCr, kv_nb0, kv_nb1, kv_nbi, kv_nb01, Nat.reduceAdd, Nat.reduceLeDiff, hm.1.1, hm.2.1, kw_n0 hn2, kv_tn hn2, kv_lN (show n < 7 by omega), kw_n0 hx2, kv_tn hx2, kv_lN hx, kv_ar_lt (show 4 < 300 by omega), kv_ar_lt (show 6 < 300 by omega), kv_am4, kv_am6, or_self, r4]
  rw [s1]
  generalize kw_nx t L a = b at *
  by_cases q : kx_sg t L b = 33 ∨ kx_sg t L b = 40
  · rw [kx_body_c q]
    have wu := kx_W_U (t := t) (L := L) 6
    obtain ⟨⟨v1, v2⟩, v3⟩ := kx_W_cd wu b n2
    obtain ⟨z2, r2, f2, m2, w2, c2⟩ := kx_condM (d := d') (dp := 0) (n := n) (zl := zl) wu (fun D hD => kx_UnitM 6 D (by omega) (by omega)) b cs _ n2 ca ma (by omega) wa da
    have f2' : ∀ c, c ≠ 0 → c ≠ 2 → c ≠ 3 → c ≠ 4 → z2 c = kx_a z1 b c := f2.1
    obtain ⟨z3, r3, l3, h3⟩ := kx_gateM (d := d' + 5) (zl := zl) (R := kx_cd t L (kx_U t L 6) b) (cs := cs) (rs := rs) (n := n) (z := z2) (by omega) w2 c2 ⟨v2, by omega, hL⟩ m2 (kx_cr_fr qa (f2' 5 (by omega) (by omega) (by omega) (by omega)) (f2' 6 (by omega) (by omega) (by omega) (by omega)) (f2' 7 (by omega) (by omega) (by omega) (by omega)) (f2' 8 (by omega) (by omega) (by omega) (by omega))) (by rw [f2' 6 (by omega) (by omega) (by omega) (by omega)]; exact ga) hk
    refine ⟨z3, ?_, kx_frL_tr la (kx_frL_tr (kx_frL_M f2) l3), h3⟩
    rw [← r3]
    rcases q with q | q
    · simp only [kv_e174_105, kv_e174_106, kv_e174_109, kv_e174_111, kv_e174_114, kv_e174_115, kv_e174_118, kv_e174_120, kv_e174_123, kv_e174_124, kv_e174_127, kv_e174_128, kv_e174_129, kv_e174_130, kv_e174_133, kv_e174_134, kv_e174_137, kv_o10, not_false_eq_true, not_true, if_true, if_false, kv_then_s, kv_then_v, kv_then_n, List.cons_append, List.nil_append, kv_Ci, kv_Cr, kv_Cn, kv_Cu, kv_C0, kv_catc, kv_gCi, kv_gCl, kv_gCr, kv_nb0, kv_nb1, kv_nbi, kv_nb01, Nat.reduceAdd, Nat.reduceLeDiff, lk, q, eq_self, r2, show ((1 : Int32) = 0) = False from by decide]
    · simp only [kv_e174_105, kv_e174_106, kv_e174_109, kv_e174_111, kv_e174_114, kv_e174_115, kv_e174_118, kv_e174_120, kv_e174_123, kv_e174_124, kv_e174_127, kv_e174_128, kv_e174_129, kv_e174_130, kv_e174_133, kv_e174_134, kv_e174_137, kv_o10, not_false_eq_true, not_true, if_true, if_false, kv_then_s, kv_then_v, kv_then_n, List.cons_append, List.nil_append, kv_Ci, kv_Cr, kv_Cn, kv_Cu, kv_C0, kv_catc, kv_gCi, kv_gCl, kv_gCr, kv_nb0, kv_nb1, kv_nbi, kv_nb01, Nat.reduceAdd, Nat.reduceLeDiff, lk, lk2, q, show ((40 : Int32) = 33) = False from by decide, eq_self, r2, show ((1 : Int32) = 0) = False from by decide]
  · obtain ⟨z2, r2, f2, m2, w2, c2⟩ := kx_SumM (n := n) (zl := zl) (t := t) (L := L) 6 (d' + 5) (by omega) (by omega) b cs _ n2 ca ma (by omega) wa da
    obtain ⟨⟨v1, v2⟩, v3⟩ := kx_W_S (t := t) (L := L) 6 b n2
    have f2' : ∀ c, c ≠ 0 → c ≠ 2 → c ≠ 3 → c ≠ 4 → z2 c = kx_a z1 b c := f2.1
    have q2 : kx_cr n rs z2 := kx_cr_fr qa (f2' 5 (by omega) (by omega) (by omega) (by omega)) (f2' 6 (by omega) (by omega) (by omega) (by omega)) (f2' 7 (by omega) (by omega) (by omega) (by omega)) (f2' 8 (by omega) (by omega) (by omega) (by omega))
    have g2 : z2 6 (140 * n + rs.length) = Int32.ofNat cs.length := by rw [f2' 6 (by omega) (by omega) (by omega) (by omega)]; exact ga
    have b1 : ¬ kx_sg t L b = 33 := fun s => q (Or.inl s)
    have b2 : ¬ kx_sg t L b = 40 := fun s => q (Or.inr s)
    have l2 : kx_frL n z z2 := kx_frL_tr la (kx_frL_M f2)
    by_cases qo : (kx_S t L 6 b).1 = true
    · rw [if_pos qo] at w2
      obtain ⟨c2, d2⟩ := c2 qo
      have m1' := kw_nx_le t L (kx_S t L 6 b).2.1
      have m2' := kw_nx_L (t := t) v2
      have lk3 := kx_look (d := d' + 4) (zl := zl) (show (kx_S t L 6 b).2.1 ≤ 100000 by omega) c2
      have c3 := kx_ctM_a (b := kw_nx t L (kx_S t L 6 b).2.1) c2
      have w3 : kx_a z2 (kw_nx t L (kx_S t L 6 b).2.1) 0 4 = -1 := (kx_a_ne _ _ (by omega)).trans w2
      have d3 : kx_a z2 (kw_nx t L (kx_S t L 6 b).2.1) 0 5 = Int32.ofNat 0 := (kx_a_ne _ _ (by omega)).trans d2
      have m3 := kx_mc_a (b := kw_nx t L (kx_S t L 6 b).2.1) m2
      have q3 : kx_cr n rs (kx_a z2 (kw_nx t L (kx_S t L 6 b).2.1)) := kx_cr_fr q2 (kx_a_fr _ _ (by omega)) (kx_a_fr _ _ (by omega)) (kx_a_fr _ _ (by omega)) (kx_a_fr _ _ (by omega))
      have g3 : kx_a z2 (kw_nx t L (kx_S t L 6 b).2.1) 6 (140 * n + rs.length) = Int32.ofNat cs.length := by rw [kx_a_fr _ _ (by omega)]; exact g2
      have l3 : kx_frL n z (kx_a z2 (kw_nx t L (kx_S t L 6 b).2.1)) := kx_frL_tr l2 (kx_frL_M kx_frM_a)
      by_cases cp : kx_oC (kx_sg t L (kw_nx t L (kx_S t L 6 b).2.1)) = 0
      · rw [kx_body_s q qo cp]
        obtain ⟨z3, r3, l4, h3⟩ := kx_lone (d := d' + 5 + 1) (zl := zl) (R := (true, kw_nx t L (kx_S t L 6 b).2.1, (kx_S t L 6 b).2.2)) (t := t) (L := L) w3 (fun _ => ⟨c3, d3⟩) m3 q3 g3 hk
        refine ⟨z3, ?_, kx_frL_tr l3 l4, h3⟩
        rw [← r3]
        simp only [kv_e174_105, kv_e174_106, kv_e174_109, kv_e174_111, kv_e174_114, kv_e174_115, kv_e174_118, kv_e174_120, kv_e174_123, kv_e174_124, kv_e174_127, kv_e174_128, kv_e174_129, kv_e174_130, kv_e174_133, kv_e174_134, kv_e174_137, kv_e174_140, kv_e174_141, kv_e174_144, kv_e174_145, kv_e174_148, kv_e174_149, kv_e174_152, kv_e174_153, kv_e174_156, kv_e174_159, kv_e174_162, kv_e174_163, kv_e174_166, kv_e174_167, kv_e174_168, kv_e174_169, kv_o10, not_false_eq_true, not_true, if_true, if_false, kv_then_s, kv_then_v, kv_then_n, List.cons_append, List.nil_append, kv_Ci, kv_Cr, kv_Cn, kv_Cu, kv_C0, kv_catc, kv_gCi, kv_gCl, kv_gCr, kv_nb0, kv_nb1, kv_nbi, kv_nb01, Nat.reduceAdd, Nat.reduceLeDiff, lk, lk2, b1, b2, r2, w2, lk3, kx_isSign, cp, eq_self]
      · rw [kx_body_g q qo cp]
        have wu := kx_W_U (t := t) (L := L) 6
        have ws := kx_W_S (t := t) (L := L) 6
        have ec : kx_cmp t L (kx_S t L 6) (kw_nx t L (kx_S t L 6 b).2.1) = kx_cmp t L (kx_S t L 6) (kx_S t L 6 b).2.1 := by
          unfold kx_cmp
          rw [kw_nx_nx]
        have ed : kx_cdB t L (kx_S t L 6) (kx_U t L 6) (kw_nx t L (kx_S t L 6 b).2.1) = kx_cdB t L (kx_S t L 6) (kx_U t L 6) (kx_S t L 6 b).2.1 := by
          unfold kx_cdB kx_trB
          rw [ec]
        obtain ⟨z4, z5, z6, t4, t5, t6, f6, m6, w6, c6⟩ := kx_3M (d := d' + 1) (dp := 0) (n := n) (zl := zl) (j1 := 169) (l1 := [some (.ref 0), none]) (kx_W_cmp (t := t) ws) wu (kx_compM (d := d' + 2) ws (kx_SumM 6 (d' + 2 + 2) (by omega) (by omega))) (fun D hD => kx_UnitM 6 D (by omega) (by omega)) (kw_nx t L (kx_S t L 6 b).2.1) (cs ++ (kx_S t L 6 b).2.2) _ m2' c3 m3 (by rw [List.length_append]; omega) w3 d3
        have e6 : kx_sqf (kx_sqf (kx_cmp t L (kx_S t L 6)) (kx_loop t L kx_oA (kx_U t L 6) 240)) (kx_loop t L kx_oO (kx_tr t L (kx_U t L 6)) 240) (kw_nx t L (kx_S t L 6 b).2.1) = kx_cdB t L (kx_S t L 6) (kx_U t L 6) (kx_S t L 6 b).2.1 := ed
        rw [e6] at m6 w6 c6
        obtain ⟨⟨k1, k2⟩, k3⟩ := kx_W_cdB (t := t) ws wu (kx_S t L 6 b).2.1 v2
        generalize kx_cdB t L (kx_S t L 6) (kx_U t L 6) (kx_S t L 6 b).2.1 = R at *
        have f6' : ∀ c, c ≠ 0 → c ≠ 2 → c ≠ 3 → c ≠ 4 → z6 c = kx_a z2 (kw_nx t L (kx_S t L 6 b).2.1) c := f6.1
        rw [List.append_assoc] at m6
        obtain ⟨z7, r7, l7, h7⟩ := kx_gateM (d := d' + 5) (zl := zl) (R := (R.1, R.2.1, (kx_S t L 6 b).2.2 ++ R.2.2)) (cs := cs) (rs := rs) (n := n) (z := z6) (by omega) w6 c6 ⟨k2, by dsimp only; rw [List.length_append]; omega, hL⟩ m6 (kx_cr_fr q3 (f6' 5 (by omega) (by omega) (by omega) (by omega)) (f6' 6 (by omega) (by omega) (by omega) (by omega)) (f6' 7 (by omega) (by omega) (by omega) (by omega)) (f6' 8 (by omega) (by omega) (by omega) (by omega))) (by rw [f6' 6 (by omega) (by omega) (by omega) (by omega)]; exact g3) hk
        refine ⟨z7, ?_, kx_frL_tr l3 (kx_frL_tr (kx_frL_M f6) l7), h7⟩
        rw [← r7]
        simp only [kv_e174_105, kv_e174_106, kv_e174_109, kv_e174_111, kv_e174_114, kv_e174_115, kv_e174_118, kv_e174_120, kv_e174_123, kv_e174_124, kv_e174_127, kv_e174_128, kv_e174_129, kv_e174_130, kv_e174_133, kv_e174_134, kv_e174_137, kv_e174_140, kv_e174_141, kv_e174_144, kv_e174_145, kv_e174_148, kv_e174_149, kv_e174_152, kv_e174_153, kv_e174_156, kv_e174_159, kv_e174_162, kv_e174_163, kv_e174_166, kv_e174_167, kv_e174_168, kv_e174_169, kv_e174_172, kv_e174_173, kv_e174_176, kv_e174_177, kv_e174_180, kv_e174_181, kv_o10, not_false_eq_true, not_true, if_true, if_false, kv_then_s, kv_then_v, kv_then_n, List.cons_append, List.nil_append, kv_Ci, kv_Cr, kv_Cn, kv_Cu, kv_C0, kv_catc, kv_gCi, kv_gCl, kv_gCr, kv_nb0, kv_nb1, kv_nbi, kv_nb01, Nat.reduceAdd, Nat.reduceLeDiff, lk, lk2, b1, b2, r2, w2, lk3, kx_isSign, cp, eq_self, t4, t5, t6, show ((1 : Int32) = 0) = False from by decide]
    · rw [kx_body_f q qo]
      have wb : ¬ z2 0 4 = -1 := by rw [w2, if_neg qo, kw_of_m1 (by omega)]; exact fun s => s
      obtain ⟨z3, r3, l4, h3⟩ := kx_lone (d := d' + 5 + 1) (zl := zl) (R := kx_S t L 6 b) (t := t) (L := L) w2 (fun s => absurd s qo) m2 q2 g2 hk
      refine ⟨z3, ?_, kx_frL_tr l2 l4, ?_, fun s => absurd s (by simp)⟩
      · rw [← r3]
        simp only [kv_e174_105, kv_e174_106, kv_e174_109, kv_e174_111, kv_e174_114, kv_e174_115, kv_e174_118, kv_e174_120, kv_e174_123, kv_e174_124, kv_e174_127, kv_e174_128, kv_e174_129, kv_e174_130, kv_e174_133, kv_e174_134, kv_e174_137, kv_e174_140, kv_e174_141, kv_e174_144, kv_e174_145, kv_e174_148, kv_e174_149, kv_e174_152, kv_e174_153, kv_e174_156, kv_e174_159, kv_e174_162, kv_e174_163, kv_e174_166, kv_e174_167, kv_e174_168, kv_e174_169, kv_o10, not_false_eq_true, not_true, if_true, if_false, kv_then_s, kv_then_v, kv_then_n, List.cons_append, List.nil_append, kv_Ci, kv_Cr, kv_Cn, kv_Cu, kv_C0, kv_catc, kv_gCi, kv_gCl, kv_gCr, kv_nb0, kv_nb1, kv_nbi, kv_nb01, Nat.reduceAdd, Nat.reduceLeDiff, lk, lk2, b1, b2, r2, wb, eq_self]
      · rw [h3.1]
        exact if_neg qo
/-- a clause -/
theorem kx_clauseM {rs : List (Nat × Nat × Nat)} {cs : List (Nat × Nat)} (hd : 95 ≤ d) (ha : a ≤ L) (hw : z 0 4 = -1) (h5 : z 0 5 = 0) (hc : kx_ctM t L a z) (hm : kx_mc n cs z) (hl : cs.length ≤ a) (hr : kx_cr n rs z) (hk : rs.length < 140) : ∃ z', kv_Rn (d + 1) 174 0 [some (.ref 0), none, none] [] (kv_m z zl) = some (none, kv_m z' zl) ∧ kx_frL n z z' ∧ kx_CM t L n cs rs (kx_cls t L (kx_S t L 6) (kx_U t L 6) a) z' := by
  have hL := hc.1.2
  have hn := hm.1.2
  have hn2 : n < 2147483648 := by omega
  have r5 : ∀ (w : Nat → Nat → Int32) j, kv_rd w 5 j = w 5 j := fun w j => kv_rd_lt (by omega)
  have n1 := kw_nx_le t L a
  have n2 := kw_nx_L (t := t) ha
  obtain ⟨d', rfl⟩ : ∃ d', d = d' + 1 := ⟨d - 1, by omega⟩
  have lk := kx_look (d := d') (zl := zl) (show a ≤ 100000 by omega) hc
  have s1 : kv_Rn (d' + 1 + 1) 174 0 [some (.ref 0), none, none] [] (kv_m z zl) = kv_Rn (d' + 1 + 1) 174 19 [some (.ref 0), some (.int (Int32.ofNat (140 * n + rs.length))), none] [] (kv_m z zl) := by
    simp only [kv_e174_0, kv_e174_3, kv_e174_4, kv_e174_7, kv_e174_8, kv_e174_9, kv_e174_12, kv_e174_13, kv_e174_16, kv_e174_17, kv_e174_18, kv_o10, not_false_eq_true, not_true, if_true, if_false, kv_then_s, kv_then_v, kv_then_n, List.cons_append, List.nil_append, kv_Ci, kv_Cr, kv_Cn, kv_Cu, kv_C0, kv_catc, kv_gCi, kv_gCl, kv_gCr, kv_nb0, kv_nb1, kv_nbi, kv_nb01, Nat.reduceAdd, Nat.reduceLeDiff, hm.1.1, hr.1, kw_n0 hn2, kv_tn hn2, kv_lN (show n < 7 by omega), kv_ar_lt (show 5 < 300 by omega), kv_am5, or_self, r5, kx_140]
  rw [s1]
  unfold kx_cls
  have fa : ∀ b, kx_frL n z (kx_a z b) := fun b => kx_frL_M kx_frM_a
  have wa : ∀ b, kx_a z b 0 4 = -1 := fun b => (kx_a_ne _ _ (by omega)).trans hw
  have a3 : ∀ b, kx_a z b 0 3 = Int32.ofNat b := fun b => kx_a_at z b
  by_cases q : kx_sg t L (kw_nx t L a) = 121
  · have hlt := kx_sg_ne (t := t) (L := L) (a := kw_nx t L a) (fun s => absurd (q.symm.trans s) (by decide))
    have c1 := kx_ctM_a (b := kw_nx t L a + 1) hc
    have lk2 := kx_look (d := d') (zl := zl) (show kw_nx t L a + 1 ≤ 100000 by omega) c1
    rw [kx_a_a] at lk2
    have m1 := kw_nx_le t L (kw_nx t L a + 1)
    have m2 := kw_nx_L (t := t) (show kw_nx t L a + 1 ≤ L by omega)
    rw [if_pos q]
    by_cases q2 : kx_sg t L (kw_nx t L (kw_nx t L a + 1)) = 58
    · have hlt2 := kx_sg_ne (t := t) (L := L) (a := kw_nx t L (kw_nx t L a + 1)) (fun s => absurd (q2.symm.trans s) (by decide))
      rw [if_pos q2]
      obtain ⟨z2, r2, l2, h2⟩ := kx_bodyM (d := d' + 1) (zl := zl) (n := n) (z := kx_a z (kw_nx t L (kw_nx t L a + 1) + 1)) (a := kw_nx t L (kw_nx t L a + 1) + 1) hd (by omega) (wa _) ((kx_a_ne _ _ (by omega)).trans h5) (kx_ctM_a hc) (kx_mc_a hm) (by omega) (kx_cr_fr hr (kx_a_fr _ _ (by omega)) (kx_a_fr _ _ (by omega)) (kx_a_fr _ _ (by omega)) (kx_a_fr _ _ (by omega))) hk none
      refine ⟨z2, ?_, kx_frL_tr (fa _) l2, h2⟩
      rw [← r2]
      simp only [kv_e174_19, kv_e174_20, kv_e174_23, kv_e174_24, kv_e174_27, kv_e174_28, kv_e174_31, kv_e174_33, kv_e174_36, kv_e174_37, kv_e174_40, kv_e174_41, kv_e174_42, kv_e174_45, kv_e174_46, kv_e174_47, kv_e174_50, kv_e174_51, kv_e174_54, kv_e174_55, kv_e174_58, kv_e174_59, kv_e174_62, kv_e174_64, kv_e174_67, kv_e174_68, kv_e174_71, kv_e174_72, kv_e174_73, kv_e174_76, kv_e174_77, kv_e174_78, kv_e174_81, kv_e174_82, kv_e174_85, kv_e174_86, kv_o10, not_false_eq_true, not_true, if_true, if_false, kv_then_s, kv_then_v, kv_then_n, List.cons_append, List.nil_append, kv_Ci, kv_Cr, kv_Cn, kv_Cu, kv_C0, kv_catc, kv_gCi, kv_gCl, kv_gCr, kv_nb0, kv_nb1, kv_nbi, kv_nb01, Nat.reduceAdd, Nat.reduceLeDiff, hw, lk, q, a3, kv_suc, kx_fd, kx_fa, wa, lk2, q2]
    · rw [if_neg q2]
      refine ⟨kx_f (kx_f (kx_a z (kw_nx t L (kw_nx t L a + 1))) 4 (Int32.ofNat (kw_nx t L (kw_nx t L a + 1)))) 3 (Int32.ofNat (kw_nx t L (kw_nx t L a + 1) + 1)), ?_, kx_frL_tr (fa _) (kx_frL_M (kx_frM_tr (kx_frM_f (Or.inr (Or.inl rfl))) (kx_frM_f (Or.inl rfl)))), ?_, fun s => absurd s (by simp)⟩
      · have e4 : kx_f (kx_a z (kw_nx t L (kw_nx t L a + 1))) 4 (Int32.ofNat (kw_nx t L (kw_nx t L a + 1))) 0 3 = Int32.ofNat (kw_nx t L (kw_nx t L a + 1)) := (kx_f_ne _ _ (by omega)).trans (a3 _)
        have e5 : kx_f (kx_f (kx_a z (kw_nx t L (kw_nx t L a + 1))) 4 (Int32.ofNat (kw_nx t L (kw_nx t L a + 1)))) 3 (Int32.ofNat (kw_nx t L (kw_nx t L a + 1) + 1)) 0 4 = Int32.ofNat (kw_nx t L (kw_nx t L a + 1)) := (kx_f_ne _ _ (by omega)).trans (kx_f_at _ _ _)
        simp only [kv_e174_19, kv_e174_20, kv_e174_23, kv_e174_24, kv_e174_27, kv_e174_28, kv_e174_31, kv_e174_33, kv_e174_36, kv_e174_37, kv_e174_40, kv_e174_41, kv_e174_42, kv_e174_45, kv_e174_46, kv_e174_47, kv_e174_50, kv_e174_51, kv_e174_54, kv_e174_55, kv_e174_58, kv_e174_59, kv_e174_62, kv_e174_64, kv_e174_67, kv_e174_68, kv_e174_71, kv_e174_72, kv_e174_73, kv_e174_76, kv_e174_77, kv_e174_78, kv_e174_81, kv_e174_82, kv_e174_85, kv_e174_86, kv_e174_89, kv_o10, not_false_eq_true, not_true, if_true, if_false, kv_then_s, kv_then_v, kv_then_n, List.cons_append, List.nil_append, kv_Ci, kv_Cr, kv_Cn, kv_Cu, kv_C0, kv_catc, kv_gCi, kv_gCl, kv_gCr, kv_nb0, kv_nb1, kv_nbi, kv_nb01, Nat.reduceAdd, Nat.reduceLeDiff, hw, lk, q, a3, kv_suc, kx_fd, kx_fa, wa, lk2, q2, kx_bad (wa _), e4, e5, kw_of_m1 (show kw_nx t L (kw_nx t L a + 1) < 2147483648 by omega)]
      · rw [kx_f_ne _ _ (by omega), kx_f_at]
        rfl
  · rw [if_neg q]
    obtain ⟨z1, e1⟩ : ∃ z1, z1 = kx_f (kx_f (kx_a z (kw_nx t L a)) 4 (Int32.ofNat (kw_nx t L a))) 3 (Int32.ofNat (kw_nx t L a + 1)) := ⟨_, rfl⟩
    have g4 : z1 0 4 = Int32.ofNat (kw_nx t L a) := by rw [e1, kx_f_ne _ _ (by omega), kx_f_at]
    have g4' : ¬ z1 0 4 = -1 := by rw [g4, kw_of_m1 (by omega)]; exact fun s => s
    have g3 : z1 0 3 = Int32.ofNat (kw_nx t L a + 1) := by rw [e1, kx_f_at]
    have e4 : kx_f (kx_a z (kw_nx t L a)) 4 (Int32.ofNat (kw_nx t L a)) 0 3 = Int32.ofNat (kw_nx t L a) := (kx_f_ne _ _ (by omega)).trans (a3 _)
    have e5 : kx_f z1 3 (Int32.ofNat (kw_nx t L a + 1 + 1)) 0 4 = Int32.ofNat (kw_nx t L a) := (kx_f_ne _ _ (by omega)).trans g4
    refine ⟨kx_f z1 3 (Int32.ofNat (kw_nx t L a + 1 + 1)), ?_, ?_, e5, fun s => absurd s (by simp)⟩
    · simp only [kv_e174_19, kv_e174_20, kv_e174_23, kv_e174_24, kv_e174_27, kv_e174_28, kv_e174_31, kv_e174_33, kv_e174_36, kv_e174_37, kv_e174_40, kv_e174_41, kv_e174_42, kv_e174_45, kv_e174_46, kv_e174_47, kv_o10, not_false_eq_true, not_true, if_true, if_false, kv_then_s, kv_then_v, kv_then_n, List.cons_append, List.nil_append, kv_Ci, kv_Cr, kv_Cn, kv_Cu, kv_C0, kv_catc, kv_gCi, kv_gCl, kv_gCr, kv_nb0, kv_nb1, kv_nbi, kv_nb01, Nat.reduceAdd, Nat.reduceLeDiff, hw, lk, q, kv_suc, kx_fd, kx_bad (wa _), a3, e4, ← e1]
      simp only [kv_e174_50, kv_e174_51, kv_e174_54, kv_e174_55, kv_e174_58, kv_e174_59, kv_e174_62, kv_e174_64, kv_e174_67, kv_e174_68, kv_e174_71, kv_e174_72, kv_e174_73, kv_e174_76, kv_e174_77, kv_e174_78, kv_e174_81, kv_e174_82, kv_e174_85, kv_e174_86, kv_e174_89, kv_o10, not_false_eq_true, not_true, if_true, if_false, kv_then_s, kv_then_v, kv_then_n, List.cons_append, List.nil_append, kv_Ci, kv_Cr, kv_Cn, kv_Cu, kv_C0, kv_catc, kv_gCi, kv_gCl, kv_gCr, kv_nb0, kv_nb1, kv_nbi, kv_nb01, Nat.reduceAdd, Nat.reduceLeDiff, g4', kx_bad0 g4', g3, kv_suc, kx_fd, e5, kw_of_m1 (show kw_nx t L a < 2147483648 by omega)]
    · rw [e1]
      exact kx_frL_tr (fa _) (kx_frL_M (kx_frM_tr (kx_frM_f (Or.inr (Or.inl rfl))) (kx_frM_tr (kx_frM_f (Or.inl rfl)) (kx_frM_f (Or.inl rfl)))))
end
