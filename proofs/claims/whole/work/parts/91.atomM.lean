/-! laws as texts: the model's atoms -/
section
variable {d n L a : Nat} {t : Nat → Int32} {z z' : Nat → Nat → Int32} {zl : Nat → Nat → Int64}
def kx_mc (n : Nat) (cs : List (Nat × Nat)) (z : Nat → Nat → Int32) : Prop := (z 0 14 = Int32.ofNat n ∧ n ≤ 6) ∧ z 4 n = Int32.ofNat cs.length ∧ ∀ i, i < cs.length → z 2 (520 * n + i) = Int32.ofNat (cs.getD i (0, 0)).1 ∧ z 3 (520 * n + i) = Int32.ofNat (cs.getD i (0, 0)).2
def kx_frM (n : Nat) (z z' : Nat → Nat → Int32) : Prop := (∀ c, c ≠ 0 → c ≠ 2 → c ≠ 3 → c ≠ 4 → z' c = z c) ∧ (∀ j, j ≠ 3 → j ≠ 4 → j ≠ 5 → z' 0 j = z 0 j) ∧ ∀ j, (j < 520 * n ∨ 520 * n + 520 ≤ j) → z' 2 j = z 2 j ∧ z' 3 j = z 3 j
theorem kx_frM_rf (n : Nat) (z : Nat → Nat → Int32) : kx_frM n z z := ⟨fun _ _ _ _ _ => rfl, fun _ _ _ _ => rfl, fun _ _ => ⟨rfl, rfl⟩⟩
theorem kx_frM_tr {z1 z2 : Nat → Nat → Int32} (h : kx_frM n z z1) (g : kx_frM n z1 z2) : kx_frM n z z2 := ⟨fun c a1 a2 a3 a4 => (g.1 c a1 a2 a3 a4).trans (h.1 c a1 a2 a3 a4), fun j a1 a2 a3 => (g.2.1 j a1 a2 a3).trans (h.2.1 j a1 a2 a3), fun j hj => ⟨(g.2.2 j hj).1.trans (h.2.2 j hj).1, (g.2.2 j hj).2.trans (h.2.2 j hj).2⟩⟩
theorem kx_frM_f {j : Nat} {x : Int32} (hj : j = 3 ∨ j = 4 ∨ j = 5) : kx_frM n z (kx_f z j x) := ⟨fun c a1 _ _ _ => kx_f_fr z j x a1, fun i a1 a2 a3 => kx_f_ne z x (by omega), fun i _ => ⟨by rw [kx_f_fr z j x (by omega)], by rw [kx_f_fr z j x (by omega)]⟩⟩
theorem kx_frM_a {b : Nat} : kx_frM n z (kx_a z b) := kx_frM_f (Or.inl rfl)
theorem kx_mc_f {cs : List (Nat × Nat)} {j : Nat} {x : Int32} (h : kx_mc n cs z) (hj : j ≠ 14) : kx_mc n cs (kx_f z j x) := ⟨⟨(kx_f_ne z x (by omega)).trans h.1.1, h.1.2⟩, by rw [kx_f_fr z j x (by omega)]; exact h.2.1, by rw [kx_f_fr z j x (by omega), kx_f_fr z j x (by omega)]; exact h.2.2⟩
theorem kx_mc_a {cs : List (Nat × Nat)} {b : Nat} (h : kx_mc n cs z) : kx_mc n cs (kx_a z b) := kx_mc_f h (by omega)
theorem kx_fd (z : Nat → Nat → Int32) (j : Nat) (x : Int32) : kv_z z 0 (upd (z 0) j x) = kx_f z j x := rfl
theorem kx_fa (z : Nat → Nat → Int32) (b c : Nat) : kx_f (kx_a z b) 3 (Int32.ofNat c) = kx_a z c := kx_f_f z 3 _ _
theorem kx_520 (n i : Nat) : (520 : Int32) * Int32.ofNat n + Int32.ofNat i = Int32.ofNat (520 * n + i) := by rw [show (520 : Int32) = Int32.ofNat 520 from rfl, kw_mulN, kw_addN]
theorem kx_put {cs : List (Nat × Nat)} (c v : Nat) {x y : Int32} (hx : x = Int32.ofNat c) (hy : y = Int32.ofNat v) (h : kx_mc n cs z) (hl : cs.length < 520) : ∃ z', kv_Rn d 160 0 [some (.ref 0), some (.int x), some (.int y)] [] (kv_m z zl) = some (none, kv_m z' zl) ∧ (∀ c, c ≠ 2 → c ≠ 3 → c ≠ 4 → z' c = z c) ∧ kx_frM n z z' ∧ kx_mc n (cs ++ [(c, v)]) z' := by
  subst hx
  subst hy
  obtain ⟨⟨h1, h2⟩, h3, h4⟩ := h
  have hn : n < 2147483648 := by omega
  have hi : 520 * n + cs.length < 2147483648 := by omega
  have hb : 520 * n + cs.length < 3640 := by omega
  have r4 : ∀ (w : Nat → Nat → Int32) j, kv_rd w 4 j = w 4 j := fun w j => kv_rd_lt (by omega)
  have f4 : ∀ (w : Nat → Nat → Int32) (f g : Nat → Int32), kv_z (kv_z w 2 f) 3 g 4 = w 4 := fun w f g => (kv_zne _ _ (by omega)).trans (kv_zne _ _ (by omega))
  have f0 : ∀ (w : Nat → Nat → Int32) (f g : Nat → Int32), kv_z (kv_z w 2 f) 3 g 0 = w 0 := fun w f g => (kv_zne _ _ (by omega)).trans (kv_zne _ _ (by omega))
  have f02 : ∀ (w : Nat → Nat → Int32) (f : Nat → Int32), kv_z w 2 f 0 = w 0 := fun w f => kv_zne _ _ (by omega)
  have f42 : ∀ (w : Nat → Nat → Int32) (f : Nat → Int32), kv_z w 2 f 4 = w 4 := fun w f => kv_zne _ _ (by omega)
  have f32 : ∀ (w : Nat → Nat → Int32) (f : Nat → Int32), kv_z w 2 f 3 = w 3 := fun w f => kv_zne _ _ (by omega)
  refine ⟨kv_z (kv_z (kv_z z 2 (upd (z 2) (520 * n + cs.length) (Int32.ofNat c))) 3 (upd (z 3) (520 * n + cs.length) (Int32.ofNat v))) 4 (upd (z 4) n (Int32.ofNat (cs.length + 1))), ?_, fun c a1 a2 a3 => (kv_zne _ _ a3).trans ((kv_zne _ _ a2).trans (kv_zne _ _ a1)), ⟨fun c a1 a2 a3 a4 => (kv_zne _ _ a4).trans ((kv_zne _ _ a3).trans (kv_zne _ _ a2)), fun j _ _ _ => by rw [kv_zne _ _ (by omega), f0], fun j hj => ⟨?_, ?_⟩⟩, ⟨⟨by rw [kv_zne _ _ (by omega), f0]; exact h1, h2⟩, ?_, fun i hi2 => ?_⟩⟩
  · simp only [kv_e160_0, kv_e160_1, kv_e160_4, kv_e160_7, kv_e160_8, kv_e160_11, kv_e160_12, kv_e160_13, kv_e160_16, kv_e160_17, kv_e160_20, kv_e160_21, kv_e160_22, kv_e160_23, kv_e160_24, kv_e160_25, kv_e160_28, kv_e160_31, kv_e160_32, kv_e160_35, kv_e160_36, kv_e160_37, kv_e160_40, kv_e160_41, kv_e160_44, kv_e160_45, kv_e160_46, kv_e160_47, kv_e160_48, kv_e160_49, kv_e160_52, kv_e160_53, kv_e160_56, kv_e160_57, kv_e160_58, kv_e160_59, kv_e160_60, kv_e160_61, kv_o10, not_false_eq_true, not_true, if_true, if_false, kv_then_s, kv_then_v, kv_then_n, List.cons_append, List.nil_append, kv_Ci, kv_Cr, kv_Cn, kv_Cu, kv_C0, kv_catc, kv_gCi, kv_gCl, kv_gCr, kv_nb0, kv_nb1, kv_nbi, kv_nb01, Nat.reduceAdd, Nat.reduceLeDiff, h1, kw_n0 hn, kv_tn hn, kv_lN (show n < 7 by omega), kv_ar_lt (show 4 < 300 by omega), kv_am4, kv_am2, kv_am3, or_self, r4, h3, kx_520, kw_n0 hi, kv_tn hi, kv_lN hb, f02, f42, f32, f0, f4, kv_suc]
  · rw [kv_zne _ _ (by omega), kv_zne _ _ (by omega), kv_zs]
    exact if_neg (by omega)
  · rw [kv_zne _ _ (by omega), kv_zs]
    exact if_neg (by omega)
  · rw [kv_zs, List.length_append]
    exact if_pos rfl
  · rw [kv_zne _ _ (by omega), kv_zne _ _ (by omega), kv_zs, kv_zne _ _ (by omega), kv_zs]
    rw [List.length_append, List.length_cons, List.length_nil] at hi2
    unfold upd
    by_cases q : i = cs.length
    · rw [if_pos (by omega), if_pos (by omega), q, List.getD_eq_getElem?_getD, List.getElem?_append_right (Nat.le_refl _), Nat.sub_self]
      exact ⟨rfl, rfl⟩
    · rw [if_neg (by omega), if_neg (by omega), List.getD_eq_getElem?_getD, List.getElem?_append_left (by omega), ← List.getD_eq_getElem?_getD]
      exact h4 i (by omega)
/-- opening: too deep, or one deeper -/
theorem kx_opens (hw : z 0 4 = -1) (ha : z 0 3 = Int32.ofNat a) {dp : Nat} (hd : z 0 5 = Int32.ofNat dp) (h6 : dp ≤ 6) : ∃ z', kv_Rn (d + 1) 162 0 [some (.ref 0)] [] (kv_m z zl) = some (none, kv_m z' zl) ∧ z' = (if dp = 6 then kx_f (kx_f (kx_f z 4 (Int32.ofNat a)) 5 (Int32.ofNat 7)) 3 (Int32.ofNat (a + 1)) else kx_f (kx_f z 5 (Int32.ofNat (dp + 1))) 3 (Int32.ofNat (a + 1))) := by
  refine ⟨_, ?_, rfl⟩
  have q6 : (Int32.ofNat dp = 6) = (dp = 6) := kv_neq (b := 6) (by omega) (by omega)
  have e3 : ∀ (w : Nat → Nat → Int32) (x : Int32), kx_f w 5 x 0 3 = w 0 3 := fun w x => kx_f_ne w x (by omega)
  have e4 : ∀ (w : Nat → Nat → Int32) (x : Int32), kx_f w 4 x 0 3 = w 0 3 := fun w x => kx_f_ne w x (by omega)
  have e5 : ∀ (w : Nat → Nat → Int32) (x : Int32), kx_f w 4 x 0 5 = w 0 5 := fun w x => kx_f_ne w x (by omega)
  by_cases q : dp = 6
  · rw [if_pos q]
    simp only [kv_e162_0, kv_e162_1, kv_e162_4, kv_e162_6, kv_e162_9, kv_e162_10, kv_e162_13, kv_e162_14, kv_e162_15, kv_e162_18, kv_e162_19, kv_e162_20, kv_e162_23, kv_e162_24, kv_e162_25, kv_e162_28, kv_e162_29, kv_e162_30, kv_e162_33, kv_o10, not_false_eq_true, not_true, if_true, if_false, kv_then_s, kv_then_v, kv_then_n, List.cons_append, List.nil_append, kv_Ci, kv_Cr, kv_Cn, kv_Cu, kv_C0, kv_catc, kv_gCi, kv_gCl, kv_gCr, kv_nb0, kv_nb1, kv_nbi, kv_nb01, Nat.reduceAdd, Nat.reduceLeDiff, hd, q6, q, show (Int32.ofNat 6 = 6) = True from eq_true rfl, kx_bad hw, ha, e5, kx_fd, e3, e4, kv_suc]
  · rw [if_neg q]
    simp only [kv_e162_0, kv_e162_1, kv_e162_4, kv_e162_6, kv_e162_9, kv_e162_10, kv_e162_13, kv_e162_14, kv_e162_15, kv_e162_18, kv_e162_19, kv_e162_20, kv_e162_23, kv_e162_24, kv_e162_25, kv_e162_28, kv_e162_29, kv_e162_30, kv_e162_33, kv_o10, not_false_eq_true, not_true, if_true, if_false, kv_then_s, kv_then_v, kv_then_n, List.cons_append, List.nil_append, kv_Ci, kv_Cr, kv_Cn, kv_Cu, kv_C0, kv_catc, kv_gCi, kv_gCl, kv_gCr, kv_nb0, kv_nb1, kv_nbi, kv_nb01, Nat.reduceAdd, Nat.reduceLeDiff, hd, q6, q, kx_fd, e3, ha, kv_suc]
theorem kx_closes_f (c : Int32) (hw : ¬ z 0 4 = -1) : ∃ z', kv_Rn (d + 2) 163 0 [some (.ref 0), some (.int c)] [] (kv_m z zl) = some (none, kv_m z' zl) ∧ kx_frM n z z' ∧ (∀ j, j ≠ 3 → j ≠ 5 → z' 0 j = z 0 j) ∧ ∀ c, c ≠ 0 → z' c = z c := by
  refine ⟨kx_f (kx_f z 3 (z 0 3 + 1)) 5 (z 0 5 - 1), ?_, kx_frM_tr (kx_frM_f (Or.inl rfl)) (kx_frM_f (Or.inr (Or.inr rfl))), fun j h1 h2 => (kx_f_ne _ _ h2).trans (kx_f_ne _ _ h1), fun c h => (kx_f_fr _ _ _ h).trans (kx_f_fr _ _ _ h)⟩
  have e5 : kx_f z 3 (z 0 3 + 1) 0 5 = z 0 5 := kx_f_ne _ _ (by omega)
  simp only [kv_e163_0, kv_e163_1, kv_e163_4, kv_e163_5, kv_e163_20, kv_e163_21, kv_e163_22, kv_e163_25, kv_e163_26, kv_e163_27, kv_e163_30, kv_e163_31, kv_e163_32, kv_e163_35, kv_e163_36, kv_e163_37, kv_e163_40, kv_o10, not_false_eq_true, not_true, if_true, if_false, kv_then_s, kv_then_v, kv_then_n, List.cons_append, List.nil_append, kv_Ci, kv_Cr, kv_Cn, kv_Cu, kv_C0, kv_catc, kv_gCi, kv_gCl, kv_gCr, kv_nb0, kv_nb1, kv_nbi, kv_nb01, Nat.reduceAdd, Nat.reduceLeDiff, hw, kx_fd, e5]
theorem kx_closes (c : Int32) (hw : z 0 4 = -1) (ha : a ≤ 100000) (h : kx_ctM t L a z) {dp : Nat} (hd : z 0 5 = Int32.ofNat (dp + 1)) : ∃ z', kv_Rn (d + 2) 163 0 [some (.ref 0), some (.int c)] [] (kv_m z zl) = some (none, kv_m z' zl) ∧ z' = (if kx_sg t L (kw_nx t L a) = c then kx_f (kx_a z (kw_nx t L a + 1)) 5 (Int32.ofNat dp) else kx_f (kx_f (kx_f (kx_a z (kw_nx t L a)) 4 (Int32.ofNat (kw_nx t L a))) 3 (Int32.ofNat (kw_nx t L a + 1))) 5 (Int32.ofNat dp)) := by
  refine ⟨_, ?_, rfl⟩
  have lk := kx_look (d := d) (zl := zl) ha h
  have a3 : ∀ b, kx_a z b 0 3 = Int32.ofNat b := fun b => kx_a_at z b
  have a4 : ∀ b, kx_a z b 0 4 = -1 := fun b => (kx_a_ne z b (by omega)).trans hw
  have a5 : ∀ b, kx_a z b 0 5 = Int32.ofNat (dp + 1) := fun b => (kx_a_ne z b (by omega)).trans hd
  have e35 : ∀ (w : Nat → Nat → Int32) (x : Int32), kx_f w 3 x 0 5 = w 0 5 := fun w x => kx_f_ne w x (by omega)
  have e45 : ∀ (w : Nat → Nat → Int32) (x : Int32), kx_f w 4 x 0 5 = w 0 5 := fun w x => kx_f_ne w x (by omega)
  have e43 : ∀ (w : Nat → Nat → Int32) (x : Int32), kx_f w 4 x 0 3 = w 0 3 := fun w x => kx_f_ne w x (by omega)
  by_cases q : kx_sg t L (kw_nx t L a) = c
  · rw [if_pos q]
    simp only [kv_e163_0, kv_e163_1, kv_e163_4, kv_e163_5, kv_e163_8, kv_e163_9, kv_e163_12, kv_e163_13, kv_e163_20, kv_e163_21, kv_e163_22, kv_e163_25, kv_e163_26, kv_e163_27, kv_e163_30, kv_e163_31, kv_e163_32, kv_e163_35, kv_e163_36, kv_e163_37, kv_e163_40, kv_o10, not_false_eq_true, not_true, if_true, if_false, kv_then_s, kv_then_v, kv_then_n, List.cons_append, List.nil_append, kv_Ci, kv_Cr, kv_Cn, kv_Cu, kv_C0, kv_catc, kv_gCi, kv_gCl, kv_gCr, kv_nb0, kv_nb1, kv_nbi, kv_nb01, Nat.reduceAdd, Nat.reduceLeDiff, hw, lk, q, kx_fd, a3, kv_suc, kx_fa, a5, kv_pre]
  · rw [if_neg q]
    simp only [kv_e163_0, kv_e163_1, kv_e163_4, kv_e163_5, kv_e163_8, kv_e163_9, kv_e163_12, kv_e163_13, kv_e163_16, kv_e163_17, kv_e163_20, kv_e163_21, kv_e163_22, kv_e163_25, kv_e163_26, kv_e163_27, kv_e163_30, kv_e163_31, kv_e163_32, kv_e163_35, kv_e163_36, kv_e163_37, kv_e163_40, kv_o10, not_false_eq_true, not_true, if_true, if_false, kv_then_s, kv_then_v, kv_then_n, List.cons_append, List.nil_append, kv_Ci, kv_Cr, kv_Cn, kv_Cu, kv_C0, kv_catc, kv_gCi, kv_gCl, kv_gCr, kv_nb0, kv_nb1, kv_nbi, kv_nb01, Nat.reduceAdd, Nat.reduceLeDiff, hw, lk, q, kx_bad (a4 _), a3, e43, kx_fd, kv_suc, e35, e45, a5, kv_pre]
/-- what a reader of the model does -/
def kx_SM (t : Nat → Int32) (L : Nat) (zl : Nat → Nat → Int64) (n dp D j : Nat) (ls : kv_L) (p : Nat → kx_Q) : Prop := ∀ (a : Nat) (cs : List (Nat × Nat)) (z : Nat → Nat → Int32), a ≤ L → kx_ctM t L a z → kx_mc n cs z → cs.length ≤ a → z 0 4 = -1 → z 0 5 = Int32.ofNat dp → ∃ z', kv_Rn D j 0 ls [] (kv_m z zl) = some (none, kv_m z' zl) ∧ kx_frM n z z' ∧ kx_mc n (cs ++ (p a).2.2) z' ∧ z' 0 4 = (if (p a).1 = true then -1 else Int32.ofNat (p a).2.1) ∧ ((p a).1 = true → kx_ctM t L (p a).2.1 z' ∧ z' 0 5 = Int32.ofNat dp)
theorem kx_ctM_fr {z1 : Nat → Nat → Int32} (h : kx_ctM t L a z) (h0 : z1 0 = z 0) (h1 : z1 1 = z 1) : kx_ctM t L a z1 := ⟨⟨by rw [h0]; exact h.1.1, h.1.2⟩, by rw [h0]; exact h.2.1, by rw [h1]; exact h.2.2⟩
theorem kx_atomM {br : Option (Nat → kx_Q)} {dp : Nat} (hd : dp ≤ 6) (hb : (dp = 6 ∧ br = none) ∨ (dp < 6 ∧ ∃ p, br = some p ∧ kx_W L p ∧ kx_SM t L zl n (dp + 1) (d + 4) 167 [some (.ref 0), none] p)) : kx_SM t L zl n dp (d + 5) 165 [some (.ref 0), none] (kx_atom t L br) := by
  intro a cs z ha hc hm hl hw h5
  have hL := hc.1.2
  have n1 := kw_nx_le t L a
  have n2 := kw_nx_L (t := t) ha
  have lk := kx_look (d := d + 3) (zl := zl) (show a ≤ 100000 by omega) hc
  have c1 := kx_ctM_a (b := kw_nx t L a) hc
  have w1 : kx_a z (kw_nx t L a) 0 4 = -1 := (kx_a_ne z _ (by omega)).trans hw
  have d1 : kx_a z (kw_nx t L a) 0 5 = Int32.ofNat dp := (kx_a_ne z _ (by omega)).trans h5
  have m1 : kx_mc n cs (kx_a z (kw_nx t L a)) := kx_mc_a hm
  by_cases q1 : kw_isd (kx_sg t L (kw_nx t L a))
  · have ea : kx_atom t L br a = (!(@decide (kw_isd (kx_sg t L (kw_nm t L 4 (kw_nx t L a) 0).1)) (Classical.propDecidable _)), (kw_nm t L 4 (kw_nx t L a) 0).1, [(0, (kw_nm t L 4 (kw_nx t L a) 0).2)]) := if_pos q1
    rw [ea]
    have hlt := kw_isd_lt q1
    have pn := kx_plain (d := d + 3) (zl := zl) (show kw_nx t L a ≤ 100000 by omega) w1 c1
    rw [kx_a_a] at pn
    by_cases q2 : kw_isd (kx_sg t L (kw_nm t L 4 (kw_nx t L a) 0).1)
    · rw [if_pos q2] at pn
      rw [@decide_eq_true _ (Classical.propDecidable _) q2]
      obtain ⟨z2, r2, f2, g2, m2⟩ := kx_put (d := d + 4) (zl := zl) (n := n) 0 (kw_nm t L 4 (kw_nx t L a) 0).2 rfl rfl (kx_mc_f (j := 4) (x := Int32.ofNat (kw_nm t L 4 (kw_nx t L a) 0).1) (kx_mc_a (b := (kw_nm t L 4 (kw_nx t L a) 0).1) hm) (by omega)) (by omega)
      refine ⟨z2, ?_, kx_frM_tr kx_frM_a (kx_frM_tr (kx_frM_f (Or.inr (Or.inl rfl))) g2), m2, ?_, fun s => absurd s (by simp)⟩
      · simp only [kv_e165_0, kv_e165_1, kv_e165_4, kv_e165_5, kv_e165_6, kv_e165_9, kv_e165_12, kv_e165_13, kv_e165_14, kv_e165_15, kv_e165_18, kv_e165_21, kv_e165_89, kv_o10, not_false_eq_true, not_true, if_true, if_false, kv_then_s, kv_then_v, kv_then_n, List.cons_append, List.nil_append, kv_Ci, kv_Cr, kv_Cn, kv_Cu, kv_C0, kv_catc, kv_gCi, kv_gCl, kv_gCr, kv_nb0, kv_nb1, kv_nbi, kv_nb01, Nat.reduceAdd, Nat.reduceLeDiff, lk, kx_isd1 q1, pn]
        rw [show Int32.ofNat 0 = (0 : Int32) from rfl] at r2
        simp only [r2, kv_o10, not_false_eq_true, not_true, if_true, if_false, kv_then_s, kv_then_v, kv_then_n, List.cons_append, List.nil_append, kv_Ci, kv_Cr, kv_Cn, kv_Cu, kv_C0, kv_catc, kv_gCi, kv_gCl, kv_gCr, kv_nb0, kv_nb1, kv_nbi, kv_nb01, Nat.reduceAdd, Nat.reduceLeDiff, kv_e165_21, kv_e165_89]
      · rw [f2 0 (by omega) (by omega) (by omega), kx_f_at]
        rfl
    · rw [if_neg q2] at pn
      rw [@decide_eq_false _ (Classical.propDecidable _) q2]
      obtain ⟨z2, r2, f2, g2, m2⟩ := kx_put (d := d + 4) (zl := zl) (n := n) 0 (kw_nm t L 4 (kw_nx t L a) 0).2 rfl rfl (kx_mc_a (b := (kw_nm t L 4 (kw_nx t L a) 0).1) hm) (by omega)
      refine ⟨z2, ?_, kx_frM_tr kx_frM_a g2, m2, ?_, fun _ => ⟨kx_ctM_fr (kx_ctM_a hc) (f2 0 (by omega) (by omega) (by omega)) (f2 1 (by omega) (by omega) (by omega)), ?_⟩⟩
      · rw [show Int32.ofNat 0 = (0 : Int32) from rfl] at r2
        simp only [kv_e165_0, kv_e165_1, kv_e165_4, kv_e165_5, kv_e165_6, kv_e165_9, kv_e165_12, kv_e165_13, kv_e165_14, kv_e165_15, kv_e165_18, kv_e165_21, kv_e165_89, kv_o10, not_false_eq_true, not_true, if_true, if_false, kv_then_s, kv_then_v, kv_then_n, List.cons_append, List.nil_append, kv_Ci, kv_Cr, kv_Cn, kv_Cu, kv_C0, kv_catc, kv_gCi, kv_gCl, kv_gCr, kv_nb0, kv_nb1, kv_nbi, kv_nb01, Nat.reduceAdd, Nat.reduceLeDiff, lk, kx_isd1 q1, pn, r2]
      · rw [f2 0 (by omega) (by omega) (by omega)]
        exact (kx_a_ne z _ (by omega)).trans hw
      · rw [f2 0 (by omega) (by omega) (by omega)]
        exact (kx_a_ne z _ (by omega)).trans h5
  · by_cases q2 : kx_li (kx_sg t L (kw_nx t L a)) = -1
    · by_cases q3 : kx_sg t L (kw_nx t L a) = 91
      · have hlt := kx_sg_ne (t := t) (L := L) (a := kw_nx t L a) (fun s => absurd (q3.symm.trans s) (by decide))
        obtain ⟨zo, ro, eo⟩ := kx_opens (d := d + 3) (zl := zl) w1 (kx_a_at z (kw_nx t L a)) d1 hd
        rcases hb with ⟨h6, hb⟩ | ⟨h6, p, hb, hW, hS⟩
        · subst hb
          rw [kx_atom_n q3]
          rw [if_pos h6] at eo
          have zw : zo 0 4 = Int32.ofNat (kw_nx t L a) := by rw [eo, kx_f_ne _ _ (by omega), kx_f_ne _ _ (by omega), kx_f_at]
          refine ⟨zo, ?_, ?_, ?_, zw, fun s => absurd s (by simp)⟩
          · simp only [kv_e165_0, kv_e165_1, kv_e165_4, kv_e165_5, kv_e165_6, kv_e165_9, kv_e165_24, kv_e165_25, kv_e165_28, kv_e165_29, kv_e165_54, kv_e165_55, kv_e165_57, kv_e165_60, kv_e165_61, kv_e165_64, kv_e165_65, kv_e165_68, kv_e165_69, kv_e165_89, kv_o10, not_false_eq_true, not_true, if_true, if_false, kv_then_s, kv_then_v, kv_then_n, List.cons_append, List.nil_append, kv_Ci, kv_Cr, kv_Cn, kv_Cu, kv_C0, kv_catc, kv_gCi, kv_gCl, kv_gCr, kv_nb0, kv_nb1, kv_nbi, kv_nb01, Nat.reduceAdd, Nat.reduceLeDiff, lk, q3, kx_isd0 kx_isd_91, kx_letterOf, kx_li_91, eq_self, ro, zw, kw_of_m1 (show kw_nx t L a < 2147483648 by omega)]
          · rw [eo]
            exact kx_frM_tr kx_frM_a (kx_frM_tr (kx_frM_f (Or.inr (Or.inl rfl))) (kx_frM_tr (kx_frM_f (Or.inr (Or.inr rfl))) (kx_frM_f (Or.inl rfl))))
          · rw [eo, List.append_nil]
            exact kx_mc_f (kx_mc_f (kx_mc_f m1 (by omega)) (by omega)) (by omega)
        · subst hb
          rw [kx_atom_s q3]
          rw [if_neg (by omega)] at eo
          have zw : zo 0 4 = -1 := by rw [eo, kx_f_ne _ _ (by omega), kx_f_ne _ _ (by omega)]; exact w1
          have zd : zo 0 5 = Int32.ofNat (dp + 1) := by rw [eo, kx_f_ne _ _ (by omega), kx_f_at]
          have zc : kx_ctM t L (kw_nx t L a + 1) zo := by rw [eo]; exact kx_ctM_a (kx_ctM_j c1 (by omega))
          have zf : kx_frM n z zo := by rw [eo]; exact kx_frM_tr kx_frM_a (kx_frM_tr (kx_frM_f (Or.inr (Or.inr rfl))) (kx_frM_f (Or.inl rfl)))
          have zm : kx_mc n cs zo := by rw [eo]; exact kx_mc_f (kx_mc_f m1 (by omega)) (by omega)
          obtain ⟨z3, r3, f3, m3, w3, c3⟩ := hS (kw_nx t L a + 1) cs zo (by omega) zc zm (by omega) zw zd
          obtain ⟨⟨v1, v2⟩, v3⟩ := hW (kw_nx t L a + 1) (by omega)
          by_cases qo : (p (kw_nx t L a + 1)).1 = true
          · rw [if_pos qo] at w3
            obtain ⟨c3, d3⟩ := c3 qo
            obtain ⟨z4, r4, e4⟩ := kx_closes (d := d + 2) (zl := zl) 93 w3 (show (p (kw_nx t L a + 1)).2.1 ≤ 100000 by omega) c3 d3
            by_cases qc : kx_sg t L (kw_nx t L (p (kw_nx t L a + 1)).2.1) = 93
            · rw [if_pos qc] at e4
              rw [kx_close_1 qo qc]
              refine ⟨z4, ?_, ?_, ?_, ?_, fun _ => ⟨?_, ?_⟩⟩
              · simp only [kv_e165_0, kv_e165_1, kv_e165_4, kv_e165_5, kv_e165_6, kv_e165_9, kv_e165_24, kv_e165_25, kv_e165_28, kv_e165_29, kv_e165_54, kv_e165_55, kv_e165_57, kv_e165_60, kv_e165_61, kv_e165_64, kv_e165_65, kv_e165_68, kv_e165_69, kv_e165_72, kv_e165_73, kv_e165_76, kv_e165_77, kv_e165_79, kv_e165_82, kv_e165_89, kv_o10, not_false_eq_true, not_true, if_true, if_false, kv_then_s, kv_then_v, kv_then_n, List.cons_append, List.nil_append, kv_Ci, kv_Cr, kv_Cn, kv_Cu, kv_C0, kv_catc, kv_gCi, kv_gCl, kv_gCr, kv_nb0, kv_nb1, kv_nbi, kv_nb01, Nat.reduceAdd, Nat.reduceLeDiff, lk, q3, kx_isd0 kx_isd_91, kx_letterOf, kx_li_91, eq_self, ro, zw, r3, r4]
              · rw [e4]
                exact kx_frM_tr zf (kx_frM_tr f3 (kx_frM_tr kx_frM_a (kx_frM_f (Or.inr (Or.inr rfl)))))
              · rw [e4]
                exact kx_mc_f (kx_mc_a m3) (by omega)
              · rw [e4, kx_f_ne _ _ (by omega), kx_a_ne _ _ (by omega), w3]
                rfl
              · rw [e4]
                exact kx_ctM_j (kx_ctM_a c3) (by omega)
              · rw [e4, kx_f_at]
            · rw [if_neg qc] at e4
              rw [kx_close_2 qo qc]
              refine ⟨z4, ?_, ?_, ?_, ?_, fun s => absurd s (by simp)⟩
              · simp only [kv_e165_0, kv_e165_1, kv_e165_4, kv_e165_5, kv_e165_6, kv_e165_9, kv_e165_24, kv_e165_25, kv_e165_28, kv_e165_29, kv_e165_54, kv_e165_55, kv_e165_57, kv_e165_60, kv_e165_61, kv_e165_64, kv_e165_65, kv_e165_68, kv_e165_69, kv_e165_72, kv_e165_73, kv_e165_76, kv_e165_77, kv_e165_79, kv_e165_82, kv_e165_89, kv_o10, not_false_eq_true, not_true, if_true, if_false, kv_then_s, kv_then_v, kv_then_n, List.cons_append, List.nil_append, kv_Ci, kv_Cr, kv_Cn, kv_Cu, kv_C0, kv_catc, kv_gCi, kv_gCl, kv_gCr, kv_nb0, kv_nb1, kv_nbi, kv_nb01, Nat.reduceAdd, Nat.reduceLeDiff, lk, q3, kx_isd0 kx_isd_91, kx_letterOf, kx_li_91, eq_self, ro, zw, r3, r4]
              · rw [e4]
                exact kx_frM_tr zf (kx_frM_tr f3 (kx_frM_tr kx_frM_a (kx_frM_tr (kx_frM_f (Or.inr (Or.inl rfl))) (kx_frM_tr (kx_frM_f (Or.inl rfl)) (kx_frM_f (Or.inr (Or.inr rfl)))))))
              · rw [e4]
                exact kx_mc_f (kx_mc_f (kx_mc_f (kx_mc_a m3) (by omega)) (by omega)) (by omega)
              · rw [e4, kx_f_ne _ _ (by omega), kx_f_ne _ _ (by omega), kx_f_at]
                rfl
          · rw [if_neg qo] at w3
            have w3' : ¬ z3 0 4 = -1 := by rw [w3, kw_of_m1 (by omega)]; exact fun s => s
            obtain ⟨z4, r4, f4, g4, k4⟩ := kx_closes_f (d := d + 2) (zl := zl) (n := n) 93 w3'
            rw [kx_close_0 qo]
            refine ⟨z4, ?_, kx_frM_tr zf (kx_frM_tr f3 f4), ⟨⟨(g4 14 (by omega) (by omega)).trans m3.1.1, m3.1.2⟩, by rw [k4 4 (by omega)]; exact m3.2.1, by rw [k4 2 (by omega), k4 3 (by omega)]; exact m3.2.2⟩, ?_, fun s => absurd s qo⟩
            · simp only [kv_e165_0, kv_e165_1, kv_e165_4, kv_e165_5, kv_e165_6, kv_e165_9, kv_e165_24, kv_e165_25, kv_e165_28, kv_e165_29, kv_e165_54, kv_e165_55, kv_e165_57, kv_e165_60, kv_e165_61, kv_e165_64, kv_e165_65, kv_e165_68, kv_e165_69, kv_e165_72, kv_e165_73, kv_e165_76, kv_e165_77, kv_e165_79, kv_e165_82, kv_e165_89, kv_o10, not_false_eq_true, not_true, if_true, if_false, kv_then_s, kv_then_v, kv_then_n, List.cons_append, List.nil_append, kv_Ci, kv_Cr, kv_Cn, kv_Cu, kv_C0, kv_catc, kv_gCi, kv_gCl, kv_gCr, kv_nb0, kv_nb1, kv_nbi, kv_nb01, Nat.reduceAdd, Nat.reduceLeDiff, lk, q3, kx_isd0 kx_isd_91, kx_letterOf, kx_li_91, eq_self, ro, zw, r3, r4]
            · rw [g4 4 (by omega) (by omega), w3, if_neg qo]
      · have ea : kx_atom t L br a = (false, kw_nx t L a, []) := (if_neg q1).trans ((if_neg (fun s => s q2)).trans (if_neg q3))
        rw [ea]
        refine ⟨kx_f (kx_a z (kw_nx t L a)) 4 (Int32.ofNat (kw_nx t L a)), ?_, kx_frM_tr kx_frM_a (kx_frM_f (Or.inr (Or.inl rfl))), by rw [List.append_nil]; exact kx_mc_f m1 (by omega), kx_f_at _ _ _, fun s => absurd s (by simp)⟩
        simp only [kv_e165_0, kv_e165_1, kv_e165_4, kv_e165_5, kv_e165_6, kv_e165_9, kv_e165_24, kv_e165_25, kv_e165_28, kv_e165_29, kv_e165_54, kv_e165_55, kv_e165_57, kv_e165_85, kv_e165_86, kv_e165_89, kv_o10, not_false_eq_true, not_true, if_true, if_false, kv_then_s, kv_then_v, kv_then_n, List.cons_append, List.nil_append, kv_Ci, kv_Cr, kv_Cn, kv_Cu, kv_C0, kv_catc, kv_gCi, kv_gCl, kv_gCr, kv_nb0, kv_nb1, kv_nbi, kv_nb01, Nat.reduceAdd, Nat.reduceLeDiff, lk, kx_isd0 q1, kx_letterOf, q2, eq_self, q3, kx_bad w1, kx_a_at]
    · have ea : kx_atom t L br a = (true, kw_nx t L a + 1, [(1, (kx_li (kx_sg t L (kw_nx t L a))).toNatClampNeg)]) := (if_neg q1).trans (if_pos q2)
      rw [ea]
      obtain ⟨k, hk8, hk⟩ := (kx_li_r (kx_sg t L (kw_nx t L a))).resolve_left q2
      have hlt := kx_sg_ne (t := t) (L := L) (a := kw_nx t L a) (fun s => q2 (by rw [s]; exact kx_li_m1))
      obtain ⟨z2, r2, f2, g2, m2⟩ := kx_put (d := d + 4) (zl := zl) (n := n) 1 k rfl rfl (kx_mc_a (b := kw_nx t L a + 1) hm) (by omega)
      rw [show Int32.ofNat 1 = (1 : Int32) from rfl] at r2
      refine ⟨z2, ?_, kx_frM_tr kx_frM_a g2, by rw [hk, kv_tn (by omega)]; exact m2, ?_, fun _ => ⟨kx_ctM_fr (kx_ctM_a hc) (f2 0 (by omega) (by omega) (by omega)) (f2 1 (by omega) (by omega) (by omega)), ?_⟩⟩
      · simp only [kv_e165_0, kv_e165_1, kv_e165_4, kv_e165_5, kv_e165_6, kv_e165_9, kv_e165_24, kv_e165_25, kv_e165_28, kv_e165_29, kv_e165_32, kv_e165_33, kv_e165_34, kv_e165_37, kv_e165_38, kv_e165_39, kv_e165_42, kv_e165_43, kv_e165_44, kv_e165_45, kv_e165_48, kv_e165_51, kv_e165_89, kv_o10, not_false_eq_true, not_true, if_true, if_false, kv_then_s, kv_then_v, kv_then_n, List.cons_append, List.nil_append, kv_Ci, kv_Cr, kv_Cn, kv_Cu, kv_C0, kv_catc, kv_gCi, kv_gCl, kv_gCr, kv_nb0, kv_nb1, kv_nbi, kv_nb01, Nat.reduceAdd, Nat.reduceLeDiff, lk, kx_isd0 q1, kx_letterOf, hk, kw_of_m1 (show k < 2147483648 by omega), kx_a_at, kv_suc, kx_fd, kx_fa, r2]
      · rw [f2 0 (by omega) (by omega) (by omega)]
        exact (kx_a_ne z _ (by omega)).trans hw
      · rw [f2 0 (by omega) (by omega) (by omega)]
        exact (kx_a_ne z _ (by omega)).trans h5
end
