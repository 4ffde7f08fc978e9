/-! fields as texts: the model's whole reader -/
section
variable {d L a : Nat} {t : Nat → Int32} {z : Nat → Nat → Int32} {zl : Nat → Nat → Int64}
theorem kx_it_k1 {g : Nat} (hg : g < 3) : ∀ f a s vs, (kx_it t L g f a s vs).1 = 1 → kw_nx t L (kx_it t L g f a s vs).2.1 = (kx_it t L g f a s vs).2.1 ∧ ¬ kx_sg t L (kx_it t L g f a s vs).2.1 = -1 ∧ ¬ kx_sg t L (kx_it t L g f a s vs).2.1 = 59 := by
  intro f
  induction f with
  | zero => intro a s vs h; exact absurd (show (0 : Nat) = 1 from h) (by decide)
  | succ f ih =>
    intro a s vs hk
    rcases kx_ix_r g hg (kx_sg t L (kw_nx t L a)) with h | ⟨i, hi, h⟩
    · rw [kx_it_1 h] at hk ⊢
      by_cases q : kx_sg t L (kw_nx t L a) = -1 ∨ kx_sg t L (kw_nx t L a) = 59
      · rw [if_pos q] at hk
        exact absurd (show (0 : Nat) = 1 from hk) (by decide)
      · exact ⟨kw_nx_nx _ _ _, fun s => q (Or.inl s), fun s => q (Or.inr s)⟩
    · have hi8 : i < 8 := by have := (kx_ct_8 hg).1; omega
      rw [kx_it_i hi8 h] at hk ⊢
      by_cases q : s.testBit i = true
      · rw [if_pos q]
        refine ⟨kw_nx_nx _ _ _, fun s => ?_, fun s => ?_⟩
        · rw [s, (kx_ix_m1 g hg).1, eq_comm, kw_of_m1 (by omega)] at h
          exact h
        · rw [s, (kx_ix_m1 g hg).2, eq_comm, kw_of_m1 (by omega)] at h
          exact h
      · rw [if_neg q] at hk ⊢
        by_cases q2 : (kx_nw t L (kx_lo g i) (kx_hi g i) (kw_nx t L a + 1)).1 = true
        · rw [if_pos q2] at hk ⊢
          exact ih _ _ _ hk
        · rw [if_neg q2] at hk
          exact absurd (show (2 : Nat) = 1 from hk) (by decide)
theorem kx_fc_k1 {q : kx_fs} (h : (kx_fc t L a q).1 = 1) : kw_nx t L (kx_fc t L a q).2.1 = (kx_fc t L a q).2.1 ∧ ¬ kx_sg t L (kx_fc t L a q).2.1 = -1 ∧ ¬ kx_sg t L (kx_fc t L a q).2.1 = 59 := by
  unfold kx_fc at h ⊢
  by_cases h1 : kx_sg t L (kw_nx t L a) = 102 ∧ q.1 = false
  · rw [if_pos h1] at h ⊢
    exact kx_it_k1 (by omega) _ _ _ _ h
  · rw [if_neg h1] at h ⊢
    by_cases h2 : kx_sg t L (kw_nx t L a) = 107 ∧ q.2.1 < 8
    · rw [if_pos h2] at h ⊢
      exact kx_it_k1 (by omega) _ _ _ _ h
    · rw [if_neg h2] at h ⊢
      by_cases h3 : kx_sg t L (kw_nx t L a) = 97 ∧ q.2.2.1 < 6
      · rw [if_pos h3] at h ⊢
        exact kx_it_k1 (by omega) _ _ _ _ h
      · rw [if_neg h3] at h
        exact absurd (show (2 : Nat) = 1 from h) (by decide)
theorem kx_it_012 {g : Nat} (hg : g < 3) : ∀ f a s vs, (kx_it t L g f a s vs).1 = 0 ∨ (kx_it t L g f a s vs).1 = 1 ∨ (kx_it t L g f a s vs).1 = 2 := by
  intro f
  induction f with
  | zero => intro a s vs; exact Or.inl rfl
  | succ f ih =>
    intro a s vs
    rcases kx_ix_r g hg (kx_sg t L (kw_nx t L a)) with h | ⟨i, hi, h⟩
    · rw [kx_it_1 h]
      by_cases q : kx_sg t L (kw_nx t L a) = -1 ∨ kx_sg t L (kw_nx t L a) = 59
      · exact Or.inl (if_pos q)
      · exact Or.inr (Or.inl (if_neg q))
    · have hi8 : i < 8 := by have := (kx_ct_8 hg).1; omega
      rw [kx_it_i hi8 h]
      by_cases q : s.testBit i = true
      · rw [if_pos q]
        exact Or.inr (Or.inl rfl)
      · rw [if_neg q]
        by_cases q2 : (kx_nw t L (kx_lo g i) (kx_hi g i) (kw_nx t L a + 1)).1 = true
        · rw [if_pos q2]
          exact ih _ _ _
        · rw [if_neg q2]
          exact Or.inr (Or.inr rfl)
theorem kx_fc_012 (q : kx_fs) : (kx_fc t L a q).1 = 0 ∨ (kx_fc t L a q).1 = 1 ∨ (kx_fc t L a q).1 = 2 := by
  unfold kx_fc
  by_cases h1 : kx_sg t L (kw_nx t L a) = 102 ∧ q.1 = false
  · rw [if_pos h1]
    exact kx_it_012 (by omega) _ _ _ _
  · rw [if_neg h1]
    by_cases h2 : kx_sg t L (kw_nx t L a) = 107 ∧ q.2.1 < 8
    · rw [if_pos h2]
      exact kx_it_012 (by omega) _ _ _ _
    · rw [if_neg h2]
      by_cases h3 : kx_sg t L (kw_nx t L a) = 97 ∧ q.2.2.1 < 6
      · rw [if_pos h3]
        exact kx_it_012 (by omega) _ _ _ _
      · rw [if_neg h3]
        exact Or.inr (Or.inr rfl)
theorem kx_fM_a {q : kx_fs} {b : Nat} (h : kx_fM q z) : kx_fM q (kx_a z b) := by
  unfold kx_fM at h ⊢
  rw [kx_a_ne _ _ (by omega), kx_a_ne _ _ (by omega), kx_a_fr _ _ (by omega), kx_a_fr _ _ (by omega), kx_a_fr _ _ (by omega)]
  exact h
/-- behind the last clause -/
theorem kx_endM {P : Prop} {l : Int32} {u : Option Value} (ha : a ≤ L) (hc : kx_ctM t L a z) (hw : z 0 4 = -1) (hP : kx_sg t L (kw_nx t L a) = -1 → kv_Rn (d + 3) 188 0 [some (.ref 0), none, none, none] [] (kv_m (kx_a z (kw_nx t L a)) zl) = some (some (.int (kx_b P)), kv_m (kx_a z (kw_nx t L a)) zl)) : ∃ z', kv_Rn (d + 4) 189 50 [some (.ref 0), some (.int l), some (.int 0), u] [] (kv_m z zl) = some (some (.int (if @decide (kx_sg t L (kw_nx t L a) = -1 ∧ P) (Classical.propDecidable _) = true then -1 else Int32.ofNat (kw_nx t L a))), kv_m z' zl) ∧ kx_frR z z' ∧ (kx_sg t L (kw_nx t L a) = -1 ∧ P → z' = kx_a z (kw_nx t L a)) := by
  have hL := hc.1.2
  have lk := kx_look (d := d + 2) (zl := zl) (show a ≤ 100000 by omega) hc
  have wa : ∀ b, kx_a z b 0 4 = -1 := fun b => (kx_a_ne _ _ (by omega)).trans hw
  by_cases g1 : kx_sg t L (kw_nx t L a) = -1
  · have hP := hP g1
    by_cases g2 : P
    · rw [@decide_eq_true _ (Classical.propDecidable _) (show kx_sg t L (kw_nx t L a) = -1 ∧ P from ⟨g1, g2⟩), if_pos rfl]
      rw [kx_b1 g2] at hP
      refine ⟨kx_a z (kw_nx t L a), ?_, kx_frR_a, fun _ => rfl⟩
      rw [kv_e189_50]
      simp only [kv_e189_51, kv_e189_267, kv_e189_268, kv_e189_271, kv_e189_272, kv_e189_275, kv_e189_276, kv_e189_279, kv_e189_280, kv_e189_283, kv_e189_284, kv_e189_287, kv_e189_290, kv_e189_291, kv_e189_294, kv_e189_295, kv_e189_298, kv_o10, not_false_eq_true, not_true, if_true, if_false, kv_then_s, kv_then_v, kv_then_n, List.cons_append, List.nil_append, kv_Ci, kv_Cr, kv_Cn, kv_Cu, kv_C0, kv_catc, kv_gCi, kv_gCl, kv_gCr, kv_nb0, kv_nb1, kv_nbi, kv_nb01, Nat.reduceAdd, Nat.reduceLeDiff, hw, lk, g1, hP, show ((1 : Int32) = 0) = False from by decide, wa]
    · rw [@decide_eq_false _ (Classical.propDecidable _) (show ¬ (kx_sg t L (kw_nx t L a) = -1 ∧ P) from fun s => g2 s.2), if_neg Bool.false_ne_true]
      rw [kx_b0 g2] at hP
      refine ⟨kx_f (kx_a z (kw_nx t L a)) 4 (Int32.ofNat (kw_nx t L a)), ?_, kx_frR_tr kx_frR_a (kx_frR_f (by omega)), fun s => absurd s.2 g2⟩
      rw [kv_e189_50]
      simp only [kv_e189_51, kv_e189_267, kv_e189_268, kv_e189_271, kv_e189_272, kv_e189_275, kv_e189_276, kv_e189_279, kv_e189_280, kv_e189_283, kv_e189_284, kv_e189_287, kv_e189_290, kv_e189_291, kv_e189_294, kv_e189_295, kv_e189_298, kv_o10, not_false_eq_true, not_true, if_true, if_false, kv_then_s, kv_then_v, kv_then_n, List.cons_append, List.nil_append, kv_Ci, kv_Cr, kv_Cn, kv_Cu, kv_C0, kv_catc, kv_gCi, kv_gCl, kv_gCr, kv_nb0, kv_nb1, kv_nbi, kv_nb01, Nat.reduceAdd, Nat.reduceLeDiff, hw, lk, g1, hP, kx_bad (wa _), kx_a_at, kx_f_at]
  · rw [@decide_eq_false _ (Classical.propDecidable _) (show ¬ (kx_sg t L (kw_nx t L a) = -1 ∧ P) from fun s => g1 s.1), if_neg Bool.false_ne_true]
    refine ⟨kx_f (kx_a z (kw_nx t L a)) 4 (Int32.ofNat (kw_nx t L a)), ?_, kx_frR_tr kx_frR_a (kx_frR_f (by omega)), fun s => absurd s.1 g1⟩
    rw [kv_e189_50]
    simp only [kv_e189_51, kv_e189_267, kv_e189_268, kv_e189_271, kv_e189_272, kv_e189_275, kv_e189_276, kv_e189_279, kv_e189_280, kv_e189_283, kv_e189_284, kv_e189_287, kv_e189_290, kv_e189_291, kv_e189_294, kv_e189_295, kv_e189_298, kv_o10, not_false_eq_true, not_true, if_true, if_false, kv_then_s, kv_then_v, kv_then_n, List.cons_append, List.nil_append, kv_Ci, kv_Cr, kv_Cn, kv_Cu, kv_C0, kv_catc, kv_gCi, kv_gCl, kv_gCr, kv_nb0, kv_nb1, kv_nbi, kv_nb01, Nat.reduceAdd, Nat.reduceLeDiff, hw, lk, g1, kx_bad (wa _), kx_a_at, kx_f_at]
end
