/-! fields as texts: the class's clauses -/
section
variable {d L a : Nat} {e : List kv_E} {t : Nat → Int32} {z : Nat → Nat → Int32} {zl : Nat → Nat → Int64}
/-- law told?, kites, airs, the law, kites' items, airs' items -/
abbrev kx_fs : Type := Bool × Nat × Nat × (Nat → Int32) × (Nat → Nat → Int32) × (Nat → Nat → Int32)
def kx_row (K : Nat → Int32) (w : Nat) : Int32 := if w = 0 then K 0 else if w = 1 then K 1 else if w = 2 then K 2 else if w = 3 then K 3 else if w = 4 then K 3 else if w = 5 then K 4 else if w = 6 then K 5 else if w = 7 then K 6 else if w = 8 then K 7 else if w = 11 then 1 else 0
def kx_up {α : Type} (f : Nat → α) (n : Nat) (x : α) : Nat → α := fun i => if i = n then x else f i
noncomputable def kx_fc (t : Nat → Int32) (L : Nat) (a : Nat) (q : kx_fs) : Nat × Nat × kx_fs :=
  if kx_sg t L (kw_nx t L a) = 102 ∧ q.1 = false then ((kx_it t L 0 5 (kw_nx t L a + 1) 0 (kx_us 0 0)).1, (kx_it t L 0 5 (kw_nx t L a + 1) 0 (kx_us 0 0)).2.1, (true, q.2.1, q.2.2.1, (kx_it t L 0 5 (kw_nx t L a + 1) 0 (kx_us 0 0)).2.2, q.2.2.2.2.1, q.2.2.2.2.2))
  else if kx_sg t L (kw_nx t L a) = 107 ∧ q.2.1 < 8 then ((kx_it t L 1 9 (kw_nx t L a + 1) 0 (kx_us 1 q.2.1)).1, (kx_it t L 1 9 (kw_nx t L a + 1) 0 (kx_us 1 q.2.1)).2.1, (q.1, q.2.1 + 1, q.2.2.1, q.2.2.2.1, kx_up q.2.2.2.2.1 q.2.1 (kx_it t L 1 9 (kw_nx t L a + 1) 0 (kx_us 1 q.2.1)).2.2, q.2.2.2.2.2))
  else if kx_sg t L (kw_nx t L a) = 97 ∧ q.2.2.1 < 6 then ((kx_it t L 2 4 (kw_nx t L a + 1) 0 (kx_us 2 0)).1, (kx_it t L 2 4 (kw_nx t L a + 1) 0 (kx_us 2 0)).2.1, (q.1, q.2.1, q.2.2.1 + 1, q.2.2.2.1, q.2.2.2.2.1, kx_up q.2.2.2.2.2 q.2.2.1 (kx_it t L 2 4 (kw_nx t L a + 1) 0 (kx_us 2 0)).2.2))
  else (2, kw_nx t L a, q)
def kx_fK (q : kx_fs) (z : Nat → Nat → Int32) : Prop := (z 21 4 = (if q.1 = true then 1 else 0) ∧ z 27 2 = 0 ∧ z 27 3 = 0 ∧ z 27 4 = 0) ∧ (z 23 4 = Int32.ofNat q.2.1 ∧ q.2.1 ≤ 8) ∧ (z 23 5 = Int32.ofNat q.2.2.1 ∧ q.2.2.1 ≤ 6) ∧ (∀ j, j < 4 → z 23 j = q.2.2.2.1 j) ∧ (∀ k w, kc z 27 k w = if k < q.2.1 then kx_row (q.2.2.2.2.1 k) w else 0) ∧ ∀ j, j < q.2.2.1 → z 24 j = q.2.2.2.2.2 j 0 ∧ z 25 j = q.2.2.2.2.2 j 1 ∧ z 26 j = q.2.2.2.2.2 j 2
theorem kx_fK_fr {q : kx_fs} {z z' : Nat → Nat → Int32} (h : kx_fK q z) (g : ∀ c, c ≠ 1 → c ≠ 22 → z' c = z c) : kx_fK q z' := by
  unfold kx_fK kc at h ⊢
  rw [g 21 (by omega) (by omega), g 23 (by omega) (by omega), g 24 (by omega) (by omega), g 25 (by omega) (by omega), g 26 (by omega) (by omega), g 27 (by omega) (by omega), g 28 (by omega) (by omega)]
  exact h
/-- where it writes -/
def kx_frF (z z' : Nat → Nat → Int32) : Prop := ∀ c, c ≠ 1 → (c < 21 ∨ 28 < c) → z' c = z c
theorem kx_frF_tr {z z1 z2 : Nat → Nat → Int32} (h : kx_frF z z1) (g : kx_frF z1 z2) : kx_frF z z2 := fun c a1 a2 => (g c a1 a2).trans (h c a1 a2)
theorem kx_presetK (p0 p1 p2 p3 : Int32) : ∃ f, kv_Rn d 18 0 [some (.ref 21), some (.int p0), some (.int p1), some (.int p2), some (.int p3), none] [] (kv_h e z zl) = some (none, kv_h e (kv_z z 22 f) zl) ∧ (f 0 = p0 ∧ f 1 = p1 ∧ f 2 = p2 ∧ f 3 = p3) ∧ ∀ i, 4 ≤ i → i < 8 → f i = 0 := by
  have aw22 : kv_aw (kv_shK ++ e) 22 = 8 := kv_aw_k e rfl (by decide)
  have ia22 : kv_ia (kv_shK ++ e) 22 := ⟨by decide, 8, kv_k_get e rfl⟩
  refine ⟨upd (upd (upd (upd (upd (upd (upd (upd (z 22) 0 p0) 1 p1) 2 p2) 3 p3) 4 0) 5 0) 6 0) 7 0, ?_, ⟨rfl, rfl, rfl, rfl⟩, fun i h1 h2 => ?_⟩
  · have st : ∀ (w : Nat → Nat → Int32) (k : Nat), k < 8 → kv_Rn d 18 32 [some (.ref 21), some (.int p0), some (.int p1), some (.int p2), some (.int p3), some (.int (Int32.ofNat k))] [] (kv_h e w zl) = kv_Rn d 18 32 [some (.ref 21), some (.int p0), some (.int p1), some (.int p2), some (.int p3), some (.int (Int32.ofNat (k + 1)))] [] (kv_h e (kv_z w 22 (upd (w 22) k 0)) zl) := by
      intro w k hk
      have hk2 : k < 2147483648 := by omega
      have ge : (Int32.ofNat 8 ≤ Int32.ofNat k) = False := kv_ln_ hk (by omega)
      conv => lhs; rw [kv_e18_32]
      simp only [kv_e18_34, kv_e18_35, kv_e18_38, kv_e18_39, kv_e18_42, kv_e18_43, kv_e18_46, kv_e18_48, kv_e18_49, kv_e18_50, kv_e18_53, kv_o10, not_false_eq_true, not_true, if_true, if_false, kv_then_s, kv_then_v, kv_then_n, List.cons_append, List.nil_append, kv_Ci, kv_Cr, kv_Cn, kv_Cu, kv_C0, kv_catc, kv_gCi, kv_gCl, kv_gCr, kv_nb0, kv_nb1, kv_nbi, kv_nb01, Nat.reduceAdd, Nat.reduceLeDiff, ia22, true_or, aw22, kv_ar_lt (show 22 < 300 by omega), ge, kw_n0 hk2, kv_tn hk2, kv_lN hk, or_self, kv_suc]
    have s4 := fun w => st w 4 (by omega)
    have s5 := fun w => st w 5 (by omega)
    have s6 := fun w => st w 6 (by omega)
    have s7 := fun w => st w 7 (by omega)
    have e4 : (4 : Int32) = Int32.ofNat 4 := rfl
    have n8 : (Int32.ofNat 8 ≤ Int32.ofNat 8) = True := by decide
    simp only [kv_e18_0, kv_e18_1, kv_e18_4, kv_e18_5, kv_e18_6, kv_e18_7, kv_e18_8, kv_e18_11, kv_e18_12, kv_e18_13, kv_e18_14, kv_e18_15, kv_e18_18, kv_e18_19, kv_e18_20, kv_e18_21, kv_e18_22, kv_e18_25, kv_e18_26, kv_e18_28, kv_e18_29, kv_e18_30, kv_o10, not_false_eq_true, not_true, if_true, if_false, kv_then_s, kv_then_v, kv_then_n, List.cons_append, List.nil_append, kv_Ci, kv_Cr, kv_Cn, kv_Cu, kv_C0, kv_catc, kv_gCi, kv_gCl, kv_gCr, kv_nb0, kv_nb1, kv_nbi, kv_nb01, Nat.reduceAdd, Nat.reduceLeDiff, aw22, kv_zs, kw_zz, Int32.lt_irrefl, false_or, show (0 : Int32).toNatClampNeg = 0 from rfl, show (1 : Int32).toNatClampNeg = 1 from rfl, show (2 : Int32).toNatClampNeg = 2 from rfl, show (3 : Int32).toNatClampNeg = 3 from rfl, show ((1 : Int32) < 0) = False from by decide, show ((2 : Int32) < 0) = False from by decide, show ((3 : Int32) < 0) = False from by decide, show (8 ≤ 0) = False from by decide, show (8 ≤ 1) = False from by decide, show (8 ≤ 2) = False from by decide, show (8 ≤ 3) = False from by decide]
    rw [e4, s4, s5, s6, s7, kv_e18_32]
    simp only [kv_e18_34, kv_e18_35, kv_e18_38, kv_e18_39, kv_e18_42, kv_e18_43, kv_e18_46, kv_e18_48, kv_e18_49, kv_e18_50, kv_e18_53, kv_e18_56, kv_o10, not_false_eq_true, not_true, if_true, if_false, kv_then_s, kv_then_v, kv_then_n, List.cons_append, List.nil_append, kv_Ci, kv_Cr, kv_Cn, kv_Cu, kv_C0, kv_catc, kv_gCi, kv_gCl, kv_gCr, kv_nb0, kv_nb1, kv_nbi, kv_nb01, Nat.reduceAdd, Nat.reduceLeDiff, ia22, true_or, aw22, kv_ar_lt (show 22 < 300 by omega), n8, kv_zs, kw_zz]
  · rcases (show i = 4 ∨ i = 5 ∨ i = 6 ∨ i = 7 by omega) with rfl | rfl | rfl | rfl <;> rfl
theorem kx_itemsK (ht : ∀ i, i < L → kw_rg (t i) 1 255) {g : Nat} (hg : g < 3) {vs : Nat → Int32} (ha : a < L) (hc : kw_ctK t L a z) (hv : ∀ i, i < 8 → z 22 i = vs i) : ∃ z', kv_Rn (d + 4) 19 0 [some (.ref 21), some (.ref (306 + g)), some (.ref (300 + 2 * g)), some (.ref (300 + 2 * g + 1)), none, none, none, none] [] (kv_h e z zl) = some (some (.int (if (kx_it t L g (kx_ct g + 1) (a + 1) 0 vs).1 = 0 then 1 else 0)), kv_h e z' zl) ∧ (∀ c, c ≠ 1 → c ≠ 22 → z' c = z c) ∧ kw_ctK t L (kx_it t L g (kx_ct g + 1) (a + 1) 0 vs).2.1 z' ∧ ((kx_it t L g (kx_ct g + 1) (a + 1) 0 vs).1 = 0 → ∀ i, i < 8 → z' 22 i = (kx_it t L g (kx_ct g + 1) (a + 1) 0 vs).2.2 i) := by
  have u0 : kx_un (kx_ct g) 0 = kx_ct g := by
    match g, hg with
    | 0, _ => rfl
    | 1, _ => rfl
    | 2, _ => rfl
  have fz : ∀ c, c ≠ 1 → kw_aK z (a + 1) c = z c := fun c h => kw_aK_fr _ _ h
  obtain ⟨z', r, f, c, v⟩ := kx_itK (d := d) (e := e) (zl := zl) ht hg (kx_ct g + 1) 0 (a + 1) 0 vs (kw_aK z (a + 1)) none none (by omega) (by omega) (Nat.pow_pos (by decide)) (by omega) (kw_ctK_a hc) (fun i hi => by rw [fz 22 (by omega)]; exact hv i hi)
  refine ⟨z', ?_, fun c a1 a2 => (f c a1 a2).trans (fz c a1), c, v⟩
  rw [← r]
  have ea : kv_z z 1 (upd (z 1) 2 (Int32.ofNat (a + 1))) = kw_aK z (a + 1) := rfl
  simp only [kv_e19_0, kv_e19_1, kv_e19_4, kv_e19_5, kv_e19_8, kv_e19_9, kv_e19_10, kv_e19_13, kv_e19_14, kv_e19_16, kv_e19_17, kv_o10, not_false_eq_true, not_true, if_true, if_false, kv_then_s, kv_then_v, kv_then_n, List.cons_append, List.nil_append, kv_Ci, kv_Cr, kv_Cn, kv_Cu, kv_C0, kv_catc, kv_gCi, kv_gCl, kv_gCr, kv_nb0, kv_nb1, kv_nbi, kv_nb01, Nat.reduceAdd, Nat.reduceLeDiff, hc.2.1, kv_suc, ea]
  rfl
end
