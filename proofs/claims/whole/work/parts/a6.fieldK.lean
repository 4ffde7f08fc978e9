/-! fields as texts: the class's clauses -/
section
variable {d L a : Nat} {e : List kv_E} {t : Nat → Int32} {z : Nat → Nat → Int32} {zl : Nat → Nat → Int64}
/-- law told?, kites, airs, the law, kites' items, airs' items -/
abbrev kx_fs : Type := Bool × Nat × Nat × (Nat → Int32) × (Nat → Nat → Int32) × (Nat → Nat → Int32)
def kx_row (K : Nat → Int32) (w : Nat) : Int32 := if w = 0 then K 0 else if w = 1 then K 1 else if w = 2 then K 2 else if w = 3 then K 3 else if w = 4 then K 3 else if w = 5 then K 4 else if w = 6 then K 5 else if w = 7 then K 6 else if w = 8 then K 7 else if w = 11 then 1 else 0
def kx_up {α : Type} (f : Nat → α) (n : Nat) (x : α) : Nat → α := fun i => if i = n then x else f i
noncomputable def kx_fc (t : Nat → Int32) (L : Nat) (a : Nat) (q : kx_fs) : Nat × Nat × kx_fs :=
  if kx_sg t L (kw_nx t L a) = 102 ∧ q.1 = false then ((kx_it t L 0 5 (kw_nx t L a + 1) 0 (kx_us 0 0)).1, (kx_it t L 0 5 (kw_nx t L a + 1) 0 (kx_us 0 0)).2.1, (true, q.2.1, q.2.2.1, (kx_it t L 0 5 (kw_nx t L a + 1) 0 (kx_us 0 0)).2.2, q.2.2.2.2.1, q.2.2.2.2.2))
  else if kx_sg t L (kw_nx t L a) = 107 ∧ q.2.1 < 8 then ((kx_it t L 1 9 (kw_nx t L a + 1) 0 (kx_us 1 q.2.1)).1, (kx_it t L 1 9 (kw_nx t L a + 1) 0 (kx_us 1 q.2.1)).2.1, (q.1, q.2.1 + 1, q.2.2.1, q.2.2.2.1, kx_up q.2.2.2.2.1 q.2.1 (kx_it t L 1 9 (kw_nx t L a + 1) 0 (kx_us 1 q.2.1)).2.2, q.2.2.2.2.2))
  else if kx_sg t L (kw_nx t L a) = 97 ∧ q.2.2.1 < 6 then ((kx_it t L 2 4 (kw_nx t L a + 1) 0 (kx_us 2 0)).1, (kx_it t L 2 4 (kw_nx t L a + 1) 0 (kx_us 2 0)).2.1, (q.1, q.2.1, q.2.2.1 + 1, q.2.2.2.1, q.2.2.2.2.1, kx_up q.2.2.2.2.2 q.2.2.1 (kx_it t L 2 4 (kw_nx t L a + 1) 0 (kx_us 2 0)).2.2))
  else (2, kw_nx t L a, q)
def kx_fK (q : kx_fs) (z : Nat → Nat → Int32) : Prop := (z 21 4 = (if q.1 = true then 1 else 0) ∧ z 27 2 = 0 ∧ z 27 3 = 0 ∧ z 27 4 = 0) ∧ (z 23 4 = Int32.ofNat q.2.1 ∧ q.2.1 ≤ 8) ∧ (z 23 5 = Int32.ofNat q.2.2.1 ∧ q.2.2.1 ≤ 6) ∧ (∀ j, j < 4 → z 23 j = q.2.2.2.1 j) ∧ (∀ k w, kc z 27 k w = if k < q.2.1 then kx_row (q.2.2.2.2.1 k) w else 0) ∧ ∀ j, j < q.2.2.1 → z 24 j = q.2.2.2.2.2 j 0 ∧ z 25 j = q.2.2.2.2.2 j 1 ∧ z 26 j = q.2.2.2.2.2 j 2
theorem kx_fK_fr {q : kx_fs} {z z' : Nat → Nat → Int32} (h : kx_fK q z) (g : ∀ c, c ≠ 1 → c ≠ 22 → z' c = z c) : kx_fK q z' := by
  unfold kx_fK kc at h ⊢
  rw [g 21 (by omega) (by omega), g 23 (by omega) (by omega), g 24 (by omega) (by omega), g 25 (by omega) (by omega), g 26 (by omega) (by omega), g 27 (by omega) (by omega), g 28 (by omega) (by omega)]
  exact h
/-- where it writes -/
def kx_frF (z z' : Nat → Nat → Int32) : Prop := ∀ c, c ≠ 1 → (c < 21 ∨ 28 < c) → z' c = z c
theorem kx_frF_tr {z z1 z2 : Nat → Nat → Int32} (h : kx_frF z z1) (g : kx_frF z1 z2) : kx_frF z z2 := fun c a1 a2 => (g c a1 a2).trans (h c a1 a2)
theorem kx_presetK (p0 p1 p2 p3 : Int32) : ∃ f, kv_Rn d 18 0 [some (.ref 21), some (.int p0), some (.int p1), some (.int p2), some (.int p3), none] [] (kv_h e z zl) = some (none, kv_h e (kv_z z 22 f) zl) ∧ (f 0 = p0 ∧ f 1 = p1 ∧ f 2 = p2 ∧ f 3 = p3) ∧ ∀ i, 4 ≤ i → i < 8 → f i = 0 := by
  have aw22 : kv_aw (kv_shK ++ e) 22 = 8 := kv_aw_k e rfl (by decide)
  have ia22 : kv_ia (kv_shK ++ e) 22 := ⟨by decide, 8, kv_k_get e rfl⟩
  refine ⟨upd (upd (upd (upd (upd (upd (upd (upd (z 22) 0 p0) 1 p1) 2 p2) 3 p3) 4 0) 5 0) 6 0) 7 0, ?_, ⟨rfl, rfl, rfl, rfl⟩, fun i h1 h2 => ?_⟩
  · have st : ∀ (w : Nat → Nat → Int32) (k : Nat), k < 8 → kv_Rn d 18 32 [some (.ref 21), some (.int p0), some (.int p1), some (.int p2), some (.int p3), some (.int (Int32.ofNat k))] [] (kv_h e w zl) = kv_Rn d 18 32 [some (.ref 21), some (.int p0), some (.int p1), some (.int p2), some (.int p3), some (.int (Int32.ofNat (k + 1)))] [] (kv_h e (kv_z w 22 (upd (w 22) k 0)) zl) := by
      intro w k hk
      have hk2 : k < 2147483648 := by omega
      have ge : (Int32.ofNat 8 ≤ Int32.ofNat k) = False := kv_ln_ hk (by omega)
      conv => lhs; rw [kv_e18_32]
      simp only [kv_e18_34, kv_e18_35, kv_e18_38, kv_e18_39, kv_e18_42, kv_e18_43, kv_e18_46, kv_e18_48, kv_e18_49, kv_e18_50, kv_e18_53, kv_o10, not_false_eq_true, not_true, if_true, if_false, kv_then_s, kv_then_v, kv_then_n, List.cons_append, List.nil_append, kv_Ci, kv_Cr, kv_Cn, kv_Cu, kv_C0, kv_catc, kv_gCi, kv_gCl, kv_gCr, kv_nb0, kv_nb1, kv_nbi, kv_nb01, Nat.reduceAdd, Nat.reduceLeDiff, ia22, true_or, aw22, kv_ar_lt (show 22 < 300 by omega), ge, kw_n0 hk2, kv_tn hk2, kv_lN hk, or_self, kv_suc]
    have s4 := fun w => st w 4 (by omega)
    have s5 := fun w => st w 5 (by omega)
    have s6 := fun w => st w 6 (by omega)
    have s7 := fun w => st w 7 (by omega)
    have e4 : (4 : Int32) = Int32.ofNat 4 := rfl
    have n8 : (Int32.ofNat 8 ≤ Int32.ofNat 8) = True := by decide
    simp only [kv_e18_0, kv_e18_1, kv_e18_4, kv_e18_5, kv_e18_6, kv_e18_7, kv_e18_8, kv_e18_11, kv_e18_12, kv_e18_13, kv_e18_14, kv_e18_15, kv_e18_18, kv_e18_19, kv_e18_20, kv_e18_21, kv_e18_22, kv_e18_25, kv_e18_26, kv_e18_28, kv_e18_29, kv_e18_30, kv_o10, not_false_eq_true, not_true, if_true, if_false, kv_then_s, kv_then_v, kv_then_n, List.cons_append, List.nil_append, kv_Ci, kv_Cr, kv_Cn, kv_Cu, kv_C0, kv_catc, kv_gCi, kv_gCl, kv_gCr, kv_nb0, kv_nb1, kv_nbi, kv_nb01, Nat.reduceAdd, Nat.reduceLeDiff, aw22, kv_zs, kw_zz, Int32.lt_irrefl, false_or, show (0 : Int32).toNatClampNeg = 0 from rfl, show (1 : Int32).toNatClampNeg = 1 from rfl, show (2 : Int32).toNatClampNeg = 2 from rfl, show (3 : Int32).toNatClampNeg = 3 from rfl, show ((1 : Int32) < 0) = False from by decide, show ((2 : Int32) < 0) = False from by decide, show ((3 : Int32) < 0) = False from by decide, show (8 ≤ 0) = False from by decide, show (8 ≤ 1) = False from by decide, show (8 ≤ 2) = False from by decide, show (8 ≤ 3) = False from by decide]
    rw [e4, s4, s5, s6, s7, kv_e18_32]
    simp only [kv_e18_34, kv_e18_35, kv_e18_38, kv_e18_39, kv_e18_42, kv_e18_43, kv_e18_46, kv_e18_48, kv_e18_49, kv_e18_50, kv_e18_53, kv_e18_56, kv_o10, not_false_eq_true, not_true, if_true, if_false, kv_then_s, kv_then_v, kv_then_n, List.cons_append, List.nil_append, kv_Ci, kv_Cr, kv_Cn, kv_Cu, kv_C0, kv_catc, kv_gCi, kv_gCl, kv_gCr, kv_nb0, kv_nb1, kv_nbi, kv_nb01, Nat.reduceAdd, Nat.reduceLeDiff, ia22, true_or, aw22, kv_ar_lt (show 22 < 300 by omega), n8, kv_zs, kw_zz]
  · rcases (show i = 4 ∨ i = 5 ∨ i = 6 ∨ i = 7 by omega) with rfl | rfl | rfl | rfl <;> rfl
theorem kx_itemsK (ht : ∀ i, i < L → kw_rg (t i) 1 255) {g : Nat} (hg : g < 3) {vs : Nat → Int32} (ha : a < L) (hc : kw_ctK t L a z) (hv : ∀ i, i < 8 → z 22 i = vs i) : ∃ z', kv_Rn (d + 4) 19 0 [some (.ref 21), some (.ref (306 + g)), some (.ref (300 + 2 * g)), some (.ref (300 + 2 * g + 1)), none, none, none, none] [] (kv_h e z zl) = some (some (.int (if (kx_it t L g (kx_ct g + 1) (a + 1) 0 vs).1 = 0 then 1 else 0)), kv_h e z' zl) ∧ (∀ c, c ≠ 1 → c ≠ 22 → z' c = z c) ∧ kw_ctK t L (kx_it t L g (kx_ct g + 1) (a + 1) 0 vs).2.1 z' ∧ ((kx_it t L g (kx_ct g + 1) (a + 1) 0 vs).1 = 0 → ∀ i, i < 8 → z' 22 i = (kx_it t L g (kx_ct g + 1) (a + 1) 0 vs).2.2 i) := by
  have u0 : kx_un (kx_ct g) 0 = kx_ct g := by
    match g, hg with
    | 0, _ => rfl
    | 1, _ => rfl
    | 2, _ => rfl
  have fz : ∀ c, c ≠ 1 → kw_aK z (a + 1) c = z c := fun c h => kw_aK_fr _ _ h
  obtain ⟨z', r, f, c, v⟩ := kx_itK (d := d) (e := e) (zl := zl) ht hg (kx_ct g + 1) 0 (a + 1) 0 vs (kw_aK z (a + 1)) none none (by omega) (by omega) (Nat.pow_pos (by decide)) (by omega) (kw_ctK_a hc) (fun i hi => by rw [fz 22 (by omega)]; exact hv i hi)
  refine ⟨z', ?_, fun c a1 a2 => (f c a1 a2).trans (fz c a1), c, v⟩
  rw [← r]
  have ea : kv_z z 1 (upd (z 1) 2 (Int32.ofNat (a + 1))) = kw_aK z (a + 1) := rfl
  simp only [kv_e19_0, kv_e19_1, kv_e19_4, kv_e19_5, kv_e19_8, kv_e19_9, kv_e19_10, kv_e19_13, kv_e19_14, kv_e19_16, kv_e19_17, kv_o10, not_false_eq_true, not_true, if_true, if_false, kv_then_s, kv_then_v, kv_then_n, List.cons_append, List.nil_append, kv_Ci, kv_Cr, kv_Cn, kv_Cu, kv_C0, kv_catc, kv_gCi, kv_gCl, kv_gCr, kv_nb0, kv_nb1, kv_nbi, kv_nb01, Nat.reduceAdd, Nat.reduceLeDiff, hc.2.1, kv_suc, ea]
  rfl
theorem kx_usOf {f : Nat → Int32} {g k : Nat} (h : f 0 = kx_us g k 0 ∧ f 1 = kx_us g k 1 ∧ f 2 = kx_us g k 2 ∧ f 3 = kx_us g k 3) (h4 : ∀ i, 4 ≤ i → i < 8 → f i = 0) : ∀ i, i < 8 → f i = kx_us g k i := by
  intro i hi
  obtain ⟨a0, a1, a2, a3⟩ := h
  have h0 : ∀ i, 4 ≤ i → kx_us g k i = 0 := by
    intro i h
    unfold kx_us
    rw [if_neg (show ¬ i = 0 by omega), if_neg (show ¬ i = 1 by omega), if_neg (show ¬ i = 2 by omega), if_neg (show ¬ i = 3 by omega), if_neg (show ¬ i = 0 by omega), if_neg (show ¬ i = 1 by omega), if_neg (show ¬ i = 2 by omega)]
    by_cases q : g = 0
    · rw [if_pos q]
    · rw [if_neg q, if_neg (show ¬ i = 2 by omega)]
      by_cases q2 : g = 1
      · rw [if_pos q2]
      · rw [if_neg q2]
  rcases (show i = 0 ∨ i = 1 ∨ i = 2 ∨ i = 3 ∨ 4 ≤ i by omega) with rfl | rfl | rfl | rfl | h
  · exact a0
  · exact a1
  · exact a2
  · exact a3
  · rw [h4 i h hi, h0 i h]
/-- what a clause does, here -/
def kx_RK (t : Nat → Int32) (L : Nat) (r : Nat × Nat × kx_fs) (z z' : Nat → Nat → Int32) : Prop := kx_frF z z' ∧ kw_ctK t L r.2.1 z' ∧ (r.1 = 0 → kx_fK r.2.2 z')
theorem kx_fLawK (ht : ∀ i, i < L → kw_rg (t i) 1 255) {q : kx_fs} (ha : a < L) (hc : kw_ctK t L a z) (hq : kx_fK q z) : ∃ z', kv_Rn (d + 5) 15 0 [some (.ref 21)] [] (kv_h e z zl) = some (some (.int (if (kx_it t L 0 5 (a + 1) 0 (kx_us 0 0)).1 = 0 then 1 else 0)), kv_h e z' zl) ∧ kx_RK t L ((kx_it t L 0 5 (a + 1) 0 (kx_us 0 0)).1, (kx_it t L 0 5 (a + 1) 0 (kx_us 0 0)).2.1, (true, q.2.1, q.2.2.1, (kx_it t L 0 5 (a + 1) 0 (kx_us 0 0)).2.2, q.2.2.2.2.1, q.2.2.2.2.2)) z z' := by
  obtain ⟨f, rp, fp, fp4⟩ := kx_presetK (d := d + 4) (e := e) (z := kv_z z 21 (upd (z 21) 4 1)) (zl := zl) 20 20 50 5
  have c2 : kw_ctK t L a (kv_z (kv_z z 21 (upd (z 21) 4 1)) 22 f) := kx_ct_fr hc ((kv_zne _ _ (by omega)).trans (kv_zne _ _ (by omega))) ((kv_zne _ _ (by omega)).trans (kv_zne _ _ (by omega)))
  obtain ⟨z3, r3, f3, c3, v3⟩ := kx_itemsK (d := d) (e := e) (zl := zl) ht (g := 0) (by omega) (vs := kx_us 0 0) ha c2 (fun i hi => by rw [kv_zs]; exact kx_usOf fp fp4 i hi)
  rw [show 306 + 0 = 306 from rfl, show 300 + 2 * 0 = 300 from rfl, show 300 + 1 = 301 from rfl, show kx_ct 0 + 1 = 5 from rfl] at r3
  rw [show kx_ct 0 + 1 = 5 from rfl] at c3 v3
  have g3 : ∀ c, c ≠ 1 → c ≠ 22 → c ≠ 21 → z3 c = z c := fun c a1 a2 a3 => (f3 c a1 a2).trans ((kv_zne _ _ a2).trans (kv_zne _ _ a3))
  by_cases qo : (kx_it t L 0 5 (a + 1) 0 (kx_us 0 0)).1 = 0
  · rw [if_pos qo] at r3 ⊢
    have v3 := v3 qo
    obtain ⟨z4, e4⟩ : ∃ z4, z4 = kv_z z3 23 (upd (upd (upd (upd (z3 23) 0 (z3 22 0)) 1 (z3 22 1)) 2 (z3 22 2)) 3 (z3 22 3)) := ⟨_, rfl⟩
    have f4 : ∀ c, c ≠ 23 → z4 c = z3 c := fun c h => by rw [e4]; exact kv_zne _ _ h
    have f23 : z4 23 = upd (upd (upd (upd (z3 23) 0 (z3 22 0)) 1 (z3 22 1)) 2 (z3 22 2)) 3 (z3 22 3) := by rw [e4]; exact kv_zs _ _ _
    refine ⟨z4, ?_, fun c a1 a2 => (f4 c (by omega)).trans (g3 c a1 (by omega) (by omega)), kx_ct_fr c3 (f4 1 (by omega)) (f4 2 (by omega)), fun _ => ?_⟩
    · have aw22 : kv_aw (kv_shK ++ e) 22 = 8 := kv_aw_k e rfl (by decide)
      have r22 : ∀ (w : Nat → Nat → Int32) j, kv_rd w 22 j = w 22 j := fun w j => kv_rd_lt (by omega)
      have f22 : ∀ (w : Nat → Nat → Int32) f, kv_z w 23 f 22 = w 22 := fun w f => kv_zne _ _ (by omega)
      simp only [kv_e15_0, kv_e15_1, kv_e15_2_0, kv_e15_2_1, kv_e15_5, kv_e15_6, kv_e15_8, kv_e15_10, kv_e15_12, kv_e15_13, kv_e15_16, kv_e15_17, kv_e15_19, kv_e15_22, kv_e15_25, kv_e15_28, kv_e15_31, kv_e15_32, kv_e15_33, kv_e15_34, kv_e15_37, kv_e15_38, kv_e15_41, kv_e15_42, kv_e15_43, kv_e15_46, kv_e15_47, kv_e15_50, kv_e15_51, kv_e15_54, kv_e15_55, kv_e15_56, kv_e15_59, kv_e15_60, kv_e15_63, kv_e15_64, kv_e15_67, kv_e15_68, kv_e15_69, kv_e15_72, kv_e15_73, kv_e15_76, kv_e15_77, kv_e15_80, kv_e15_81, kv_e15_82, kv_e15_85, kv_e15_86, kv_o10, not_false_eq_true, not_true, if_true, if_false, kv_then_s, kv_then_v, kv_then_n, List.cons_append, List.nil_append, kv_Ci, kv_Cr, kv_Cn, kv_Cu, kv_C0, kv_catc, kv_gCi, kv_gCl, kv_gCr, kv_nb0, kv_nb1, kv_nbi, kv_nb01, Nat.reduceAdd, Nat.reduceLeDiff, rp, r3, kv_isF23, aw22, kv_ar_lt (show 22 < 300 by omega), r22, Int32.lt_irrefl, false_or, show (0 : Int32).toNatClampNeg = 0 from rfl, show (1 : Int32).toNatClampNeg = 1 from rfl, show (2 : Int32).toNatClampNeg = 2 from rfl, show (3 : Int32).toNatClampNeg = 3 from rfl, show ((1 : Int32) < 0) = False from by decide, show ((2 : Int32) < 0) = False from by decide, show ((3 : Int32) < 0) = False from by decide, show (8 ≤ 0) = False from by decide, show (8 ≤ 1) = False from by decide, show (8 ≤ 2) = False from by decide, show (8 ≤ 3) = False from by decide, show ((1 : Int32) = 0) = False from by decide, f22, kv_zs, kw_zz, e4]
    · obtain ⟨⟨q0, q1⟩, ⟨q2, q2'⟩, ⟨q3, q3'⟩, q4, q5, q6⟩ := hq
      have z21 : z4 21 = upd (z 21) 4 1 := (f4 21 (by omega)).trans ((f3 21 (by omega) (by omega)).trans ((kv_zne _ _ (by omega)).trans (kv_zs _ _ _)))
      have gg : ∀ c, c ≠ 1 → c ≠ 22 → c ≠ 21 → c ≠ 23 → z4 c = z c := fun c a1 a2 a3 a4 => (f4 c a4).trans (g3 c a1 a2 a3)
      refine ⟨⟨by rw [z21]; exact (if_pos rfl).trans (if_pos rfl).symm, by rw [gg 27 (by omega) (by omega) (by omega) (by omega)]; exact q1⟩, ⟨?_, q2'⟩, ⟨?_, q3'⟩, fun j hj => ?_, ?_, ?_⟩
      · rw [f23]
        exact (congrFun (g3 23 (by omega) (by omega) (by omega)) 4).trans q2
      · rw [f23]
        exact (congrFun (g3 23 (by omega) (by omega) (by omega)) 5).trans q3
      · rw [f23]
        rcases (show j = 0 ∨ j = 1 ∨ j = 2 ∨ j = 3 by omega) with rfl | rfl | rfl | rfl
        · exact v3 0 (by omega)
        · exact v3 1 (by omega)
        · exact v3 2 (by omega)
        · exact v3 3 (by omega)
      · unfold kc
        rw [gg 28 (by omega) (by omega) (by omega) (by omega)]
        exact q5
      · rw [gg 24 (by omega) (by omega) (by omega) (by omega), gg 25 (by omega) (by omega) (by omega) (by omega), gg 26 (by omega) (by omega) (by omega) (by omega)]
        exact q6
  · rw [if_neg qo] at r3 ⊢
    refine ⟨z3, ?_, fun c a1 a2 => g3 c a1 (by omega) (by omega), c3, fun s => absurd s qo⟩
    simp only [kv_e15_0, kv_e15_1, kv_e15_2_0, kv_e15_2_1, kv_e15_5, kv_e15_6, kv_e15_8, kv_e15_10, kv_e15_12, kv_e15_13, kv_e15_16, kv_e15_17, kv_e15_19, kv_e15_22, kv_e15_25, kv_e15_28, kv_e15_31, kv_e15_32, kv_e15_33, kv_e15_34, kv_e15_37, kv_e15_38, kv_e15_41, kv_e15_42, kv_e15_43, kv_e15_46, kv_e15_47, kv_e15_50, kv_e15_51, kv_e15_54, kv_e15_55, kv_e15_56, kv_e15_59, kv_e15_60, kv_e15_63, kv_e15_64, kv_e15_67, kv_e15_68, kv_e15_69, kv_e15_72, kv_e15_73, kv_e15_76, kv_e15_77, kv_e15_80, kv_e15_81, kv_e15_82, kv_e15_85, kv_e15_86, kv_o10, not_false_eq_true, not_true, if_true, if_false, kv_then_s, kv_then_v, kv_then_n, List.cons_append, List.nil_append, kv_Ci, kv_Cr, kv_Cn, kv_Cu, kv_C0, kv_catc, kv_gCi, kv_gCl, kv_gCr, kv_nb0, kv_nb1, kv_nbi, kv_nb01, Nat.reduceAdd, Nat.reduceLeDiff, rp, r3]
end
