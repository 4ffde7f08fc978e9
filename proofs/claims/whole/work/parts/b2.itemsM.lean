/-! fields as texts: the model's items -/
section
variable {d L a : Nat} {t : Nat → Int32} {z : Nat → Nat → Int32} {zl : Nat → Nat → Int64}
def kx_frI (A F m : Nat) (z z' : Nat → Nat → Int32) : Prop := (∀ c, c ≠ 0 → c ≠ A → z' c = z c) ∧ (∀ j, j ≠ 3 → j ≠ 4 → z' 0 j = z 0 j) ∧ ∀ j, (j < F ∨ F + m ≤ j) → z' A j = z A j
theorem kx_frI_tr {A F m : Nat} {z z1 z2 : Nat → Nat → Int32} (h : kx_frI A F m z z1) (g : kx_frI A F m z1 z2) : kx_frI A F m z z2 := ⟨fun c a1 a2 => (g.1 c a1 a2).trans (h.1 c a1 a2), fun j a1 a2 => (g.2.1 j a1 a2).trans (h.2.1 j a1 a2), fun j hj => (g.2.2 j hj).trans (h.2.2 j hj)⟩
theorem kx_frI_a {A F m b : Nat} (hA : A ≠ 0) : kx_frI A F m z (kx_a z b) := ⟨fun c a1 _ => kx_a_fr _ _ a1, fun j a1 _ => kx_a_ne _ _ a1, fun j _ => by rw [kx_a_fr _ _ hA]⟩
theorem kx_itM {g A F : Nat} (hg : g < 3) (hA : A ≠ 0 ∧ A ≠ 1) (hF : F + kx_ct g ≤ kv_aw kv_shM A) (hF2 : F < 1000) (u4 u5 : Int32) : ∀ f a s vs z, f = kx_un (kx_ct g) s + 1 → s < 2 ^ kx_ct g → a ≤ L → kx_ctM t L a z → z 0 4 = -1 → (∀ i, i < kx_ct g → z A (F + i) = vs i) → ∃ z', kv_Rn (d + 3) 187 43 [some (.ref 0), some (.int (kx_le g)), some (.ref A), some (.int (Int32.ofNat F)), some (.int u4), some (.int u5), some (.int (Int32.ofNat s)), some (.int (kx_ix g (kx_sg t L (kw_nx t L a))))] [] (kv_m (kx_a z (kw_nx t L a)) zl) = some (none, kv_m z' zl) ∧ kx_frI A F (kx_ct g) z z' ∧ z' 0 4 = (if (kx_it t L g f a s vs).1 = 2 then Int32.ofNat (kx_it t L g f a s vs).2.1 else -1) ∧ (¬ (kx_it t L g f a s vs).1 = 2 → kx_ctM t L (kx_it t L g f a s vs).2.1 z') ∧ ((kx_it t L g f a s vs).1 = 0 → ∀ i, i < kx_ct g → z' A (F + i) = (kx_it t L g f a s vs).2.2 i) := by
  intro f
  induction f with
  | zero => intro a s vs z hf; omega
  | succ f ih =>
    intro a s vs z hf hs ha hc hw hv
    have hL := hc.1.2
    obtain ⟨c8, c3⟩ := kx_ct_8 hg
    have n1 := kw_nx_le t L a
    have n2 := kw_nx_L (t := t) ha
    have wa : ∀ b, kx_a z b 0 4 = -1 := fun b => (kx_a_ne _ _ (by omega)).trans hw
    have va : ∀ b i, i < kx_ct g → kx_a z b A (F + i) = vs i := fun b i hi => by rw [kx_a_fr _ _ hA.1]; exact hv i hi
    rcases kx_ix_r g hg (kx_sg t L (kw_nx t L a)) with h | ⟨i, hi, h⟩
    · rw [kx_it_1 h, h]
      have hk : ¬ (if kx_sg t L (kw_nx t L a) = -1 ∨ kx_sg t L (kw_nx t L a) = 59 then 0 else 1 : Nat) = 2 := by
        by_cases q : kx_sg t L (kw_nx t L a) = -1 ∨ kx_sg t L (kw_nx t L a) = 59
        · rw [if_pos q]; decide
        · rw [if_neg q]; decide
      refine ⟨kx_a z (kw_nx t L a), ?_, kx_frI_a hA.1, by rw [if_neg hk]; exact wa _, fun _ => kx_ctM_a hc, fun _ => va _⟩
      rw [kv_e187_43]
      simp only [kv_e187_44, kv_e187_47, kv_e187_48, kv_e187_51, kv_e187_53, kv_e187_54, kv_e187_57, kv_e187_59, kv_e187_61, kv_e187_64, kv_e187_67, kv_e187_69, kv_e187_70, kv_e187_72, kv_e187_73, kv_e187_74, kv_e187_76, kv_e187_77, kv_e187_78, kv_e187_81, kv_e187_82, kv_e187_83, kv_e187_86, kv_e187_87, kv_e187_88, kv_e187_90, kv_e187_91, kv_e187_92, kv_e187_93, kv_e187_95, kv_e187_98, kv_e187_99, kv_e187_101, kv_e187_104, kv_e187_107, kv_e187_108, kv_e187_109, kv_e187_112, kv_e187_113, kv_e187_116, kv_e187_117, kv_e187_118, kv_e187_121, kv_e187_124, kv_e187_127, kv_e187_128, kv_e187_130, kv_e187_133, kv_o10, not_false_eq_true, not_true, if_true, if_false, kv_then_s, kv_then_v, kv_then_n, List.cons_append, List.nil_append, kv_Ci, kv_Cr, kv_Cn, kv_Cu, kv_C0, kv_catc, kv_gCi, kv_gCl, kv_gCr, kv_nb0, kv_nb1, kv_nbi, kv_nb01, Nat.reduceAdd, Nat.reduceLeDiff, wa]
    · have hi8 : i < 8 := by omega
      have hi2 : i < 2147483648 := by omega
      have im1 : (Int32.ofNat i = -1) = False := kw_of_m1 hi2
      have hlt := kx_sg_ne (t := t) (L := L) (a := kw_nx t L a) (fun s => by rw [s, (kx_ix_m1 g hg).1, eq_comm, im1] at h; exact h)
      have hs8 : s < 256 := Nat.lt_of_lt_of_le hs (by have := Nat.pow_le_pow_right (show 0 < 2 by decide) c8; omega)
      have bt := kx_bt (h := s) (p := i) (by omega) (by omega)
      have bs := kx_bs (h := s) (p := i) (by omega) (by omega)
      rw [kx_it_i hi8 h, h]
      by_cases q : s.testBit i = true
      · rw [if_pos q] at bt ⊢
        refine ⟨kx_a z (kw_nx t L a), ?_, kx_frI_a hA.1, wa _, fun _ => kx_ctM_a hc, fun s => absurd s (by simp)⟩
        rw [kv_e187_43]
        simp only [kv_e187_44, kv_e187_47, kv_e187_48, kv_e187_51, kv_e187_53, kv_e187_54, kv_e187_57, kv_e187_59, kv_e187_61, kv_e187_64, kv_e187_67, kv_e187_69, kv_e187_70, kv_e187_72, kv_e187_73, kv_e187_74, kv_e187_76, kv_e187_77, kv_e187_78, kv_e187_81, kv_e187_82, kv_e187_83, kv_e187_86, kv_e187_87, kv_e187_88, kv_e187_90, kv_e187_91, kv_e187_92, kv_e187_93, kv_e187_95, kv_e187_98, kv_e187_99, kv_e187_101, kv_e187_104, kv_e187_107, kv_e187_108, kv_e187_109, kv_e187_112, kv_e187_113, kv_e187_116, kv_e187_117, kv_e187_118, kv_e187_121, kv_e187_124, kv_e187_127, kv_e187_128, kv_e187_130, kv_e187_133, kv_o10, not_false_eq_true, not_true, if_true, if_false, kv_then_s, kv_then_v, kv_then_n, List.cons_append, List.nil_append, kv_Ci, kv_Cr, kv_Cn, kv_Cu, kv_C0, kv_catc, kv_gCi, kv_gCl, kv_gCr, kv_nb0, kv_nb1, kv_nbi, kv_nb01, Nat.reduceAdd, Nat.reduceLeDiff, wa, im1, kw_has, bt, show ((1 : Int32) = 0) = False from by decide]
      · rw [if_neg q] at bt ⊢
        obtain ⟨v, z3, r3, ⟨n3, n30, w3, c3'⟩, v3⟩ := kx_numM (d := d) (zl := zl) (lo := kx_lo g i) (hi := kx_hi g i) (show kw_nx t L a + 1 ≤ L by omega) (kx_ctM_a (b := kw_nx t L a + 1) hc) (wa _)
        obtain ⟨⟨w1, w2⟩, -⟩ := kx_nw_W (t := t) (lo := kx_lo g i) (hi := kx_hi g i) (show kw_nx t L a + 1 ≤ L by omega)
        have lo := fun h => kx_loM (d := d + 2) hg hi (h := h)
        have hiM := fun h => kx_hiM (d := d + 2) hg hi (h := h)
        have hx2 : F + i < 2147483648 := by omega
        have awF : (kv_aw kv_shM A ≤ F + i) = False := eq_false (by omega)
        obtain ⟨z4, e4⟩ : ∃ y, y = kv_z z3 A (upd (z3 A) (F + i) v) := ⟨_, rfl⟩
        have f4 : ∀ c, c ≠ A → z4 c = z3 c := fun c h => by rw [e4]; exact kv_zne _ _ h
        have f4A : z4 A = upd (z3 A) (F + i) v := by rw [e4]; exact kv_zs _ _ _
        have z40 : z4 0 = z3 0 := f4 0 (by omega)
        have fr4 : kx_frI A F (kx_ct g) z z4 := by
          refine ⟨fun c a1 a2 => (f4 c a2).trans ((n3 c a1).trans (kx_a_fr _ _ a1)), fun j a1 a2 => by rw [z40]; exact (n30 j a1 a2).trans (kx_a_ne _ _ a1), fun j hj => ?_⟩
          rw [f4A]
          exact (if_neg (by omega)).trans (by rw [n3 A hA.1, kx_a_fr _ _ hA.1])
        have road : kv_Rn (d + 3) 187 43 [some (.ref 0), some (.int (kx_le g)), some (.ref A), some (.int (Int32.ofNat F)), some (.int u4), some (.int u5), some (.int (Int32.ofNat s)), some (.int (Int32.ofNat i))] [] (kv_m (kx_a z (kw_nx t L a)) zl) = kv_Rn (d + 3) 187 108 [some (.ref 0), some (.int (kx_le g)), some (.ref A), some (.int (Int32.ofNat F)), some (.int u4), some (.int u5), some (.int (Int32.ofNat (s ||| 2 ^ i))), some (.int (Int32.ofNat i))] [] (kv_m z4 zl) := by
          rw [kv_e187_43]
          simp only [kv_e187_44, kv_e187_47, kv_e187_48, kv_e187_51, kv_e187_53, kv_e187_54, kv_e187_57, kv_e187_59, kv_e187_61, kv_e187_64, kv_e187_67, kv_e187_69, kv_e187_70, kv_e187_72, kv_e187_73, kv_e187_74, kv_e187_76, kv_e187_77, kv_e187_78, kv_e187_81, kv_e187_82, kv_e187_83, kv_e187_86, kv_e187_87, kv_e187_88, kv_e187_90, kv_e187_91, kv_e187_92, kv_e187_93, kv_e187_95, kv_e187_98, kv_e187_99, kv_e187_101, kv_e187_104, kv_e187_107, kv_o10, not_false_eq_true, not_true, if_true, if_false, kv_then_s, kv_then_v, kv_then_n, List.cons_append, List.nil_append, kv_Ci, kv_Cr, kv_Cn, kv_Cu, kv_C0, kv_catc, kv_gCi, kv_gCl, kv_gCr, kv_nb0, kv_nb1, kv_nbi, kv_nb01, Nat.reduceAdd, Nat.reduceLeDiff, wa, im1, kw_has, bt, show ((0 : Int32) = 1) = False from by decide, bs, kx_a_at, kv_suc, kx_fd, kx_fa, kw_addN, lo, hiM, r3, kw_n0 hx2, kv_tn hx2, awF, or_self, ← e4]
        rw [road]
        by_cases qo : (kx_nw t L (kx_lo g i) (kx_hi g i) (kw_nx t L a + 1)).1 = true
        · rw [if_pos qo] at w3 ⊢
          have c3' := c3' qo
          have v3 := v3 qo
          obtain ⟨u1, u2⟩ := kx_un_g g hg hs hi q
          have w4 : z4 0 4 = -1 := by rw [z40]; exact w3
          have c4 := kx_ctM_fr c3' z40 (f4 1 (by omega))
          have lk := kx_look (d := d + 1) (zl := zl) (show (kx_nw t L (kx_lo g i) (kx_hi g i) (kw_nx t L a + 1)).2.1 ≤ 100000 by omega) c4
          obtain ⟨z5, r5, f5, w5, c5, v5⟩ := ih (kx_nw t L (kx_lo g i) (kx_hi g i) (kw_nx t L a + 1)).2.1 (s ||| 2 ^ i) (upd vs i (kx_nw t L (kx_lo g i) (kx_hi g i) (kw_nx t L a + 1)).2.2) z4 (by omega) u2 w2 c4 w4 (fun j hj => by
            rw [f4A]
            unfold upd
            by_cases qj : j = i
            · rw [if_pos (by omega), if_pos qj]
              exact v3
            · rw [if_neg (by omega), if_neg qj, n3 A hA.1]
              exact va _ j hj)
          refine ⟨z5, ?_, kx_frI_tr fr4 f5, w5, c5, v5⟩
          rw [← r5]
          simp only [kv_e187_108, kv_e187_109, kv_e187_112, kv_e187_113, kv_e187_116, kv_e187_117, kv_e187_118, kv_e187_121, kv_e187_124, kv_e187_127, kv_e187_128, kv_e187_130, kv_o10, not_false_eq_true, not_true, if_true, if_false, kv_then_s, kv_then_v, kv_then_n, List.cons_append, List.nil_append, kv_Ci, kv_Cr, kv_Cn, kv_Cu, kv_C0, kv_catc, kv_gCi, kv_gCl, kv_gCr, kv_nb0, kv_nb1, kv_nbi, kv_nb01, Nat.reduceAdd, Nat.reduceLeDiff, w4, lk, kx_itemOfM hg]
        · rw [if_neg qo] at w3 ⊢
          have w4 : z4 0 4 = Int32.ofNat (kx_nw t L (kx_lo g i) (kx_hi g i) (kw_nx t L a + 1)).2.1 := by rw [z40]; exact w3
          have w4' : (z4 0 4 = -1) = False := by rw [w4]; exact kw_of_m1 (by omega)
          refine ⟨z4, ?_, fr4, by rw [if_pos rfl]; exact w4, fun s => absurd rfl s, fun s => absurd s (by simp)⟩
          simp only [kv_e187_108, kv_e187_109, kv_e187_112, kv_e187_113, kv_e187_116, kv_e187_117, kv_e187_118, kv_e187_121, kv_e187_124, kv_e187_127, kv_e187_128, kv_e187_130, kv_o10, not_false_eq_true, not_true, if_true, if_false, kv_then_s, kv_then_v, kv_then_n, List.cons_append, List.nil_append, kv_Ci, kv_Cr, kv_Cn, kv_Cu, kv_C0, kv_catc, kv_gCi, kv_gCl, kv_gCr, kv_nb0, kv_nb1, kv_nbi, kv_nb01, Nat.reduceAdd, Nat.reduceLeDiff, w4']
          rw [kv_e187_43]
          simp only [kv_e187_44, kv_e187_47, kv_e187_48, kv_e187_51, kv_e187_53, kv_e187_54, kv_e187_57, kv_e187_59, kv_e187_61, kv_e187_64, kv_e187_67, kv_e187_69, kv_e187_70, kv_e187_72, kv_e187_73, kv_e187_74, kv_e187_76, kv_e187_77, kv_e187_78, kv_e187_81, kv_e187_82, kv_e187_83, kv_e187_86, kv_e187_87, kv_e187_88, kv_e187_90, kv_e187_91, kv_e187_92, kv_e187_93, kv_e187_95, kv_e187_98, kv_e187_99, kv_e187_101, kv_e187_104, kv_e187_107, kv_e187_108, kv_e187_109, kv_e187_112, kv_e187_113, kv_e187_116, kv_e187_117, kv_e187_118, kv_e187_121, kv_e187_124, kv_e187_127, kv_e187_128, kv_e187_130, kv_e187_133, kv_o10, not_false_eq_true, not_true, if_true, if_false, kv_then_s, kv_then_v, kv_then_n, List.cons_append, List.nil_append, kv_Ci, kv_Cr, kv_Cn, kv_Cu, kv_C0, kv_catc, kv_gCi, kv_gCl, kv_gCr, kv_nb0, kv_nb1, kv_nbi, kv_nb01, Nat.reduceAdd, Nat.reduceLeDiff, w4']
theorem kx_usualM {g A F k : Nat} (hg : g < 3) (hA : A ≠ 0) (hF : F + kx_ct g ≤ kv_aw kv_shM A) (hF2 : F < 1000) (hk : k = 0 ∨ g = 1) : ∀ m j z, j + m = kx_ct g → (∀ i, i < j → z A (F + i) = kx_us g k i) → ∃ z1, kv_Rn (d + 3) 187 3 [some (.ref 0), some (.int (kx_le g)), some (.ref A), some (.int (Int32.ofNat F)), some (.int (Int32.ofNat (kx_ct g))), some (.int (Int32.ofNat k)), some (.int (Int32.ofNat j)), none] [] (kv_m z zl) = kv_Rn (d + 3) 187 30 [some (.ref 0), some (.int (kx_le g)), some (.ref A), some (.int (Int32.ofNat F)), some (.int (Int32.ofNat (kx_ct g))), some (.int (Int32.ofNat k)), some (.int (Int32.ofNat (kx_ct g))), none] [] (kv_m z1 zl) ∧ (∀ c, c ≠ A → z1 c = z c) ∧ (∀ j, (j < F ∨ F + kx_ct g ≤ j) → z1 A j = z A j) ∧ ∀ i, i < kx_ct g → z1 A (F + i) = kx_us g k i := by
  intro m
  induction m with
  | zero =>
    intro j z hj hv
    have c8 := (kx_ct_8 hg).1
    have hj : j = kx_ct g := by omega
    subst hj
    refine ⟨z, ?_, fun _ _ => rfl, fun _ _ => rfl, hv⟩
    have ge : (Int32.ofNat (kx_ct g) ≤ Int32.ofNat (kx_ct g)) = True := eq_true (Int32.le_refl _)
    rw [kv_e187_3]
    simp only [kv_e187_5, kv_e187_7, kv_e187_10, kv_e187_11, kv_e187_12, kv_e187_14, kv_e187_15, kv_e187_16, kv_e187_18, kv_e187_20, kv_e187_23, kv_e187_24, kv_e187_27, kv_o10, not_false_eq_true, not_true, if_true, if_false, kv_then_s, kv_then_v, kv_then_n, List.cons_append, List.nil_append, kv_Ci, kv_Cr, kv_Cn, kv_Cu, kv_C0, kv_catc, kv_gCi, kv_gCl, kv_gCr, kv_nb0, kv_nb1, kv_nbi, kv_nb01, Nat.reduceAdd, Nat.reduceLeDiff, ge]
  | succ m ih =>
    intro j z hj hv
    have c8 := (kx_ct_8 hg).1
    have hjc : j < kx_ct g := by omega
    have hj2 : F + j < 2147483648 := by omega
    have ge : (Int32.ofNat (kx_ct g) ≤ Int32.ofNat j) = False := kv_ln_ hjc (by omega)
    have us := fun h => kx_usM (d := d + 2) hg hjc hk (h := h)
    have awF : (kv_aw kv_shM A ≤ F + j) = False := eq_false (by omega)
    obtain ⟨z4, e4⟩ : ∃ y, y = kv_z z A (upd (z A) (F + j) (kx_us g k j)) := ⟨_, rfl⟩
    have f4 : ∀ c, c ≠ A → z4 c = z c := fun c h => by rw [e4]; exact kv_zne _ _ h
    have f4A : z4 A = upd (z A) (F + j) (kx_us g k j) := by rw [e4]; exact kv_zs _ _ _
    obtain ⟨z1, r1, f1, g1, v1⟩ := ih (j + 1) z4 (by omega) (fun i hi => by
      rw [f4A]
      unfold upd
      by_cases q : i = j
      · rw [if_pos (by omega), q]
      · rw [if_neg (by omega)]
        exact hv i (by omega))
    refine ⟨z1, ?_, fun c h => (f1 c h).trans (f4 c h), fun i hi => (g1 i hi).trans (by rw [f4A]; exact if_neg (by omega)), v1⟩
    rw [← r1]
    conv => lhs; rw [kv_e187_3]
    simp only [kv_e187_5, kv_e187_7, kv_e187_10, kv_e187_11, kv_e187_12, kv_e187_14, kv_e187_15, kv_e187_16, kv_e187_18, kv_e187_20, kv_e187_23, kv_e187_24, kv_e187_27, kv_o10, not_false_eq_true, not_true, if_true, if_false, kv_then_s, kv_then_v, kv_then_n, List.cons_append, List.nil_append, kv_Ci, kv_Cr, kv_Cn, kv_Cu, kv_C0, kv_catc, kv_gCi, kv_gCl, kv_gCr, kv_nb0, kv_nb1, kv_nbi, kv_nb01, Nat.reduceAdd, Nat.reduceLeDiff, ge, kw_addN, us, kw_n0 hj2, kv_tn hj2, awF, or_self, ← e4, kv_suc]
theorem kx_itemsM {g A F k : Nat} (hg : g < 3) (hA : A ≠ 0 ∧ A ≠ 1) (hF : F + kx_ct g ≤ kv_aw kv_shM A) (hF2 : F < 1000) (hk : k = 0 ∨ g = 1) (ha : a ≤ L) (hc : kx_ctM t L a z) (hw : z 0 4 = -1) : ∃ z', kv_Rn (d + 3) 187 0 [some (.ref 0), some (.int (kx_le g)), some (.ref A), some (.int (Int32.ofNat F)), some (.int (Int32.ofNat (kx_ct g))), some (.int (Int32.ofNat k)), none, none] [] (kv_m z zl) = some (none, kv_m z' zl) ∧ kx_frI A F (kx_ct g) z z' ∧ z' 0 4 = (if (kx_it t L g (kx_ct g + 1) a 0 (kx_us g k)).1 = 2 then Int32.ofNat (kx_it t L g (kx_ct g + 1) a 0 (kx_us g k)).2.1 else -1) ∧ (¬ (kx_it t L g (kx_ct g + 1) a 0 (kx_us g k)).1 = 2 → kx_ctM t L (kx_it t L g (kx_ct g + 1) a 0 (kx_us g k)).2.1 z') ∧ ((kx_it t L g (kx_ct g + 1) a 0 (kx_us g k)).1 = 0 → ∀ i, i < kx_ct g → z' A (F + i) = (kx_it t L g (kx_ct g + 1) a 0 (kx_us g k)).2.2 i) := by
  have hL := hc.1.2
  have u0 : kx_un (kx_ct g) 0 = kx_ct g := by
    match g, hg with
    | 0, _ => rfl
    | 1, _ => rfl
    | 2, _ => rfl
  obtain ⟨z1, r1, f1, g1, v1⟩ := kx_usualM (d := d) (zl := zl) (k := k) hg hA.1 hF hF2 hk (kx_ct g) 0 z (Nat.zero_add _) (fun i hi => absurd hi (Nat.not_lt_zero _))
  have c1 := kx_ctM_fr hc (f1 0 (fun s => hA.1 s.symm)) (f1 1 (fun s => hA.2 s.symm))
  have w1 : z1 0 4 = -1 := by rw [f1 0 (fun s => hA.1 s.symm)]; exact hw
  obtain ⟨z2, r2, f2, w2, c2, v2⟩ := kx_itM (d := d) (zl := zl) (t := t) (L := L) hg hA hF hF2 (Int32.ofNat (kx_ct g)) (Int32.ofNat k) (kx_ct g + 1) a 0 (kx_us g k) z1 (by omega) (Nat.pow_pos (by decide)) ha c1 w1 v1
  refine ⟨z2, ?_, kx_frI_tr ⟨fun c a1 a2 => f1 c a2, fun j _ _ => by rw [f1 0 (fun s => hA.1 s.symm)], g1⟩ f2, w2, c2, v2⟩
  have lk := kx_look (d := d + 1) (zl := zl) (show a ≤ 100000 by omega) c1
  have r1 : kv_Rn (d + 3) 187 3 [some (.ref 0), some (.int (kx_le g)), some (.ref A), some (.int (Int32.ofNat F)), some (.int (Int32.ofNat (kx_ct g))), some (.int (Int32.ofNat k)), some (.int 0), none] [] (kv_m z zl) = kv_Rn (d + 3) 187 30 [some (.ref 0), some (.int (kx_le g)), some (.ref A), some (.int (Int32.ofNat F)), some (.int (Int32.ofNat (kx_ct g))), some (.int (Int32.ofNat k)), some (.int (Int32.ofNat (kx_ct g))), none] [] (kv_m z1 zl) := r1
  have r2 : kv_Rn (d + 3) 187 43 [some (.ref 0), some (.int (kx_le g)), some (.ref A), some (.int (Int32.ofNat F)), some (.int (Int32.ofNat (kx_ct g))), some (.int (Int32.ofNat k)), some (.int 0), some (.int (kx_ix g (kx_sg t L (kw_nx t L a))))] [] (kv_m (kx_a z1 (kw_nx t L a)) zl) = some (none, kv_m z2 zl) := r2
  rw [← r2]
  simp only [kv_e187_0, kv_e187_1, kv_o10, not_false_eq_true, not_true, if_true, if_false, kv_then_s, kv_then_v, kv_then_n, List.cons_append, List.nil_append, kv_Ci, kv_Cr, kv_Cn, kv_Cu, kv_C0, kv_catc, kv_gCi, kv_gCl, kv_gCr, kv_nb0, kv_nb1, kv_nbi, kv_nb01, Nat.reduceAdd, Nat.reduceLeDiff, r1]
  simp only [kv_e187_30, kv_e187_31, kv_e187_33, kv_e187_34, kv_e187_35, kv_e187_38, kv_e187_41, kv_o10, not_false_eq_true, not_true, if_true, if_false, kv_then_s, kv_then_v, kv_then_n, List.cons_append, List.nil_append, kv_Ci, kv_Cr, kv_Cn, kv_Cu, kv_C0, kv_catc, kv_gCi, kv_gCl, kv_gCr, kv_nb0, kv_nb1, kv_nbi, kv_nb01, Nat.reduceAdd, Nat.reduceLeDiff, lk, kx_itemOfM hg]
end
