/-! fields as texts: the class's items -/
section
variable {d L a : Nat} {e : List kv_E} {t : Nat → Int32} {z : Nat → Nat → Int32} {zl : Nat → Nat → Int64}
theorem kx_withinK {lo hi : Int32} (ha : a ≤ L) (h : kw_ctK t L a z) : ∃ z', kv_Rn (d + 2) 80 0 [some (.ref 1), some (.int 2), some (.int lo), some (.int hi)] [] (kv_h e z zl) = some (some (.int (if (kx_nw t L lo hi a).1 = true then 1 else 0)), kv_h e z' zl) ∧ (∀ c, c ≠ 1 → z' c = z c) ∧ kw_ctK t L (kx_nw t L lo hi a).2.1 z' ∧ ((kx_nw t L lo hi a).1 = true → z' 1 3 = (kx_nw t L lo hi a).2.2) := by
  have hL := h.1.2
  obtain ⟨v, r, hv⟩ := kw_numberK (d := d) (e := e) (zl := zl) (k := 2) (by omega) (show a ≤ 100000 by omega) h
  rw [show Int32.ofNat 2 = (2 : Int32) from rfl] at r
  obtain ⟨⟨w1, w2⟩, w3⟩ := kx_nu_W (t := t) ha
  obtain ⟨z1, e1⟩ : ∃ z1, z1 = kv_z z 1 (upd (upd (z 1) 2 (Int32.ofNat (kw_nu t L 2 a).2.1)) 3 v) := ⟨_, rfl⟩
  have g11 : z1 1 1 = z 1 1 := by rw [e1, kv_zs]; rfl
  have g12 : z1 1 2 = Int32.ofNat (kw_nu t L 2 a).2.1 := by rw [e1, kv_zs]; rfl
  have g13 : z1 1 3 = v := by rw [e1, kv_zs]; rfl
  have f1 : ∀ c, c ≠ 1 → z1 c = z c := fun c hc => by rw [e1]; exact kv_zne _ _ hc
  have c1 : kw_ctK t L (kw_nu t L 2 a).2.1 z1 := ⟨⟨by rw [g11]; exact h.1.1, hL⟩, g12, by rw [f1 2 (by omega)]; exact h.2.2⟩
  rw [← e1] at r
  by_cases q : (kw_nu t L 2 a).1 = true
  · rw [if_pos q] at r
    have hd : kw_isd (kx_sg t L (kw_nx t L a)) := by
      by_cases hd : kw_isd (kx_sg t L (kw_nx t L a))
      · exact hd
      · rw [kx_nu_0 hd] at q
        exact absurd q (by simp)
    have hv := hv hd
    have g13 : z1 1 3 = Int32.ofNat (kw_nu t L 2 a).2.2 := g13.trans hv
    have pre : Int32.ofNat (kw_nu t L 2 a).2.1 - 1 = Int32.ofNat ((kw_nu t L 2 a).2.1 - 1) := by
      have := w3 q
      obtain ⟨m, hm⟩ : ∃ m, (kw_nu t L 2 a).2.1 = m + 1 := ⟨(kw_nu t L 2 a).2.1 - 1, by omega⟩
      rw [hm, kv_pre]
      rfl
    by_cases g1 : lo ≤ Int32.ofNat (kw_nu t L 2 a).2.2
    · have g1' : (Int32.ofNat (kw_nu t L 2 a).2.2 < lo) = False := eq_false (Int32.not_lt.mpr g1)
      by_cases g2 : Int32.ofNat (kw_nu t L 2 a).2.2 ≤ hi
      · rw [kx_nw_1 q ⟨g1, g2⟩]
        refine ⟨z1, ?_, f1, c1, fun _ => g13⟩
        simp only [kv_e80_0, kv_e80_1, kv_e80_2, kv_e80_5, kv_e80_8, kv_e80_9, kv_e80_10, kv_e80_11, kv_e80_14, kv_e80_15, kv_e80_18, kv_e80_19, kv_e80_22, kv_e80_23, kv_e80_26, kv_e80_27, kv_e80_28, kv_e80_31, kv_e80_32, kv_e80_33, kv_e80_36, kv_e80_37, kv_e80_38, kv_e80_39, kv_o10, not_false_eq_true, not_true, if_true, if_false, kv_then_s, kv_then_v, kv_then_n, List.cons_append, List.nil_append, kv_Ci, kv_Cr, kv_Cn, kv_Cu, kv_C0, kv_catc, kv_gCi, kv_gCl, kv_gCr, kv_nb0, kv_nb1, kv_nbi, kv_nb01, Nat.reduceAdd, Nat.reduceLeDiff, r, g13, g1', g2]
      · rw [kx_nw_2 q (fun s => g2 s.2)]
        refine ⟨kv_z z1 1 (upd (z1 1) 2 (Int32.ofNat ((kw_nu t L 2 a).2.1 - 1))), ?_, fun c hc => (kv_zne _ _ hc).trans (f1 c hc), kw_ctK_a c1, fun s => absurd s (by simp)⟩
        simp only [kv_e80_0, kv_e80_1, kv_e80_2, kv_e80_5, kv_e80_8, kv_e80_9, kv_e80_10, kv_e80_11, kv_e80_14, kv_e80_15, kv_e80_18, kv_e80_19, kv_e80_22, kv_e80_23, kv_e80_26, kv_e80_27, kv_e80_28, kv_e80_31, kv_e80_32, kv_e80_33, kv_e80_36, kv_e80_37, kv_e80_38, kv_e80_39, kv_o10, not_false_eq_true, not_true, if_true, if_false, kv_then_s, kv_then_v, kv_then_n, List.cons_append, List.nil_append, kv_Ci, kv_Cr, kv_Cn, kv_Cu, kv_C0, kv_catc, kv_gCi, kv_gCl, kv_gCr, kv_nb0, kv_nb1, kv_nbi, kv_nb01, Nat.reduceAdd, Nat.reduceLeDiff, r, g13, g1', g2, g12, pre, Bool.false_eq_true]
    · have g1' : (Int32.ofNat (kw_nu t L 2 a).2.2 < lo) = True := eq_true (Int32.not_le.mp g1)
      rw [kx_nw_2 q (fun s => g1 s.1)]
      refine ⟨kv_z z1 1 (upd (z1 1) 2 (Int32.ofNat ((kw_nu t L 2 a).2.1 - 1))), ?_, fun c hc => (kv_zne _ _ hc).trans (f1 c hc), kw_ctK_a c1, fun s => absurd s (by simp)⟩
      simp only [kv_e80_0, kv_e80_1, kv_e80_2, kv_e80_5, kv_e80_8, kv_e80_9, kv_e80_10, kv_e80_11, kv_e80_14, kv_e80_15, kv_e80_18, kv_e80_19, kv_e80_22, kv_e80_23, kv_e80_26, kv_e80_27, kv_e80_28, kv_e80_31, kv_e80_32, kv_e80_33, kv_e80_36, kv_e80_37, kv_e80_38, kv_e80_39, kv_o10, not_false_eq_true, not_true, if_true, if_false, kv_then_s, kv_then_v, kv_then_n, List.cons_append, List.nil_append, kv_Ci, kv_Cr, kv_Cn, kv_Cu, kv_C0, kv_catc, kv_gCi, kv_gCl, kv_gCr, kv_nb0, kv_nb1, kv_nbi, kv_nb01, Nat.reduceAdd, Nat.reduceLeDiff, r, g13, g1', g12, pre, Bool.false_eq_true]
  · rw [if_neg q] at r
    rw [kx_nw_0 q]
    refine ⟨z1, ?_, f1, c1, fun s => absurd s (by simp)⟩
    simp only [kv_e80_0, kv_e80_1, kv_e80_2, kv_e80_5, kv_e80_8, kv_e80_9, kv_e80_10, kv_e80_11, kv_e80_14, kv_e80_15, kv_e80_18, kv_e80_19, kv_e80_22, kv_e80_23, kv_e80_26, kv_e80_27, kv_e80_28, kv_e80_31, kv_e80_32, kv_e80_33, kv_e80_36, kv_e80_37, kv_e80_38, kv_e80_39, kv_o10, not_false_eq_true, not_true, if_true, if_false, kv_then_s, kv_then_v, kv_then_n, List.cons_append, List.nil_append, kv_Ci, kv_Cr, kv_Cn, kv_Cu, kv_C0, kv_catc, kv_gCi, kv_gCl, kv_gCr, kv_nb0, kv_nb1, kv_nbi, kv_nb01, Nat.reduceAdd, Nat.reduceLeDiff, r, Bool.false_eq_true]
theorem kx_ct_8 {g : Nat} (hg : g < 3) : kx_ct g ≤ 8 ∧ 3 ≤ kx_ct g := by
  match g, hg with
  | 0, _ => decide
  | 1, _ => decide
  | 2, _ => decide
theorem kx_lenK {g : Nat} (hg : g < 3) {h : kv_H} : kv_Rn (d + 3) 273 0 [some (.ref (306 + g))] [] h = some (some (.int (Int32.ofNat (kx_ct g))), h) := by
  match g, hg with
  | 0, _ =>
    simp only [kv_e273_0, kv_e273_1_0, kv_e273_1_1, kv_e273_1_2, kv_e273_1_3, kv_e273_4_0, kv_e273_4_1, kv_e273_4_2, kv_e273_4_3, kv_e273_5, kv_e273_6, kv_e273_9, kv_e273_10, kv_e275_0, kv_e275_1, kv_e275_4, kv_e275_7, kv_e275_8_0, kv_e275_8_1, kv_e275_8_2, kv_e275_8_3, kv_e275_11, kv_e275_12, kv_e275_13, kv_e275_14, kv_e275_17, kv_e275_20, kv_e275_23, kv_e275_24_0, kv_e275_24_1, kv_e275_24_2, kv_e275_24_3, kv_e275_27, kv_e275_28, kv_e275_29, kv_e275_30, kv_e275_36, kv_e276_0, kv_e276_3, kv_e276_6, kv_e276_7_0, kv_e276_7_1, kv_e276_7_2, kv_e276_7_3, kv_e276_10, kv_e276_13, kv_e276_14, kv_e277_0, kv_e277_3, kv_e277_6, kv_e277_7_0, kv_e277_7_1, kv_e277_7_2, kv_e277_7_3, kv_e277_10, kv_e277_13, kv_e277_14, kv_e277_17, kv_e277_18, kv_e278_0, kv_e278_1, kv_e278_4, kv_e278_5, kv_e278_8, kv_e278_11, kv_e278_12, kv_e278_15, kv_e278_16, kv_e279_0, kv_e279_1, kv_e279_4, kv_e279_7, kv_e279_8, kv_e279_9, kv_e279_10, kv_e279_11, kv_e279_14, kv_e279_15, kv_e279_16, kv_e279_17_0, kv_e279_17_1, kv_e279_17_2, kv_e279_17_3, kv_e279_18, kv_e279_21, kv_e279_22, kv_e279_23, kv_e279_24, kv_e279_27, kv_e279_28, kv_e279_29, kv_e279_30, kv_e279_31, kv_e279_32, kv_e279_33, kv_e279_36, kv_o10, not_false_eq_true, not_true, if_true, if_false, kv_then_s, kv_then_v, kv_then_n, List.cons_append, List.nil_append, kv_Ci, kv_Cr, kv_Cn, kv_Cu, kv_C0, kv_catc, kv_gCi, kv_gCl, kv_gCr, kv_nb0, kv_nb1, kv_nbi, kv_nb01, Nat.reduceAdd, Nat.reduceLeDiff, Nat.add_zero, and_self, Nat.reduceLT, Nat.le_refl, show (narrow .byte (.int 0) = .int 0) = True from eq_true rfl, show ((4 : Int32) >>> ((0 : Int32) &&& 31)) = 4 from by decide]
    rfl
  | 1, _ =>
    simp only [kv_e273_0, kv_e273_1_0, kv_e273_1_1, kv_e273_1_2, kv_e273_1_3, kv_e273_4_0, kv_e273_4_1, kv_e273_4_2, kv_e273_4_3, kv_e273_5, kv_e273_6, kv_e273_9, kv_e273_10, kv_e275_0, kv_e275_1, kv_e275_4, kv_e275_7, kv_e275_8_0, kv_e275_8_1, kv_e275_8_2, kv_e275_8_3, kv_e275_11, kv_e275_12, kv_e275_13, kv_e275_14, kv_e275_17, kv_e275_20, kv_e275_23, kv_e275_24_0, kv_e275_24_1, kv_e275_24_2, kv_e275_24_3, kv_e275_27, kv_e275_28, kv_e275_29, kv_e275_30, kv_e275_36, kv_e276_0, kv_e276_3, kv_e276_6, kv_e276_7_0, kv_e276_7_1, kv_e276_7_2, kv_e276_7_3, kv_e276_10, kv_e276_13, kv_e276_14, kv_e277_0, kv_e277_3, kv_e277_6, kv_e277_7_0, kv_e277_7_1, kv_e277_7_2, kv_e277_7_3, kv_e277_10, kv_e277_13, kv_e277_14, kv_e277_17, kv_e277_18, kv_e278_0, kv_e278_1, kv_e278_4, kv_e278_5, kv_e278_8, kv_e278_11, kv_e278_12, kv_e278_15, kv_e278_16, kv_e279_0, kv_e279_1, kv_e279_4, kv_e279_7, kv_e279_8, kv_e279_9, kv_e279_10, kv_e279_11, kv_e279_14, kv_e279_15, kv_e279_16, kv_e279_17_0, kv_e279_17_1, kv_e279_17_2, kv_e279_17_3, kv_e279_18, kv_e279_21, kv_e279_22, kv_e279_23, kv_e279_24, kv_e279_27, kv_e279_28, kv_e279_29, kv_e279_30, kv_e279_31, kv_e279_32, kv_e279_33, kv_e279_36, kv_o10, not_false_eq_true, not_true, if_true, if_false, kv_then_s, kv_then_v, kv_then_n, List.cons_append, List.nil_append, kv_Ci, kv_Cr, kv_Cn, kv_Cu, kv_C0, kv_catc, kv_gCi, kv_gCl, kv_gCr, kv_nb0, kv_nb1, kv_nbi, kv_nb01, Nat.reduceAdd, Nat.reduceLeDiff, Nat.add_zero, and_self, Nat.reduceLT, Nat.le_refl, show (narrow .byte (.int 0) = .int 0) = True from eq_true rfl, show ((8 : Int32) >>> ((0 : Int32) &&& 31)) = 8 from by decide]
    rfl
  | 2, _ =>
    simp only [kv_e273_0, kv_e273_1_0, kv_e273_1_1, kv_e273_1_2, kv_e273_1_3, kv_e273_4_0, kv_e273_4_1, kv_e273_4_2, kv_e273_4_3, kv_e273_5, kv_e273_6, kv_e273_9, kv_e273_10, kv_e275_0, kv_e275_1, kv_e275_4, kv_e275_7, kv_e275_8_0, kv_e275_8_1, kv_e275_8_2, kv_e275_8_3, kv_e275_11, kv_e275_12, kv_e275_13, kv_e275_14, kv_e275_17, kv_e275_20, kv_e275_23, kv_e275_24_0, kv_e275_24_1, kv_e275_24_2, kv_e275_24_3, kv_e275_27, kv_e275_28, kv_e275_29, kv_e275_30, kv_e275_36, kv_e276_0, kv_e276_3, kv_e276_6, kv_e276_7_0, kv_e276_7_1, kv_e276_7_2, kv_e276_7_3, kv_e276_10, kv_e276_13, kv_e276_14, kv_e277_0, kv_e277_3, kv_e277_6, kv_e277_7_0, kv_e277_7_1, kv_e277_7_2, kv_e277_7_3, kv_e277_10, kv_e277_13, kv_e277_14, kv_e277_17, kv_e277_18, kv_e278_0, kv_e278_1, kv_e278_4, kv_e278_5, kv_e278_8, kv_e278_11, kv_e278_12, kv_e278_15, kv_e278_16, kv_e279_0, kv_e279_1, kv_e279_4, kv_e279_7, kv_e279_8, kv_e279_9, kv_e279_10, kv_e279_11, kv_e279_14, kv_e279_15, kv_e279_16, kv_e279_17_0, kv_e279_17_1, kv_e279_17_2, kv_e279_17_3, kv_e279_18, kv_e279_21, kv_e279_22, kv_e279_23, kv_e279_24, kv_e279_27, kv_e279_28, kv_e279_29, kv_e279_30, kv_e279_31, kv_e279_32, kv_e279_33, kv_e279_36, kv_o10, not_false_eq_true, not_true, if_true, if_false, kv_then_s, kv_then_v, kv_then_n, List.cons_append, List.nil_append, kv_Ci, kv_Cr, kv_Cn, kv_Cu, kv_C0, kv_catc, kv_gCi, kv_gCl, kv_gCr, kv_nb0, kv_nb1, kv_nbi, kv_nb01, Nat.reduceAdd, Nat.reduceLeDiff, Nat.add_zero, and_self, Nat.reduceLT, Nat.le_refl, show (narrow .byte (.int 0) = .int 0) = True from eq_true rfl, show ((3 : Int32) >>> ((0 : Int32) &&& 31)) = 3 from by decide]
    rfl
theorem kx_idxK {g : Nat} (hg : g < 3) {c : Int32} (hc : kw_rg c 1 255) {h : kv_H} : kv_Rn (d + 3) 274 0 [some (.ref (306 + g)), some (.int (c.toUInt32 % 65536).toInt32)] [] h = some (some (.int (kx_ix g c)), h) := by
  obtain ⟨k, hk⟩ : ∃ k : Fin 256, c = Int32.ofNat k.val := by
    obtain ⟨h1, h2⟩ := hc
    refine ⟨⟨c.toInt.toNat, by omega⟩, ?_⟩
    apply Int32.toInt.inj
    rw [Int32.toInt_ofNat_of_lt (show c.toInt.toNat < 2147483648 by omega)]
    show c.toInt = ((c.toInt.toNat : Nat) : Int)
    omega
  obtain ⟨⟨e1, e2⟩, e3⟩ := kx_ch k
  rw [hk, e1]
  match g, hg with
  | 0, _ => rw [← kx_ix_0 k]; exact kx_io0 (eq_false e2) (eq_false e3)
  | 1, _ => rw [← kx_ix_1 k]; exact kx_io1 (eq_false e2) (eq_false e3)
  | 2, _ => rw [← kx_ix_2 k]; exact kx_io2 (eq_false e2) (eq_false e3)
theorem kx_arSA {g : Nat} (hg : g < 3) (sh : List kv_E) : kv_ar sh (300 + 2 * g) = kx_ct g ∧ kv_ar sh (300 + 2 * g + 1) = kx_ct g := by
  match g, hg with
  | 0, _ => exact ⟨rfl, rfl⟩
  | 1, _ => exact ⟨rfl, rfl⟩
  | 2, _ => exact ⟨rfl, rfl⟩
theorem kx_rdSA {g : Nat} (hg : g < 3) (z : Nat → Nat → Int32) (i : Nat) : kv_rd z (300 + 2 * g) i = kx_lo g i ∧ kv_rd z (300 + 2 * g + 1) i = kx_hi g i := by
  match g, hg with
  | 0, _ => exact ⟨rfl, rfl⟩
  | 1, _ => exact ⟨rfl, rfl⟩
  | 2, _ => exact ⟨rfl, rfl⟩
theorem kx_itK (ht : ∀ i, i < L → kw_rg (t i) 1 255) {g : Nat} (hg : g < 3) : ∀ f k a s vs z u6 u7, f = kx_un (kx_ct g) s + 1 → k + kx_un (kx_ct g) s = kx_ct g → s < 2 ^ kx_ct g → a ≤ L → kw_ctK t L a z → (∀ i, i < 8 → z 22 i = vs i) → ∃ z', kv_Rn (d + 4) 19 19 [some (.ref 21), some (.ref (306 + g)), some (.ref (300 + 2 * g)), some (.ref (300 + 2 * g + 1)), some (.int (Int32.ofNat s)), some (.int (Int32.ofNat k)), u6, u7] [] (kv_h e z zl) = some (some (.int (if (kx_it t L g f a s vs).1 = 0 then 1 else 0)), kv_h e z' zl) ∧ (∀ c, c ≠ 1 → c ≠ 22 → z' c = z c) ∧ kw_ctK t L (kx_it t L g f a s vs).2.1 z' ∧ ((kx_it t L g f a s vs).1 = 0 → ∀ i, i < 8 → z' 22 i = (kx_it t L g f a s vs).2.2 i) := by
  intro f
  induction f with
  | zero => intro k a s vs z u6 u7 hf; omega
  | succ f ih =>
    intro k a s vs z u6 u7 hf hk hs ha hc hv
    have hL := hc.1.2
    obtain ⟨c8, c3⟩ := kx_ct_8 hg
    have n1 := kw_nx_le t L a
    have n2 := kw_nx_L (t := t) ha
    have sg := kw_signK (d := d + 3) (e := e) (zl := zl) (show a ≤ 100000 by omega) hc
    have c1 := kw_ctK_a (b := kw_nx t L a) hc
    have len := fun h => kx_lenK (d := d) hg (h := h)
    have o306 : 306 ≤ 306 + g ∧ 306 + g < 310 := ⟨by omega, by omega⟩
    have lk : (Int32.ofNat (kx_ct g) < Int32.ofNat k) = False := eq_false (Int32.not_lt.mpr (by rw [kv_nle (by omega) (by omega)]; omega))
    have fz : ∀ c, c ≠ 1 → kw_aK z (kw_nx t L a) c = z c := fun c h => kw_aK_fr _ _ h
    rcases kx_ix_r g hg (kx_sg t L (kw_nx t L a)) with h | ⟨i, hi, h⟩
    · rw [kx_it_1 h]
      refine ⟨kw_aK z (kw_nx t L a), ?_, fun c a1 _ => fz c a1, c1, fun _ i hi => by rw [fz 22 (by omega)]; exact hv i hi⟩
      rw [kv_e19_19]
      by_cases q1 : kx_sg t L (kw_nx t L a) = -1
      · rw [if_pos (Or.inl q1)]
        simp only [kv_e19_21, kv_e19_22, kv_e19_25, kv_e19_28, kv_e19_29, kv_e19_32, kv_e19_35, kv_e19_37, kv_e19_39, kv_e19_40, kv_e19_43, kv_e19_45, kv_e19_47, kv_e19_50, kv_e19_51, kv_e19_52, kv_e19_53, kv_e19_55, kv_e19_56, kv_e19_59, kv_e19_61, kv_e19_63, kv_e19_66, kv_e19_68, kv_e19_69, kv_e19_70, kv_e19_73, kv_e19_75, kv_e19_76, kv_e19_77, kv_e19_80, kv_e19_82, kv_e19_83, kv_e19_86, kv_e19_87, kv_e19_90, kv_e19_92, kv_e19_94, kv_e19_95, kv_e19_96, kv_e19_97, kv_e19_100, kv_e19_101, kv_e19_102, kv_e19_103, kv_e19_106, kv_e19_107, kv_e19_110, kv_e19_111, kv_e19_112, kv_e19_115, kv_e19_116, kv_e19_119, kv_e19_120, kv_e19_121, kv_e19_123, kv_e19_124, kv_e19_125, kv_e19_127, kv_e19_128, kv_e19_131, kv_e19_134, kv_e19_135, kv_e19_136, kv_e19_137, kv_e19_140, kv_e19_142, kv_e19_143, kv_e19_146, kv_e19_149, kv_e19_150, kv_e19_152, kv_e19_153, kv_e19_155, kv_e19_156, kv_e19_157, kv_e19_159, kv_e19_162, kv_e19_165, kv_o10, not_false_eq_true, not_true, if_true, if_false, kv_then_s, kv_then_v, kv_then_n, List.cons_append, List.nil_append, kv_Ci, kv_Cr, kv_Cn, kv_Cu, kv_C0, kv_catc, kv_gCi, kv_gCl, kv_gCr, kv_nb0, kv_nb1, kv_nbi, kv_nb01, Nat.reduceAdd, Nat.reduceLeDiff, len, o306, and_self, lk, sg, q1]
      · by_cases q2 : kx_sg t L (kw_nx t L a) = 59
        · rw [if_pos (Or.inr q2)]
          simp only [kv_e19_21, kv_e19_22, kv_e19_25, kv_e19_28, kv_e19_29, kv_e19_32, kv_e19_35, kv_e19_37, kv_e19_39, kv_e19_40, kv_e19_43, kv_e19_45, kv_e19_47, kv_e19_50, kv_e19_51, kv_e19_52, kv_e19_53, kv_e19_55, kv_e19_56, kv_e19_59, kv_e19_61, kv_e19_63, kv_e19_66, kv_e19_68, kv_e19_69, kv_e19_70, kv_e19_73, kv_e19_75, kv_e19_76, kv_e19_77, kv_e19_80, kv_e19_82, kv_e19_83, kv_e19_86, kv_e19_87, kv_e19_90, kv_e19_92, kv_e19_94, kv_e19_95, kv_e19_96, kv_e19_97, kv_e19_100, kv_e19_101, kv_e19_102, kv_e19_103, kv_e19_106, kv_e19_107, kv_e19_110, kv_e19_111, kv_e19_112, kv_e19_115, kv_e19_116, kv_e19_119, kv_e19_120, kv_e19_121, kv_e19_123, kv_e19_124, kv_e19_125, kv_e19_127, kv_e19_128, kv_e19_131, kv_e19_134, kv_e19_135, kv_e19_136, kv_e19_137, kv_e19_140, kv_e19_142, kv_e19_143, kv_e19_146, kv_e19_149, kv_e19_150, kv_e19_152, kv_e19_153, kv_e19_155, kv_e19_156, kv_e19_157, kv_e19_159, kv_e19_162, kv_e19_165, kv_o10, not_false_eq_true, not_true, if_true, if_false, kv_then_s, kv_then_v, kv_then_n, List.cons_append, List.nil_append, kv_Ci, kv_Cr, kv_Cn, kv_Cu, kv_C0, kv_catc, kv_gCi, kv_gCl, kv_gCr, kv_nb0, kv_nb1, kv_nbi, kv_nb01, Nat.reduceAdd, Nat.reduceLeDiff, len, o306, and_self, lk, sg, q2, show ((59 : Int32) = -1) = False from by decide]
        · rw [if_neg (show ¬ (kx_sg t L (kw_nx t L a) = -1 ∨ kx_sg t L (kw_nx t L a) = 59) from fun s => s.elim q1 q2)]
          have hlt := kx_sg_ne (t := t) (L := L) (a := kw_nx t L a) q1
          have ix := fun h => kx_idxK (d := d) hg (c := kx_sg t L (kw_nx t L a)) (by rw [kx_sg_lt hlt]; exact ht _ hlt) (h := h)
          simp only [kv_e19_21, kv_e19_22, kv_e19_25, kv_e19_28, kv_e19_29, kv_e19_32, kv_e19_35, kv_e19_37, kv_e19_39, kv_e19_40, kv_e19_43, kv_e19_45, kv_e19_47, kv_e19_50, kv_e19_51, kv_e19_52, kv_e19_53, kv_e19_55, kv_e19_56, kv_e19_59, kv_e19_61, kv_e19_63, kv_e19_66, kv_e19_68, kv_e19_69, kv_e19_70, kv_e19_73, kv_e19_75, kv_e19_76, kv_e19_77, kv_e19_80, kv_e19_82, kv_e19_83, kv_e19_86, kv_e19_87, kv_e19_90, kv_e19_92, kv_e19_94, kv_e19_95, kv_e19_96, kv_e19_97, kv_e19_100, kv_e19_101, kv_e19_102, kv_e19_103, kv_e19_106, kv_e19_107, kv_e19_110, kv_e19_111, kv_e19_112, kv_e19_115, kv_e19_116, kv_e19_119, kv_e19_120, kv_e19_121, kv_e19_123, kv_e19_124, kv_e19_125, kv_e19_127, kv_e19_128, kv_e19_131, kv_e19_134, kv_e19_135, kv_e19_136, kv_e19_137, kv_e19_140, kv_e19_142, kv_e19_143, kv_e19_146, kv_e19_149, kv_e19_150, kv_e19_152, kv_e19_153, kv_e19_155, kv_e19_156, kv_e19_157, kv_e19_159, kv_e19_162, kv_e19_165, kv_o10, not_false_eq_true, not_true, if_true, if_false, kv_then_s, kv_then_v, kv_then_n, List.cons_append, List.nil_append, kv_Ci, kv_Cr, kv_Cn, kv_Cu, kv_C0, kv_catc, kv_gCi, kv_gCl, kv_gCr, kv_nb0, kv_nb1, kv_nbi, kv_nb01, Nat.reduceAdd, Nat.reduceLeDiff, len, o306, and_self, lk, sg, q1, q2, ix, h, show ((-1 : Int32) < 0) = True from by decide, show ((1 : Nat) = 0) = False from by decide]
    · have hi8 : i < 8 := by omega
      have hi2 : i < 2147483648 := by omega
      have hm1 := (kx_ix_m1 g hg).1
      have hm59 := (kx_ix_m1 g hg).2
      have q1 : ¬ kx_sg t L (kw_nx t L a) = -1 := fun s => by
        rw [s, hm1, eq_comm, kw_of_m1 hi2] at h
        exact h
      have q2 : ¬ kx_sg t L (kw_nx t L a) = 59 := fun s => by
        rw [s, hm59, eq_comm, kw_of_m1 hi2] at h
        exact h
      have hlt := kx_sg_ne (t := t) (L := L) (a := kw_nx t L a) q1
      have ix := fun h => kx_idxK (d := d) hg (c := kx_sg t L (kw_nx t L a)) (by rw [kx_sg_lt hlt]; exact ht _ hlt) (h := h)
      have i0 : (Int32.ofNat i < 0) = False := kw_n0 hi2
      have r300 : (300 ≤ 300 + 2 * g) = True := eq_true (by omega)
      have r306 : (300 + 2 * g < 306) = True := eq_true (by omega)
      have r300' : (300 ≤ 300 + 2 * g + 1) = True := eq_true (by omega)
      have r306' : (300 + 2 * g + 1 < 306) = True := eq_true (by omega)
      have ia22 : kv_ia (kv_shK ++ e) 22 := ⟨by decide, 8, kv_k_get e rfl⟩
      have aw22 : kv_aw (kv_shK ++ e) 22 = 8 := kv_aw_k e rfl (by decide)
      have cti : (Int32.ofNat (kx_ct g) ≤ Int32.ofNat i) = False := kv_ln_ hi (by omega)
      have cti8 : (Int32.ofNat 8 ≤ Int32.ofNat i) = False := kv_ln_ hi8 (by omega)
      have lcti : (kx_ct g ≤ i) = False := eq_false (by omega)
      have sa := fun sh => (kx_arSA hg sh).1
      have sa' := fun sh => (kx_arSA hg sh).2
      have sr := fun z i => (kx_rdSA hg z i).1
      have sr' := fun z i => (kx_rdSA hg z i).2
      have hs8 : s < 256 := Nat.lt_of_lt_of_le hs (by have := Nat.pow_le_pow_right (show 0 < 2 by decide) c8; omega)
      have bt := kx_bt (h := s) (p := i) (by omega) (by omega)
      have bs := kx_bs (h := s) (p := i) (by omega) (by omega)
      rw [kx_it_i hi8 h]
      by_cases q : s.testBit i = true
      · rw [if_pos q] at bt ⊢
        refine ⟨kw_aK z (kw_nx t L a), ?_, fun c a1 _ => fz c a1, c1, fun s => absurd s (by simp)⟩
        rw [kv_e19_19]
        simp only [kv_e19_21, kv_e19_22, kv_e19_25, kv_e19_28, kv_e19_29, kv_e19_32, kv_e19_35, kv_e19_37, kv_e19_39, kv_e19_40, kv_e19_43, kv_e19_45, kv_e19_47, kv_e19_50, kv_e19_51, kv_e19_52, kv_e19_53, kv_e19_55, kv_e19_56, kv_e19_59, kv_e19_61, kv_e19_63, kv_e19_66, kv_e19_68, kv_e19_69, kv_e19_70, kv_e19_73, kv_e19_75, kv_e19_76, kv_e19_77, kv_e19_80, kv_e19_82, kv_e19_83, kv_e19_86, kv_e19_87, kv_e19_90, kv_e19_92, kv_e19_94, kv_e19_95, kv_e19_96, kv_e19_97, kv_e19_100, kv_e19_101, kv_e19_102, kv_e19_103, kv_e19_106, kv_e19_107, kv_e19_110, kv_e19_111, kv_e19_112, kv_e19_115, kv_e19_116, kv_e19_119, kv_e19_120, kv_e19_121, kv_e19_123, kv_e19_124, kv_e19_125, kv_e19_127, kv_e19_128, kv_e19_131, kv_e19_134, kv_e19_135, kv_e19_136, kv_e19_137, kv_e19_140, kv_e19_142, kv_e19_143, kv_e19_146, kv_e19_149, kv_e19_150, kv_e19_152, kv_e19_153, kv_e19_155, kv_e19_156, kv_e19_157, kv_e19_159, kv_e19_162, kv_e19_165, kv_o10, not_false_eq_true, not_true, if_true, if_false, kv_then_s, kv_then_v, kv_then_n, List.cons_append, List.nil_append, kv_Ci, kv_Cr, kv_Cn, kv_Cu, kv_C0, kv_catc, kv_gCi, kv_gCl, kv_gCr, kv_nb0, kv_nb1, kv_nbi, kv_nb01, Nat.reduceAdd, Nat.reduceLeDiff, len, o306, and_self, lk, sg, q1, q2, ix, h, i0, r300, r306, r300', r306', or_true, sa, sa', cti, cti8, ia22, true_or, aw22, kv_ar_lt (show 22 < 300 by omega), bt, show ((1 : Int32) = 0) = False from by decide, show ((1 : Nat) = 0) = False from by decide]
      · rw [if_neg q] at bt ⊢
        have c2 := kw_ctK_a (b := kw_nx t L a + 1) hc
        obtain ⟨z2, r2, f2, c3, v3⟩ := kx_withinK (d := d + 1) (e := e) (zl := zl) (lo := kx_lo g i) (hi := kx_hi g i) (show kw_nx t L a + 1 ≤ L by omega) c2
        obtain ⟨⟨w1, w2⟩, w3⟩ := kx_nw_W (t := t) (lo := kx_lo g i) (hi := kx_hi g i) (show kw_nx t L a + 1 ≤ L by omega)
        have a2 : kw_aK z (kw_nx t L a) 1 2 = Int32.ofNat (kw_nx t L a) := c1.2.1
        have ea : kv_z (kw_aK z (kw_nx t L a)) 1 (upd (kw_aK z (kw_nx t L a) 1) 2 (Int32.ofNat (kw_nx t L a + 1))) = kw_aK z (kw_nx t L a + 1) := kw_aK_aK _ _ _
        have fz2 : ∀ c, c ≠ 1 → z2 c = z c := fun c h => (f2 c h).trans (kw_aK_fr _ _ h)
        by_cases qo : (kx_nw t L (kx_lo g i) (kx_hi g i) (kw_nx t L a + 1)).1 = true
        · rw [if_pos qo] at r2 ⊢
          have v3 := v3 qo
          obtain ⟨u1, u2⟩ := kx_un_g g hg hs hi q
          have c4 : kw_ctK t L (kx_nw t L (kx_lo g i) (kx_hi g i) (kw_nx t L a + 1)).2.1 (kv_z z2 22 (upd (z2 22) i (kx_nw t L (kx_lo g i) (kx_hi g i) (kw_nx t L a + 1)).2.2)) := kx_ct_fr c3 (kv_zne _ _ (by omega)) (kv_zne _ _ (by omega))
          obtain ⟨z4, r4, f4, c5, v5⟩ := ih (k + 1) (kx_nw t L (kx_lo g i) (kx_hi g i) (kw_nx t L a + 1)).2.1 (s ||| 2 ^ i) (upd vs i (kx_nw t L (kx_lo g i) (kx_hi g i) (kw_nx t L a + 1)).2.2) _ (some (.int (kx_sg t L (kw_nx t L a)))) (some (.int (Int32.ofNat i))) (by omega) (by omega) u2 w2 c4 (fun j hj => by
            rw [kv_zs]
            unfold upd
            by_cases qj : j = i
            · rw [if_pos qj, if_pos qj]
            · rw [if_neg qj, if_neg qj, fz2 22 (by omega)]
              exact hv j hj)
          refine ⟨z4, ?_, fun c a1 a2 => (f4 c a1 a2).trans ((kv_zne _ _ a2).trans (fz2 c a1)), c5, v5⟩
          rw [← r4]
          conv => lhs; rw [kv_e19_19]
          simp only [kv_e19_21, kv_e19_22, kv_e19_25, kv_e19_28, kv_e19_29, kv_e19_32, kv_e19_35, kv_e19_37, kv_e19_39, kv_e19_40, kv_e19_43, kv_e19_45, kv_e19_47, kv_e19_50, kv_e19_51, kv_e19_52, kv_e19_53, kv_e19_55, kv_e19_56, kv_e19_59, kv_e19_61, kv_e19_63, kv_e19_66, kv_e19_68, kv_e19_69, kv_e19_70, kv_e19_73, kv_e19_75, kv_e19_76, kv_e19_77, kv_e19_80, kv_e19_82, kv_e19_83, kv_e19_86, kv_e19_87, kv_e19_90, kv_e19_92, kv_e19_94, kv_e19_95, kv_e19_96, kv_e19_97, kv_e19_100, kv_e19_101, kv_e19_102, kv_e19_103, kv_e19_106, kv_e19_107, kv_e19_110, kv_e19_111, kv_e19_112, kv_e19_115, kv_e19_116, kv_e19_119, kv_e19_120, kv_e19_121, kv_e19_123, kv_e19_124, kv_e19_125, kv_e19_127, kv_e19_128, kv_e19_131, kv_e19_134, kv_e19_135, kv_e19_136, kv_e19_137, kv_e19_140, kv_e19_142, kv_e19_143, kv_e19_146, kv_e19_149, kv_e19_150, kv_e19_152, kv_e19_153, kv_e19_155, kv_e19_156, kv_e19_157, kv_e19_159, kv_e19_162, kv_e19_165, kv_o10, not_false_eq_true, not_true, if_true, if_false, kv_then_s, kv_then_v, kv_then_n, List.cons_append, List.nil_append, kv_Ci, kv_Cr, kv_Cn, kv_Cu, kv_C0, kv_catc, kv_gCi, kv_gCl, kv_gCr, kv_nb0, kv_nb1, kv_nbi, kv_nb01, Nat.reduceAdd, Nat.reduceLeDiff, len, o306, and_self, lk, sg, q1, q2, ix, h, i0, r300, r306, r300', r306', or_true, sa, sa', cti, cti8, ia22, true_or, aw22, kv_ar_lt (show 22 < 300 by omega), bt, a2, kv_suc, ea, kv_tn hi2, lcti, or_self, sr, sr', r2, v3, kv_lN hi8, bs]
        · rw [if_neg qo] at r2 ⊢
          refine ⟨z2, ?_, fun c a1 _ => fz2 c a1, c3, fun s => absurd s (by simp)⟩
          rw [kv_e19_19]
          simp only [kv_e19_21, kv_e19_22, kv_e19_25, kv_e19_28, kv_e19_29, kv_e19_32, kv_e19_35, kv_e19_37, kv_e19_39, kv_e19_40, kv_e19_43, kv_e19_45, kv_e19_47, kv_e19_50, kv_e19_51, kv_e19_52, kv_e19_53, kv_e19_55, kv_e19_56, kv_e19_59, kv_e19_61, kv_e19_63, kv_e19_66, kv_e19_68, kv_e19_69, kv_e19_70, kv_e19_73, kv_e19_75, kv_e19_76, kv_e19_77, kv_e19_80, kv_e19_82, kv_e19_83, kv_e19_86, kv_e19_87, kv_e19_90, kv_e19_92, kv_e19_94, kv_e19_95, kv_e19_96, kv_e19_97, kv_e19_100, kv_e19_101, kv_e19_102, kv_e19_103, kv_e19_106, kv_e19_107, kv_e19_110, kv_e19_111, kv_e19_112, kv_e19_115, kv_e19_116, kv_e19_119, kv_e19_120, kv_e19_121, kv_e19_123, kv_e19_124, kv_e19_125, kv_e19_127, kv_e19_128, kv_e19_131, kv_e19_134, kv_e19_135, kv_e19_136, kv_e19_137, kv_e19_140, kv_e19_142, kv_e19_143, kv_e19_146, kv_e19_149, kv_e19_150, kv_e19_152, kv_e19_153, kv_e19_155, kv_e19_156, kv_e19_157, kv_e19_159, kv_e19_162, kv_e19_165, kv_o10, not_false_eq_true, not_true, if_true, if_false, kv_then_s, kv_then_v, kv_then_n, List.cons_append, List.nil_append, kv_Ci, kv_Cr, kv_Cn, kv_Cu, kv_C0, kv_catc, kv_gCi, kv_gCl, kv_gCr, kv_nb0, kv_nb1, kv_nbi, kv_nb01, Nat.reduceAdd, Nat.reduceLeDiff, len, o306, and_self, lk, sg, q1, q2, ix, h, i0, r300, r306, r300', r306', or_true, sa, sa', cti, cti8, ia22, true_or, aw22, kv_ar_lt (show 22 < 300 by omega), bt, a2, kv_suc, ea, kv_tn hi2, lcti, or_self, sr, sr', r2, show ((2 : Nat) = 0) = False from by decide]
end
