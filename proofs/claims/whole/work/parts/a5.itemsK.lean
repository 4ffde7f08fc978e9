/-! fields as texts: the class's items -/
section
variable {d L a : Nat} {e : List kv_E} {t : Nat → Int32} {z : Nat → Nat → Int32} {zl : Nat → Nat → Int64}
theorem kx_withinK {lo hi : Int32} (ha : a ≤ L) (h : kw_ctK t L a z) : ∃ z', kv_Rn (d + 2) 80 0 [some (.ref 1), some (.int 2), some (.int lo), some (.int hi)] [] (kv_h e z zl) = some (some (.int (if (kx_nw t L lo hi a).1 = true then 1 else 0)), kv_h e z' zl) ∧ (∀ c, c ≠ 1 → z' c = z c) ∧ kw_ctK t L (kx_nw t L lo hi a).2.1 z' ∧ ((kx_nw t L lo hi a).1 = true → z' 1 3 = (kx_nw t L lo hi a).2.2) := by
  have hL := h.1.2
  obtain ⟨v, r, hv⟩ := kw_numberK (d := d) (e := e) (zl := zl) (k := 2) (by omega) (show a ≤ 100000 by omega) h
  rw [show Int32.ofNat 2 = (2 : Int32) from rfl] at r
  obtain ⟨⟨w1, w2⟩, w3⟩ := kx_nu_W (t := t) ha
  obtain ⟨z1, e1⟩ : ∃ z1, z1 = kv_z z 1 (upd (upd (z 1) 2 (Int32.ofNat (kw_nu t L 2 a).2.1)) 3 v) := ⟨_, rfl⟩
  have g11 : z1 1 1 = z 1 1 := by rw [e1, kv_zs]; rfl
  have g12 : z1 1 2 = Int32.ofNat (kw_nu t L 2 a).2.1 := by rw [e1, kv_zs]; rfl
  have g13 : z1 1 3 = v := by rw [e1, kv_zs]; rfl
  have f1 : ∀ c, c ≠ 1 → z1 c = z c := fun c hc => by rw [e1]; exact kv_zne _ _ hc
  have c1 : kw_ctK t L (kw_nu t L 2 a).2.1 z1 := ⟨⟨by rw [g11]; exact h.1.1, hL⟩, g12, by rw [f1 2 (by omega)]; exact h.2.2⟩
  rw [← e1] at r
  by_cases q : (kw_nu t L 2 a).1 = true
  · rw [if_pos q] at r
    have hd : kw_isd (kx_sg t L (kw_nx t L a)) := by
      by_cases hd : kw_isd (kx_sg t L (kw_nx t L a))
      · exact hd
      · rw [kx_nu_0 hd] at q
        exact absurd q (by simp)
    have hv := hv hd
    have g13 : z1 1 3 = Int32.ofNat (kw_nu t L 2 a).2.2 := g13.trans hv
    have pre : Int32.ofNat (kw_nu t L 2 a).2.1 - 1 = Int32.ofNat ((kw_nu t L 2 a).2.1 - 1) := by
      have := w3 q
      obtain ⟨m, hm⟩ : ∃ m, (kw_nu t L 2 a).2.1 = m + 1 := ⟨(kw_nu t L 2 a).2.1 - 1, by omega⟩
      rw [hm, kv_pre]
      rfl
    by_cases g1 : lo ≤ Int32.ofNat (kw_nu t L 2 a).2.2
    · have g1' : (Int32.ofNat (kw_nu t L 2 a).2.2 < lo) = False := eq_false (Int32.not_lt.mpr g1)
      by_cases g2 : Int32.ofNat (kw_nu t L 2 a).2.2 ≤ hi
      · rw [kx_nw_1 q ⟨g1, g2⟩]
        refine ⟨z1, ?_, f1, c1, fun _ => g13⟩
        simp only [kv_e80_0, kv_e80_1, kv_e80_2, kv_e80_5, kv_e80_8, kv_e80_9, kv_e80_10, kv_e80_11, kv_e80_14, kv_e80_15, kv_e80_18, kv_e80_19, kv_e80_22, kv_e80_23, kv_e80_26, kv_e80_27, kv_e80_28, kv_e80_31, kv_e80_32, kv_e80_33, kv_e80_36, kv_e80_37, kv_e80_38, kv_e80_39, kv_o10, not_false_eq_true, not_true, if_true, if_false, kv_then_s, kv_then_v, kv_then_n, List.cons_append, List.nil_append, kv_Ci, kv_Cr, kv_Cn, kv_Cu, kv_C0, kv_catc, kv_gCi, kv_gCl, kv_gCr, kv_nb0, kv_nb1, kv_nbi, kv_nb01, Nat.reduceAdd, Nat.reduceLeDiff, r, g13, g1', g2]
      · rw [kx_nw_2 q (fun s => g2 s.2)]
        refine ⟨kv_z z1 1 (upd (z1 1) 2 (Int32.ofNat ((kw_nu t L 2 a).2.1 - 1))), ?_, fun c hc => (kv_zne _ _ hc).trans (f1 c hc), kw_ctK_a c1, fun s => absurd s (by simp)⟩
        simp only [kv_e80_0, kv_e80_1, kv_e80_2, kv_e80_5, kv_e80_8, kv_e80_9, kv_e80_10, kv_e80_11, kv_e80_14, kv_e80_15, kv_e80_18, kv_e80_19, kv_e80_22, kv_e80_23, kv_e80_26, kv_e80_27, kv_e80_28, kv_e80_31, kv_e80_32, kv_e80_33, kv_e80_36, kv_e80_37, kv_e80_38, kv_e80_39, kv_o10, not_false_eq_true, not_true, if_true, if_false, kv_then_s, kv_then_v, kv_then_n, List.cons_append, List.nil_append, kv_Ci, kv_Cr, kv_Cn, kv_Cu, kv_C0, kv_catc, kv_gCi, kv_gCl, kv_gCr, kv_nb0, kv_nb1, kv_nbi, kv_nb01, Nat.reduceAdd, Nat.reduceLeDiff, r, g13, g1', g2, g12, pre, Bool.false_eq_true]
    · have g1' : (Int32.ofNat (kw_nu t L 2 a).2.2 < lo) = True := eq_true (Int32.not_le.mp g1)
      rw [kx_nw_2 q (fun s => g1 s.1)]
      refine ⟨kv_z z1 1 (upd (z1 1) 2 (Int32.ofNat ((kw_nu t L 2 a).2.1 - 1))), ?_, fun c hc => (kv_zne _ _ hc).trans (f1 c hc), kw_ctK_a c1, fun s => absurd s (by simp)⟩
      simp only [kv_e80_0, kv_e80_1, kv_e80_2, kv_e80_5, kv_e80_8, kv_e80_9, kv_e80_10, kv_e80_11, kv_e80_14, kv_e80_15, kv_e80_18, kv_e80_19, kv_e80_22, kv_e80_23, kv_e80_26, kv_e80_27, kv_e80_28, kv_e80_31, kv_e80_32, kv_e80_33, kv_e80_36, kv_e80_37, kv_e80_38, kv_e80_39, kv_o10, not_false_eq_true, not_true, if_true, if_false, kv_then_s, kv_then_v, kv_then_n, List.cons_append, List.nil_append, kv_Ci, kv_Cr, kv_Cn, kv_Cu, kv_C0, kv_catc, kv_gCi, kv_gCl, kv_gCr, kv_nb0, kv_nb1, kv_nbi, kv_nb01, Nat.reduceAdd, Nat.reduceLeDiff, r, g13, g1', g12, pre, Bool.false_eq_true]
  · rw [if_neg q] at r
    rw [kx_nw_0 q]
    refine ⟨z1, ?_, f1, c1, fun s => absurd s (by simp)⟩
    simp only [kv_e80_0, kv_e80_1, kv_e80_2, kv_e80_5, kv_e80_8, kv_e80_9, kv_e80_10, kv_e80_11, kv_e80_14, kv_e80_15, kv_e80_18, kv_e80_19, kv_e80_22, kv_e80_23, kv_e80_26, kv_e80_27, kv_e80_28, kv_e80_31, kv_e80_32, kv_e80_33, kv_e80_36, kv_e80_37, kv_e80_38, kv_e80_39, kv_o10, not_false_eq_true, not_true, if_true, if_false, kv_then_s, kv_then_v, kv_then_n, List.cons_append, List.nil_append, kv_Ci, kv_Cr, kv_Cn, kv_Cu, kv_C0, kv_catc, kv_gCi, kv_gCl, kv_gCr, kv_nb0, kv_nb1, kv_nbi, kv_nb01, Nat.reduceAdd, Nat.reduceLeDiff, r, Bool.false_eq_true]
theorem kx_ct_8 {g : Nat} (hg : g < 3) : kx_ct g ≤ 8 ∧ 3 ≤ kx_ct g := by
  match g, hg with
  | 0, _ => decide
  | 1, _ => decide
  | 2, _ => decide
theorem kx_lenK {g : Nat} (hg : g < 3) {h : kv_H} : kv_Rn (d + 3) 273 0 [some (.ref (306 + g))] [] h = some (some (.int (Int32.ofNat (kx_ct g))), h) := by
  match g, hg with
  | 0, _ =>
    simp only [kv_e273_0, kv_e273_1_0, kv_e273_1_1, kv_e273_1_2, kv_e273_1_3, kv_e273_4_0, kv_e273_4_1, kv_e273_4_2, kv_e273_4_3, kv_e273_5, kv_e273_6, kv_e273_9, kv_e273_10, kv_e275_0, kv_e275_1, kv_e275_4, kv_e275_7, kv_e275_8_0, kv_e275_8_1, kv_e275_8_2, kv_e275_8_3, kv_e275_11, kv_e275_12, kv_e275_13, kv_e275_14, kv_e275_17, kv_e275_20, kv_e275_23, kv_e275_24_0, kv_e275_24_1, kv_e275_24_2, kv_e275_24_3, kv_e275_27, kv_e275_28, kv_e275_29, kv_e275_30, kv_e275_36, kv_e276_0, kv_e276_3, kv_e276_6, kv_e276_7_0, kv_e276_7_1, kv_e276_7_2, kv_e276_7_3, kv_e276_10, kv_e276_13, kv_e276_14, kv_e277_0, kv_e277_3, kv_e277_6, kv_e277_7_0, kv_e277_7_1, kv_e277_7_2, kv_e277_7_3, kv_e277_10, kv_e277_13, kv_e277_14, kv_e277_17, kv_e277_18, kv_e278_0, kv_e278_1, kv_e278_4, kv_e278_5, kv_e278_8, kv_e278_11, kv_e278_12, kv_e278_15, kv_e278_16, kv_e279_0, kv_e279_1, kv_e279_4, kv_e279_7, kv_e279_8, kv_e279_9, kv_e279_10, kv_e279_11, kv_e279_14, kv_e279_15, kv_e279_16, kv_e279_17_0, kv_e279_17_1, kv_e279_17_2, kv_e279_17_3, kv_e279_18, kv_e279_21, kv_e279_22, kv_e279_23, kv_e279_24, kv_e279_27, kv_e279_28, kv_e279_29, kv_e279_30, kv_e279_31, kv_e279_32, kv_e279_33, kv_e279_36, kv_o10, not_false_eq_true, not_true, if_true, if_false, kv_then_s, kv_then_v, kv_then_n, List.cons_append, List.nil_append, kv_Ci, kv_Cr, kv_Cn, kv_Cu, kv_C0, kv_catc, kv_gCi, kv_gCl, kv_gCr, kv_nb0, kv_nb1, kv_nbi, kv_nb01, Nat.reduceAdd, Nat.reduceLeDiff, Nat.add_zero, and_self, Nat.reduceLT, Nat.le_refl, show (narrow .byte (.int 0) = .int 0) = True from eq_true rfl, show ((4 : Int32) >>> ((0 : Int32) &&& 31)) = 4 from by decide]
    rfl
  | 1, _ =>
    simp only [kv_e273_0, kv_e273_1_0, kv_e273_1_1, kv_e273_1_2, kv_e273_1_3, kv_e273_4_0, kv_e273_4_1, kv_e273_4_2, kv_e273_4_3, kv_e273_5, kv_e273_6, kv_e273_9, kv_e273_10, kv_e275_0, kv_e275_1, kv_e275_4, kv_e275_7, kv_e275_8_0, kv_e275_8_1, kv_e275_8_2, kv_e275_8_3, kv_e275_11, kv_e275_12, kv_e275_13, kv_e275_14, kv_e275_17, kv_e275_20, kv_e275_23, kv_e275_24_0, kv_e275_24_1, kv_e275_24_2, kv_e275_24_3, kv_e275_27, kv_e275_28, kv_e275_29, kv_e275_30, kv_e275_36, kv_e276_0, kv_e276_3, kv_e276_6, kv_e276_7_0, kv_e276_7_1, kv_e276_7_2, kv_e276_7_3, kv_e276_10, kv_e276_13, kv_e276_14, kv_e277_0, kv_e277_3, kv_e277_6, kv_e277_7_0, kv_e277_7_1, kv_e277_7_2, kv_e277_7_3, kv_e277_10, kv_e277_13, kv_e277_14, kv_e277_17, kv_e277_18, kv_e278_0, kv_e278_1, kv_e278_4, kv_e278_5, kv_e278_8, kv_e278_11, kv_e278_12, kv_e278_15, kv_e278_16, kv_e279_0, kv_e279_1, kv_e279_4, kv_e279_7, kv_e279_8, kv_e279_9, kv_e279_10, kv_e279_11, kv_e279_14, kv_e279_15, kv_e279_16, kv_e279_17_0, kv_e279_17_1, kv_e279_17_2, kv_e279_17_3, kv_e279_18, kv_e279_21, kv_e279_22, kv_e279_23, kv_e279_24, kv_e279_27, kv_e279_28, kv_e279_29, kv_e279_30, kv_e279_31, kv_e279_32, kv_e279_33, kv_e279_36, kv_o10, not_false_eq_true, not_true, if_true, if_false, kv_then_s, kv_then_v, kv_then_n, List.cons_append, List.nil_append, kv_Ci, kv_Cr, kv_Cn, kv_Cu, kv_C0, kv_catc, kv_gCi, kv_gCl, kv_gCr, kv_nb0, kv_nb1, kv_nbi, kv_nb01, Nat.reduceAdd, Nat.reduceLeDiff, Nat.add_zero, and_self, Nat.reduceLT, Nat.le_refl, show (narrow .byte (.int 0) = .int 0) = True from eq_true rfl, show ((8 : Int32) >>> ((0 : Int32) &&& 31)) = 8 from by decide]
    rfl
  | 2, _ =>
    simp only [kv_e273_0, kv_e273_1_0, kv_e273_1_1, kv_e273_1_2, kv_e273_1_3, kv_e273_4_0, kv_e273_4_1, kv_e273_4_2, kv_e273_4_3, kv_e273_5, kv_e273_6, kv_e273_9, kv_e273_10, kv_e275_0, kv_e275_1, kv_e275_4, kv_e275_7, kv_e275_8_0, kv_e275_8_1, kv_e275_8_2, kv_e275_8_3, kv_e275_11, kv_e275_12, kv_e275_13, kv_e275_14, kv_e275_17, kv_e275_20, kv_e275_23, kv_e275_24_0, kv_e275_24_1, kv_e275_24_2, kv_e275_24_3, kv_e275_27, kv_e275_28, kv_e275_29, kv_e275_30, kv_e275_36, kv_e276_0, kv_e276_3, kv_e276_6, kv_e276_7_0, kv_e276_7_1, kv_e276_7_2, kv_e276_7_3, kv_e276_10, kv_e276_13, kv_e276_14, kv_e277_0, kv_e277_3, kv_e277_6, kv_e277_7_0, kv_e277_7_1, kv_e277_7_2, kv_e277_7_3, kv_e277_10, kv_e277_13, kv_e277_14, kv_e277_17, kv_e277_18, kv_e278_0, kv_e278_1, kv_e278_4, kv_e278_5, kv_e278_8, kv_e278_11, kv_e278_12, kv_e278_15, kv_e278_16, kv_e279_0, kv_e279_1, kv_e279_4, kv_e279_7, kv_e279_8, kv_e279_9, kv_e279_10, kv_e279_11, kv_e279_14, kv_e279_15, kv_e279_16, kv_e279_17_0, kv_e279_17_1, kv_e279_17_2, kv_e279_17_3, kv_e279_18, kv_e279_21, kv_e279_22, kv_e279_23, kv_e279_24, kv_e279_27, kv_e279_28, kv_e279_29, kv_e279_30, kv_e279_31, kv_e279_32, kv_e279_33, kv_e279_36, kv_o10, not_false_eq_true, not_true, if_true, if_false, kv_then_s, kv_then_v, kv_then_n, List.cons_append, List.nil_append, kv_Ci, kv_Cr, kv_Cn, kv_Cu, kv_C0, kv_catc, kv_gCi, kv_gCl, kv_gCr, kv_nb0, kv_nb1, kv_nbi, kv_nb01, Nat.reduceAdd, Nat.reduceLeDiff, Nat.add_zero, and_self, Nat.reduceLT, Nat.le_refl, show (narrow .byte (.int 0) = .int 0) = True from eq_true rfl, show ((3 : Int32) >>> ((0 : Int32) &&& 31)) = 3 from by decide]
    rfl
theorem kx_idxK {g : Nat} (hg : g < 3) {c : Int32} (hc : kw_rg c 1 255) {h : kv_H} : kv_Rn (d + 3) 274 0 [some (.ref (306 + g)), some (.int (c.toUInt32 % 65536).toInt32)] [] h = some (some (.int (kx_ix g c)), h) := by
  obtain ⟨k, hk⟩ : ∃ k : Fin 256, c = Int32.ofNat k.val := by
    obtain ⟨h1, h2⟩ := hc
    refine ⟨⟨c.toInt.toNat, by omega⟩, ?_⟩
    apply Int32.toInt.inj
    rw [Int32.toInt_ofNat_of_lt (show c.toInt.toNat < 2147483648 by omega)]
    show c.toInt = ((c.toInt.toNat : Nat) : Int)
    omega
  obtain ⟨⟨e1, e2⟩, e3⟩ := kx_ch k
  rw [hk, e1]
  match g, hg with
  | 0, _ => rw [← kx_ix_0 k]; exact kx_io0 (eq_false e2) (eq_false e3)
  | 1, _ => rw [← kx_ix_1 k]; exact kx_io1 (eq_false e2) (eq_false e3)
  | 2, _ => rw [← kx_ix_2 k]; exact kx_io2 (eq_false e2) (eq_false e3)
theorem kx_arSA {g : Nat} (hg : g < 3) (sh : List kv_E) : kv_ar sh (300 + 2 * g) = kx_ct g ∧ kv_ar sh (300 + 2 * g + 1) = kx_ct g := by
  match g, hg with
  | 0, _ => exact ⟨rfl, rfl⟩
  | 1, _ => exact ⟨rfl, rfl⟩
  | 2, _ => exact ⟨rfl, rfl⟩
theorem kx_rdSA {g : Nat} (hg : g < 3) (z : Nat → Nat → Int32) (i : Nat) : kv_rd z (300 + 2 * g) i = kx_lo g i ∧ kv_rd z (300 + 2 * g + 1) i = kx_hi g i := by
  match g, hg with
  | 0, _ => exact ⟨rfl, rfl⟩
  | 1, _ => exact ⟨rfl, rfl⟩
  | 2, _ => exact ⟨rfl, rfl⟩
end
