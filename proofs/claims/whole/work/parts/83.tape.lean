/-! the tape: signs, digits, numbers -/
section
variable {d L a : Nat} {e : List kv_E} {t : Nat → Int32} {z : Nat → Nat → Int32} {zl : Nat → Nat → Int64}
def kx_sg (t : Nat → Int32) (L a : Nat) : Int32 := if a < L then t a else -1
def kw_sp (t : Nat → Int32) (L : Nat) : Nat → Nat → Nat
  | 0, a => a
  | f + 1, a => if kx_sg t L a = 32 then kw_sp t L f (a + 1) else a
def kw_nx (t : Nat → Int32) (L a : Nat) : Nat := kw_sp t L (L - a) a
theorem kx_sg_lt (h : a < L) : kx_sg t L a = t a := if_pos h
theorem kx_sg_ge (h : L ≤ a) : kx_sg t L a = -1 := if_neg (by omega)
theorem kx_sg_32 (h : kx_sg t L a = 32) : a < L := by
  by_cases q : a < L
  · exact q
  · rw [kx_sg_ge (by omega)] at h
    exact absurd h (by decide)
theorem kx_sg_ne (h : ¬ kx_sg t L a = -1) : a < L := by
  by_cases q : a < L
  · exact q
  · exact absurd (kx_sg_ge (by omega)) h
theorem kw_nx_1 (h : kx_sg t L a = 32) : kw_nx t L a = kw_nx t L (a + 1) := by
  have := kx_sg_32 h
  unfold kw_nx
  rw [show L - a = (L - (a + 1)) + 1 from by omega]
  exact if_pos h
theorem kw_nx_0 (h : ¬ kx_sg t L a = 32) : kw_nx t L a = a := by
  unfold kw_nx
  cases L - a with
  | zero => rfl
  | succ f => exact if_neg h
theorem kw_nx_p (t : Nat → Int32) (L : Nat) : ∀ m a, L - a ≤ m → (a ≤ kw_nx t L a ∧ ¬ kx_sg t L (kw_nx t L a) = 32) ∧ (a ≤ L → kw_nx t L a ≤ L) := by
  intro m
  induction m with
  | zero =>
    intro a h
    have h1 : ¬ kx_sg t L a = 32 := fun q => by have := kx_sg_32 q; omega
    rw [kw_nx_0 h1]
    exact ⟨⟨Nat.le_refl _, h1⟩, fun q => q⟩
  | succ m ih =>
    intro a h
    by_cases q : kx_sg t L a = 32
    · have := kx_sg_32 q
      rw [kw_nx_1 q]
      obtain ⟨⟨h1, h2⟩, h3⟩ := ih (a + 1) (by omega)
      exact ⟨⟨by omega, h2⟩, fun _ => h3 (by omega)⟩
    · rw [kw_nx_0 q]
      exact ⟨⟨Nat.le_refl _, q⟩, fun r => r⟩
theorem kw_nx_le (t : Nat → Int32) (L a : Nat) : a ≤ kw_nx t L a := (kw_nx_p t L (L - a) a (Nat.le_refl _)).1.1
theorem kw_nx_L (h : a ≤ L) : kw_nx t L a ≤ L := (kw_nx_p t L (L - a) a (Nat.le_refl _)).2 h
theorem kw_nx_nx (t : Nat → Int32) (L a : Nat) : kw_nx t L (kw_nx t L a) = kw_nx t L a := kw_nx_0 (kw_nx_p t L (L - a) a (Nat.le_refl _)).1.2
/-- the class's tape, its reader at a -/
def kw_ctK (t : Nat → Int32) (L a : Nat) (z : Nat → Nat → Int32) : Prop := (z 1 1 = Int32.ofNat L ∧ L ≤ 240) ∧ z 1 2 = Int32.ofNat a ∧ ∀ i, i < L → z 2 i = t i
def kw_aK (z : Nat → Nat → Int32) (a : Nat) : Nat → Nat → Int32 := kv_z z 1 (upd (z 1) 2 (Int32.ofNat a))
theorem kw_aK_aK (z : Nat → Nat → Int32) (a b : Nat) : kw_aK (kw_aK z a) b = kw_aK z b := by
  unfold kw_aK
  rw [kv_zs, kw_zz]
  congr 1
  funext i
  unfold upd
  by_cases h : i = 2 <;> simp [h]
theorem kw_aK_id (h : z 1 2 = Int32.ofNat a) : kw_aK z a = z := by
  unfold kw_aK
  rw [← h]
  have : upd (z 1) 2 (z 1 2) = z 1 := by
    funext i
    unfold upd
    by_cases q : i = 2
    · rw [if_pos q, q]
    · rw [if_neg q]
  rw [this, kw_zid]
theorem kw_aK_fr (z : Nat → Nat → Int32) (a : Nat) {c : Nat} (h : c ≠ 1) : kw_aK z a c = z c := kv_zne _ _ h
theorem kw_ctK_a {b : Nat} (h : kw_ctK t L a z) : kw_ctK t L b (kw_aK z b) := ⟨⟨h.1.1, h.1.2⟩, rfl, by rw [kw_aK_fr _ _ (by omega)]; exact h.2.2⟩
theorem kw_o240 : Int32.ofNat 240 = 240 := id rfl
theorem kw_sign : ∀ m a (z : Nat → Nat → Int32), L - a ≤ m → a ≤ 100000 → kw_ctK t L a z → kv_Rn d 76 0 [some (.ref 1)] [] (kv_h e z zl) = some (some (.int (kx_sg t L (kw_nx t L a))), kv_h e (kw_aK z (kw_nx t L a)) zl) := by
  intro m
  induction m with
  | zero =>
    intro a z hm ha h
    have ha2 : a < 2147483648 := by omega
    have hL := h.1.2
    have q : ¬ kx_sg t L a = 32 := fun q => by have := kx_sg_32 q; omega
    rw [kw_nx_0 q, kw_aK_id h.2.1, kx_sg_ge (show L ≤ a by omega), kv_e76_0]
    simp only [kv_e76_1, kv_e76_4, kv_e76_7, kv_e76_8, kv_e76_11, kv_e76_12, kv_e76_15, kv_e76_18, kv_e76_19, kv_e76_22, kv_e76_23, kv_e76_26, kv_e76_27, kv_e76_30, kv_e76_31, kv_e76_34, kv_e76_35, kv_e76_38, kv_e76_39, kv_e76_41, kv_e76_44, kv_e76_45, kv_e76_46, kv_e76_49, kv_e76_50, kv_e76_51, kv_e76_54, kv_e76_57, kv_e76_58, kv_e76_61, kv_e76_64, kv_e76_65, kv_e76_68, kv_e76_69, kv_e76_72, kv_e76_75, kv_e76_76, kv_e76_79, kv_e76_80, kv_e76_83, kv_e76_84, kv_e76_87, kv_e76_88, kv_e76_91, kv_e76_92, kv_e76_95, kv_e76_96, kv_e76_99, kv_e76_100, kv_o10, not_false_eq_true, not_true, if_true, if_false, kv_then_s, kv_then_v, kv_then_n, List.cons_append, List.nil_append, kv_Ci, kv_Cr, kv_Cn, kv_Cu, kv_C0, kv_catc, kv_gCi, kv_gCl, kv_gCr, kv_nb0, kv_nb1, kv_nbi, kv_nb01, Nat.reduceAdd, Nat.reduceLeDiff, h.2.1, h.1.1, kw_n0 ha2, kv_nle (show L < 2147483648 by omega) ha2, eq_true (show L ≤ a by omega)]
  | succ m ih =>
    intro a z hm ha h
    have ha2 : a < 2147483648 := by omega
    have hL := h.1.2
    have hrd : ∀ i, kv_rd z 2 i = z 2 i := fun i => kv_rd_lt (by omega)
    by_cases hlt : a < L
    · have ht : z 2 a = kx_sg t L a := by rw [kx_sg_lt hlt]; exact h.2.2 a hlt
      have l240 : ((240 : Int32) ≤ Int32.ofNat a) = False := kv_ln_ (m := 240) (by omega) (by omega)
      by_cases q : kx_sg t L a = 32
      · rw [kw_nx_1 q]
        have := ih (a + 1) (kw_aK z (a + 1)) (by omega) (by omega) (kw_ctK_a h)
        rw [kw_aK_aK] at this
        rw [← this, kv_e76_0]
        simp only [kv_e76_1, kv_e76_4, kv_e76_7, kv_e76_8, kv_e76_11, kv_e76_12, kv_e76_15, kv_e76_18, kv_e76_19, kv_e76_22, kv_e76_23, kv_e76_26, kv_e76_27, kv_e76_30, kv_e76_31, kv_e76_34, kv_e76_35, kv_e76_38, kv_e76_39, kv_e76_41, kv_e76_44, kv_e76_45, kv_e76_46, kv_e76_49, kv_e76_50, kv_e76_51, kv_e76_54, kv_o10, not_false_eq_true, not_true, if_true, if_false, kv_then_s, kv_then_v, kv_then_n, List.cons_append, List.nil_append, kv_Ci, kv_Cr, kv_Cn, kv_Cu, kv_C0, kv_catc, kv_gCi, kv_gCl, kv_gCr, kv_nb0, kv_nb1, kv_nbi, kv_nb01, Nat.reduceAdd, Nat.reduceLeDiff, h.2.1, h.1.1, kw_n0 ha2, kv_nle (show L < 2147483648 by omega) ha2, eq_false (show ¬ L ≤ a by omega), kv_ia2, true_or, kv_ar_lt (show 2 < 300 by omega), hrd, kv_aw2, kw_o240, l240, kv_tn ha2, kv_lN (show a < 240 by omega), or_self, ht, q, kv_suc]
        rfl
      · rw [kw_nx_0 q, kw_aK_id h.2.1, kv_e76_0]
        simp only [kv_e76_1, kv_e76_4, kv_e76_7, kv_e76_8, kv_e76_11, kv_e76_12, kv_e76_15, kv_e76_18, kv_e76_19, kv_e76_22, kv_e76_23, kv_e76_26, kv_e76_27, kv_e76_30, kv_e76_31, kv_e76_34, kv_e76_35, kv_e76_38, kv_e76_39, kv_e76_41, kv_e76_44, kv_e76_45, kv_e76_46, kv_e76_49, kv_e76_50, kv_e76_51, kv_e76_54, kv_e76_57, kv_e76_58, kv_e76_61, kv_e76_64, kv_e76_65, kv_e76_68, kv_e76_69, kv_e76_72, kv_e76_75, kv_e76_76, kv_e76_79, kv_e76_80, kv_e76_83, kv_e76_84, kv_e76_87, kv_e76_88, kv_e76_91, kv_e76_92, kv_e76_95, kv_e76_96, kv_e76_99, kv_e76_100, kv_o10, not_false_eq_true, not_true, if_true, if_false, kv_then_s, kv_then_v, kv_then_n, List.cons_append, List.nil_append, kv_Ci, kv_Cr, kv_Cn, kv_Cu, kv_C0, kv_catc, kv_gCi, kv_gCl, kv_gCr, kv_nb0, kv_nb1, kv_nbi, kv_nb01, Nat.reduceAdd, Nat.reduceLeDiff, h.2.1, h.1.1, kw_n0 ha2, kv_nle (show L < 2147483648 by omega) ha2, eq_false (show ¬ L ≤ a by omega), kv_ia2, true_or, kv_ar_lt (show 2 < 300 by omega), hrd, kv_aw2, kw_o240, l240, kv_tn ha2, kv_lN (show a < 240 by omega), or_self, ht, q]
    · have q : ¬ kx_sg t L a = 32 := fun q => by have := kx_sg_32 q; omega
      rw [kw_nx_0 q, kw_aK_id h.2.1, kx_sg_ge (show L ≤ a by omega), kv_e76_0]
      simp only [kv_e76_1, kv_e76_4, kv_e76_7, kv_e76_8, kv_e76_11, kv_e76_12, kv_e76_15, kv_e76_18, kv_e76_19, kv_e76_22, kv_e76_23, kv_e76_26, kv_e76_27, kv_e76_30, kv_e76_31, kv_e76_34, kv_e76_35, kv_e76_38, kv_e76_39, kv_e76_41, kv_e76_44, kv_e76_45, kv_e76_46, kv_e76_49, kv_e76_50, kv_e76_51, kv_e76_54, kv_e76_57, kv_e76_58, kv_e76_61, kv_e76_64, kv_e76_65, kv_e76_68, kv_e76_69, kv_e76_72, kv_e76_75, kv_e76_76, kv_e76_79, kv_e76_80, kv_e76_83, kv_e76_84, kv_e76_87, kv_e76_88, kv_e76_91, kv_e76_92, kv_e76_95, kv_e76_96, kv_e76_99, kv_e76_100, kv_o10, not_false_eq_true, not_true, if_true, if_false, kv_then_s, kv_then_v, kv_then_n, List.cons_append, List.nil_append, kv_Ci, kv_Cr, kv_Cn, kv_Cu, kv_C0, kv_catc, kv_gCi, kv_gCl, kv_gCr, kv_nb0, kv_nb1, kv_nbi, kv_nb01, Nat.reduceAdd, Nat.reduceLeDiff, h.2.1, h.1.1, kw_n0 ha2, kv_nle (show L < 2147483648 by omega) ha2, eq_true (show L ≤ a by omega)]
theorem kw_signK (ha : a ≤ 100000) (h : kw_ctK t L a z) : kv_Rn d 76 0 [some (.ref 1)] [] (kv_h e z zl) = some (some (.int (kx_sg t L (kw_nx t L a))), kv_h e (kw_aK z (kw_nx t L a)) zl) := kw_sign (L - a) a z (Nat.le_refl _) ha h
def kw_isd (c : Int32) : Prop := 48 ≤ c ∧ c ≤ 57
def kw_dgv (c : Int32) : Nat := (c.toInt - 48).toNat
theorem kw_isd_v {c : Int32} (h : kw_isd c) : c - 48 = Int32.ofNat (kw_dgv c) ∧ kw_dgv c ≤ 9 := by
  have h1 : (48 : Int) ≤ c.toInt := Int32.le_iff_toInt_le.mp h.1
  have h2 : c.toInt ≤ (57 : Int) := Int32.le_iff_toInt_le.mp h.2
  have h48 : (48 : Int32).toInt = 48 := id rfl
  unfold kw_dgv
  refine ⟨?_, by omega⟩
  rw [← Int32.toInt_inj, kw_tsub (by rw [h48]; omega) (by rw [h48]; omega), kv_ti (by omega), h48]
  omega
theorem kw_isd_lt (h : kw_isd (kx_sg t L a)) : a < L := kx_sg_ne (fun q => by rw [q] at h; exact absurd h.1 (by decide))
theorem kw_isd_s (h : kw_isd (kx_sg t L a)) : ¬ kx_sg t L a = 32 := fun q => by rw [q] at h; exact absurd h.1 (by decide)
noncomputable def kw_dig (t : Nat → Int32) (L a : Nat) : Int32 := @ite _ (kw_isd (kx_sg t L a)) (Classical.propDecidable _) (Int32.ofNat (kw_dgv (kx_sg t L a))) (-1)
theorem kw_dig_1 (h : kw_isd (kx_sg t L a)) : kw_dig t L a = Int32.ofNat (kw_dgv (kx_sg t L a)) := if_pos h
theorem kw_dig_0 (h : ¬ kw_isd (kx_sg t L a)) : kw_dig t L a = -1 := if_neg h
theorem kw_digitK (ha : a ≤ 100000) (h : kw_ctK t L a z) : kv_Rn d 77 0 [some (.ref 1), none] [] (kv_h e z zl) = some (some (.int (kw_dig t L a)), kv_h e z zl) := by
  have ha2 : a < 2147483648 := by omega
  have hL := h.1.2
  have hrd : ∀ i, kv_rd z 2 i = z 2 i := fun i => kv_rd_lt (by omega)
  by_cases hlt : a < L
  · have ht : z 2 a = kx_sg t L a := by rw [kx_sg_lt hlt]; exact h.2.2 a hlt
    have l240 : ((240 : Int32) ≤ Int32.ofNat a) = False := kv_ln_ (m := 240) (by omega) (by omega)
    by_cases q1 : kx_sg t L a < 48
    · rw [kw_dig_0 (fun r => Int32.not_le.mpr q1 r.1)]
      simp only [kv_e77_0, kv_e77_1, kv_e77_4, kv_e77_7, kv_e77_8, kv_e77_11, kv_e77_12, kv_e77_15, kv_e77_18, kv_e77_19, kv_e77_22, kv_e77_23, kv_e77_26, kv_e77_27, kv_e77_30, kv_e77_31, kv_e77_34, kv_e77_35, kv_e77_38, kv_e77_39, kv_e77_42, kv_e77_43, kv_e77_44, kv_e77_45, kv_e77_47, kv_e77_50, kv_e77_51, kv_e77_53, kv_e77_56, kv_e77_57, kv_e77_59, kv_e77_60, kv_e77_63, kv_e77_64, kv_o10, not_false_eq_true, not_true, if_true, if_false, kv_then_s, kv_then_v, kv_then_n, List.cons_append, List.nil_append, kv_Ci, kv_Cr, kv_Cn, kv_Cu, kv_C0, kv_catc, kv_gCi, kv_gCl, kv_gCr, kv_nb0, kv_nb1, kv_nbi, kv_nb01, Nat.reduceAdd, Nat.reduceLeDiff, h.2.1, h.1.1, kw_n0 ha2, kv_nle (show L < 2147483648 by omega) ha2, eq_false (show ¬ L ≤ a by omega), kv_ia2, true_or, kv_ar_lt (show 2 < 300 by omega), hrd, kv_aw2, kw_o240, l240, kv_tn ha2, kv_lN (show a < 240 by omega), or_self, ht, q1]
    · by_cases q2 : 57 < kx_sg t L a
      · rw [kw_dig_0 (fun r => Int32.not_le.mpr q2 r.2)]
        simp only [kv_e77_0, kv_e77_1, kv_e77_4, kv_e77_7, kv_e77_8, kv_e77_11, kv_e77_12, kv_e77_15, kv_e77_18, kv_e77_19, kv_e77_22, kv_e77_23, kv_e77_26, kv_e77_27, kv_e77_30, kv_e77_31, kv_e77_34, kv_e77_35, kv_e77_38, kv_e77_39, kv_e77_42, kv_e77_43, kv_e77_44, kv_e77_45, kv_e77_47, kv_e77_50, kv_e77_51, kv_e77_53, kv_e77_56, kv_e77_57, kv_e77_59, kv_e77_60, kv_e77_63, kv_e77_64, kv_o10, not_false_eq_true, not_true, if_true, if_false, kv_then_s, kv_then_v, kv_then_n, List.cons_append, List.nil_append, kv_Ci, kv_Cr, kv_Cn, kv_Cu, kv_C0, kv_catc, kv_gCi, kv_gCl, kv_gCr, kv_nb0, kv_nb1, kv_nbi, kv_nb01, Nat.reduceAdd, Nat.reduceLeDiff, h.2.1, h.1.1, kw_n0 ha2, kv_nle (show L < 2147483648 by omega) ha2, eq_false (show ¬ L ≤ a by omega), kv_ia2, true_or, kv_ar_lt (show 2 < 300 by omega), hrd, kv_aw2, kw_o240, l240, kv_tn ha2, kv_lN (show a < 240 by omega), or_self, ht, q1, q2]
      · have hd : kw_isd (kx_sg t L a) := ⟨Int32.not_lt.mp q1, Int32.not_lt.mp q2⟩
        rw [kw_dig_1 hd]
        simp only [kv_e77_0, kv_e77_1, kv_e77_4, kv_e77_7, kv_e77_8, kv_e77_11, kv_e77_12, kv_e77_15, kv_e77_18, kv_e77_19, kv_e77_22, kv_e77_23, kv_e77_26, kv_e77_27, kv_e77_30, kv_e77_31, kv_e77_34, kv_e77_35, kv_e77_38, kv_e77_39, kv_e77_42, kv_e77_43, kv_e77_44, kv_e77_45, kv_e77_47, kv_e77_50, kv_e77_51, kv_e77_53, kv_e77_56, kv_e77_57, kv_e77_59, kv_e77_60, kv_e77_63, kv_e77_64, kv_o10, not_false_eq_true, not_true, if_true, if_false, kv_then_s, kv_then_v, kv_then_n, List.cons_append, List.nil_append, kv_Ci, kv_Cr, kv_Cn, kv_Cu, kv_C0, kv_catc, kv_gCi, kv_gCl, kv_gCr, kv_nb0, kv_nb1, kv_nbi, kv_nb01, Nat.reduceAdd, Nat.reduceLeDiff, h.2.1, h.1.1, kw_n0 ha2, kv_nle (show L < 2147483648 by omega) ha2, eq_false (show ¬ L ≤ a by omega), kv_ia2, true_or, kv_ar_lt (show 2 < 300 by omega), hrd, kv_aw2, kw_o240, l240, kv_tn ha2, kv_lN (show a < 240 by omega), or_self, ht, q1, q2, (kw_isd_v hd).1]
  · rw [kw_dig_0 (fun r => by rw [kx_sg_ge (by omega)] at r; exact absurd r.1 (by decide))]
    simp only [kv_e77_0, kv_e77_1, kv_e77_4, kv_e77_7, kv_e77_8, kv_e77_11, kv_e77_12, kv_e77_15, kv_e77_18, kv_e77_19, kv_e77_22, kv_e77_23, kv_e77_26, kv_e77_27, kv_e77_30, kv_e77_31, kv_e77_34, kv_e77_35, kv_e77_38, kv_e77_39, kv_e77_42, kv_e77_43, kv_e77_44, kv_e77_45, kv_e77_47, kv_e77_50, kv_e77_51, kv_e77_53, kv_e77_56, kv_e77_57, kv_e77_59, kv_e77_60, kv_e77_63, kv_e77_64, kv_o10, not_false_eq_true, not_true, if_true, if_false, kv_then_s, kv_then_v, kv_then_n, List.cons_append, List.nil_append, kv_Ci, kv_Cr, kv_Cn, kv_Cu, kv_C0, kv_catc, kv_gCi, kv_gCl, kv_gCr, kv_nb0, kv_nb1, kv_nbi, kv_nb01, Nat.reduceAdd, Nat.reduceLeDiff, h.2.1, h.1.1, kw_n0 ha2, kv_nle (show L < 2147483648 by omega) ha2, eq_true (show L ≤ a by omega), show ((-1 : Int32) < 48) = True from by decide]
theorem kw_takeK (c : Int32) (ha : a ≤ 100000) (h : kw_ctK t L a z) : kv_Rn (d + 1) 78 0 [some (.ref 1), some (.int c)] [] (kv_h e z zl) = if kx_sg t L (kw_nx t L a) = c then some (some (.int 1), kv_h e (kw_aK z (kw_nx t L a + 1)) zl) else some (some (.int 0), kv_h e (kw_aK z (kw_nx t L a)) zl) := by
  by_cases q : kx_sg t L (kw_nx t L a) = c
  · rw [if_pos q]
    have e2 : kw_aK z (kw_nx t L a) 1 2 = Int32.ofNat (kw_nx t L a) := rfl
    simp only [kv_e78_0, kv_e78_1, kv_e78_4, kv_e78_5, kv_e78_8, kv_e78_9, kv_e78_10, kv_e78_11, kv_e78_12, kv_e78_15, kv_e78_16, kv_e78_17, kv_e78_20, kv_e78_21, kv_o10, not_false_eq_true, not_true, if_true, if_false, kv_then_s, kv_then_v, kv_then_n, List.cons_append, List.nil_append, kv_Ci, kv_Cr, kv_Cn, kv_Cu, kv_C0, kv_catc, kv_gCi, kv_gCl, kv_gCr, kv_nb0, kv_nb1, kv_nbi, kv_nb01, Nat.reduceAdd, Nat.reduceLeDiff, kw_signK ha h, q, e2, kv_suc]
    exact congrArg (fun w => some (some (Value.int 1), kv_h e w zl)) (kw_aK_aK z _ _)
  · rw [if_neg q]
    simp only [kv_e78_0, kv_e78_1, kv_e78_4, kv_e78_5, kv_e78_8, kv_e78_9, kv_e78_10, kv_e78_11, kv_e78_12, kv_e78_15, kv_e78_16, kv_e78_17, kv_e78_20, kv_e78_21, kv_o10, not_false_eq_true, not_true, if_true, if_false, kv_then_s, kv_then_v, kv_then_n, List.cons_append, List.nil_append, kv_Ci, kv_Cr, kv_Cn, kv_Cu, kv_C0, kv_catc, kv_gCi, kv_gCl, kv_gCr, kv_nb0, kv_nb1, kv_nbi, kv_nb01, Nat.reduceAdd, Nat.reduceLeDiff, kw_signK ha h, q]
/-- so many digits at most -/
noncomputable def kw_nm (t : Nat → Int32) (L : Nat) : Nat → Nat → Nat → Nat × Nat
  | 0, a, v => (a, v)
  | f + 1, a, v => @ite _ (kw_isd (kx_sg t L a)) (Classical.propDecidable _) (kw_nm t L f (a + 1) (v * 10 + kw_dgv (kx_sg t L a))) (a, v)
theorem kw_nm_1 {f v : Nat} (h : kw_isd (kx_sg t L a)) : kw_nm t L (f + 1) a v = kw_nm t L f (a + 1) (v * 10 + kw_dgv (kx_sg t L a)) := if_pos h
theorem kw_nm_0 {f v : Nat} (h : ¬ kw_isd (kx_sg t L a)) : kw_nm t L (f + 1) a v = (a, v) := if_neg h
theorem kw_nm_p : ∀ f a v, (a ≤ (kw_nm t L f a v).1 ∧ (kw_nm t L f a v).1 ≤ a + f) ∧ (a ≤ L → (kw_nm t L f a v).1 ≤ L) := by
  intro f
  induction f with
  | zero => intro a v; exact ⟨⟨Nat.le_refl _, Nat.le_refl _⟩, fun h => h⟩
  | succ f ih =>
    intro a v
    by_cases q : kw_isd (kx_sg t L a)
    · rw [kw_nm_1 q]
      obtain ⟨⟨h1, h2⟩, h3⟩ := ih (a + 1) (v * 10 + kw_dgv (kx_sg t L a))
      have := kw_isd_lt q
      exact ⟨⟨by omega, by omega⟩, fun _ => h3 (by omega)⟩
    · rw [kw_nm_0 q]
      exact ⟨⟨Nat.le_refl _, by show a ≤ _; omega⟩, fun h => h⟩
theorem kw_nm_v : ∀ f a v m, v < m → (kw_nm t L f a v).2 < m * 10 ^ f := by
  intro f
  induction f with
  | zero => intro a v m h; simpa [kw_nm] using h
  | succ f ih =>
    intro a v m h
    by_cases q : kw_isd (kx_sg t L a)
    · rw [kw_nm_1 q, Nat.pow_succ, Nat.mul_comm (10 ^ f), ← Nat.mul_assoc]
      have := (kw_isd_v q).2
      exact ih _ _ (m * 10) (by omega)
    · rw [kw_nm_0 q]
      show v < _
      exact Nat.lt_of_lt_of_le h (Nat.le_mul_of_pos_right m (Nat.pow_pos (by omega)))
/-- at and value -/
def kw_avK (z : Nat → Nat → Int32) (a v : Nat) : Nat → Nat → Int32 := kv_z z 1 (upd (upd (z 1) 2 (Int32.ofNat a)) 3 (Int32.ofNat v))
theorem kw_avK_ct {b v : Nat} (h : kw_ctK t L a z) : kw_ctK t L b (kw_avK z b v) := ⟨⟨h.1.1, h.1.2⟩, rfl, by
  have : kw_avK z b v 2 = z 2 := kv_zne _ _ (by omega)
  rw [this]
  exact h.2.2⟩
theorem kw_avK_s (z : Nat → Nat → Int32) (a v b w : Nat) (x y : Int32) (hx : x = Int32.ofNat w) (hy : y = Int32.ofNat b) : kv_z (kv_z (kw_avK z a v) 1 (upd (kw_avK z a v 1) 3 x)) 1 (upd (kv_z (kw_avK z a v) 1 (upd (kw_avK z a v 1) 3 x) 1) 2 y) = kw_avK z b w := by
  subst hx
  subst hy
  unfold kw_avK
  simp only [kv_zs, kw_zz]
  congr 1
  funext i
  unfold upd
  by_cases h3 : i = 3
  · simp [h3]
  · by_cases h2 : i = 2 <;> simp [h2, h3]
theorem kw_number_l {k : Nat} (hk : k ≤ 10) (h : kw_ctK t L a z) : ∀ f i a v, i + f = k → a ≤ 100000 → kv_Rn (d + 1) 79 24 [some (.ref 1), some (.int (Int32.ofNat k)), some (.int (kw_dig t L a)), some (.int (Int32.ofNat i))] [] (kv_h e (kw_avK z a v) zl) = some (some (.int (@ite _ (kw_isd (kx_sg t L (kw_nm t L f a v).1)) (Classical.propDecidable _) 0 1)), kv_h e (kw_avK z (kw_nm t L f a v).1 (kw_nm t L f a v).2) zl) := by
  intro f
  induction f with
  | zero =>
    intro i a v hi ha
    have e1 : kw_nm t L 0 a v = (a, v) := rfl
    rw [e1, kv_e79_24, show i = k from by omega]
    dsimp only
    by_cases q : kw_isd (kx_sg t L a)
    · rw [if_pos q]
      have hd := (kw_isd_v q).2
      simp only [kv_e79_25, kv_e79_26, kv_e79_68, kv_e79_69, kv_e79_70, kv_e79_77, kv_e79_78, kv_o10, not_false_eq_true, not_true, if_true, if_false, kv_then_s, kv_then_v, kv_then_n, List.cons_append, List.nil_append, kv_Ci, kv_Cr, kv_Cn, kv_Cu, kv_C0, kv_catc, kv_gCi, kv_gCl, kv_gCr, kv_nb0, kv_nb1, kv_nbi, kv_nb01, Nat.reduceAdd, Nat.reduceLeDiff, Int32.le_refl, kw_dig_1 q, kw_of_m1 (show kw_dgv (kx_sg t L a) < 2147483648 by omega)]
    · rw [if_neg q]
      simp only [kv_e79_25, kv_e79_26, kv_e79_68, kv_e79_69, kv_e79_70, kv_e79_73, kv_e79_74, kv_e79_78, kv_o10, not_false_eq_true, not_true, if_true, if_false, kv_then_s, kv_then_v, kv_then_n, List.cons_append, List.nil_append, kv_Ci, kv_Cr, kv_Cn, kv_Cu, kv_C0, kv_catc, kv_gCi, kv_gCl, kv_gCr, kv_nb0, kv_nb1, kv_nbi, kv_nb01, Nat.reduceAdd, Nat.reduceLeDiff, Int32.le_refl, kw_dig_0 q]
  | succ f ih =>
    intro i a v hi ha
    have q0 : (Int32.ofNat k ≤ Int32.ofNat i) = False := kv_ln_ (by omega) (by omega)
    rw [kv_e79_24]
    by_cases q : kw_isd (kx_sg t L a)
    · have hd := (kw_isd_v q).2
      rw [kw_nm_1 q, ← ih (i + 1) (a + 1) (v * 10 + kw_dgv (kx_sg t L a)) (by omega) (by have := kw_isd_lt q; have := h.1.2; omega)]
      have e3 : kw_avK z a v 1 3 = Int32.ofNat v := rfl
      have dg := kw_digitK (d := d) (e := e) (zl := zl) (a := a + 1) (by have := kw_isd_lt q; have := h.1.2; omega) (kw_avK_ct (b := a + 1) (v := v * 10 + kw_dgv (kx_sg t L a)) h)
      have ev : Int32.ofNat v * 10 + Int32.ofNat (kw_dgv (kx_sg t L a)) = Int32.ofNat (v * 10 + kw_dgv (kx_sg t L a)) := by rw [show (10 : Int32) = Int32.ofNat 10 from rfl, kw_mulN, kw_addN]
      have e2 : kv_z (kw_avK z a v) 1 (upd (kw_avK z a v 1) 3 (Int32.ofNat (v * 10 + kw_dgv (kx_sg t L a)))) 1 2 = Int32.ofNat a := rfl
      simp only [kv_e79_25, kv_e79_26, kv_e79_29, kv_e79_30, kv_e79_31, kv_e79_34, kv_e79_35, kv_e79_36, kv_e79_39, kv_e79_41, kv_e79_42, kv_e79_43, kv_e79_44, kv_e79_47, kv_e79_48, kv_e79_49, kv_e79_52, kv_e79_53, kv_e79_54, kv_e79_57, kv_e79_58, kv_e79_61, kv_e79_62, kv_e79_65, kv_o10, not_false_eq_true, not_true, if_true, if_false, kv_then_s, kv_then_v, kv_then_n, List.cons_append, List.nil_append, kv_Ci, kv_Cr, kv_Cn, kv_Cu, kv_C0, kv_catc, kv_gCi, kv_gCl, kv_gCr, kv_nb0, kv_nb1, kv_nbi, kv_nb01, Nat.reduceAdd, Nat.reduceLeDiff, q0, kw_dig_1 q, kw_of_m1 (show kw_dgv (kx_sg t L a) < 2147483648 by omega), e3, ev, e2, kw_avK_s z a v (a + 1) (v * 10 + kw_dgv (kx_sg t L a)) _ _ rfl rfl, dg, kv_suc]
    · rw [kw_nm_0 q]
      dsimp only
      rw [if_neg q]
      simp only [kv_e79_25, kv_e79_26, kv_e79_29, kv_e79_30, kv_e79_31, kv_e79_68, kv_e79_69, kv_e79_70, kv_e79_73, kv_e79_74, kv_e79_78, kv_o10, not_false_eq_true, not_true, if_true, if_false, kv_then_s, kv_then_v, kv_then_n, List.cons_append, List.nil_append, kv_Ci, kv_Cr, kv_Cn, kv_Cu, kv_C0, kv_catc, kv_gCi, kv_gCl, kv_gCr, kv_nb0, kv_nb1, kv_nbi, kv_nb01, Nat.reduceAdd, Nat.reduceLeDiff, q0, kw_dig_0 q]
/-- ok, where, value -/
noncomputable def kw_nu (t : Nat → Int32) (L k a : Nat) : Bool × Nat × Nat := @ite _ (kw_isd (kx_sg t L (kw_nx t L a))) (Classical.propDecidable _) (!(@decide (kw_isd (kx_sg t L (kw_nm t L k (kw_nx t L a) 0).1)) (Classical.propDecidable _)), kw_nm t L k (kw_nx t L a) 0) (false, kw_nx t L a, 0)
theorem kw_numberK {k : Nat} (hk : k ≤ 10) (ha : a ≤ 100000) (h : kw_ctK t L a z) : ∃ v, kv_Rn (d + 1) 79 0 [some (.ref 1), some (.int (Int32.ofNat k)), none, none] [] (kv_h e z zl) = some (some (.int (if (kw_nu t L k a).1 = true then 1 else 0)), kv_h e (kv_z z 1 (upd (upd (z 1) 2 (Int32.ofNat (kw_nu t L k a).2.1)) 3 v)) zl) ∧ (kw_isd (kx_sg t L (kw_nx t L a)) → v = Int32.ofNat (kw_nu t L k a).2.2) := by
  have h1 := kw_ctK_a (b := kw_nx t L a) h
  have na : kw_nx t L a ≤ 100000 := by
    by_cases q : a ≤ L
    · have := kw_nx_L (t := t) q
      have := h.1.2
      omega
    · have : kw_nx t L a = a := kw_nx_0 (fun r => by have := kx_sg_32 r; omega)
      omega
  have dg := kw_digitK (d := d) (e := e) (zl := zl) na h1
  unfold kw_nu
  by_cases q : kw_isd (kx_sg t L (kw_nx t L a))
  · have hd := (kw_isd_v q).2
    refine ⟨Int32.ofNat (kw_nm t L k (kw_nx t L a) 0).2, ?_, fun _ => by rw [if_pos q]⟩
    rw [if_pos q]
    have lp := kw_number_l (d := d) (e := e) (zl := zl) hk h k 0 (kw_nx t L a) 0 (by omega) na
    have e0 : kv_z (kw_aK z (kw_nx t L a)) 1 (upd (kw_aK z (kw_nx t L a) 1) 3 0) = kw_avK z (kw_nx t L a) 0 := by
      unfold kw_aK kw_avK
      rw [kv_zs, kw_zz]
      rfl
    simp only [kv_e79_0, kv_e79_1, kv_e79_4, kv_e79_5, kv_e79_6, kv_e79_9, kv_e79_10, kv_e79_11, kv_e79_12, kv_e79_17, kv_e79_18, kv_e79_19, kv_e79_22, kv_e79_23, kv_o10, not_false_eq_true, not_true, if_true, if_false, kv_then_s, kv_then_v, kv_then_n, List.cons_append, List.nil_append, kv_Ci, kv_Cr, kv_Cn, kv_Cu, kv_C0, kv_catc, kv_gCi, kv_gCl, kv_gCr, kv_nb0, kv_nb1, kv_nbi, kv_nb01, Nat.reduceAdd, Nat.reduceLeDiff, kw_signK ha h, dg, kw_dig_1 q, kw_of_m1 (show kw_dgv (kx_sg t L (kw_nx t L a)) < 2147483648 by omega), e0]
    rw [← kw_dig_1 q]
    refine Eq.trans lp ?_
    by_cases q2 : kw_isd (kx_sg t L (kw_nm t L k (kw_nx t L a) 0).1)
    · rw [if_pos q2, @decide_eq_true _ (Classical.propDecidable _) q2]
      rfl
    · rw [if_neg q2, @decide_eq_false _ (Classical.propDecidable _) q2]
      rfl
  · refine ⟨z 1 3, ?_, fun r => absurd r q⟩
    rw [if_neg q]
    have e1 : upd (upd (z 1) 2 (Int32.ofNat (kw_nx t L a))) 3 (z 1 3) = upd (z 1) 2 (Int32.ofNat (kw_nx t L a)) := by
      funext i
      unfold upd
      by_cases h3 : i = 3 <;> simp [h3]
    dsimp only
    rw [e1]
    simp only [kv_e79_0, kv_e79_1, kv_e79_4, kv_e79_5, kv_e79_6, kv_e79_9, kv_e79_10, kv_e79_11, kv_e79_12, kv_e79_15, kv_e79_16, kv_o10, not_false_eq_true, not_true, if_true, if_false, kv_then_s, kv_then_v, kv_then_n, List.cons_append, List.nil_append, kv_Ci, kv_Cr, kv_Cn, kv_Cu, kv_C0, kv_catc, kv_gCi, kv_gCl, kv_gCr, kv_nb0, kv_nb1, kv_nbi, kv_nb01, Nat.reduceAdd, Nat.reduceLeDiff, kw_signK ha h, dg, kw_dig_0 q]
    rfl
end
