/-! the tape in the model: here, look, bad, plain numbers, numbers -/
section
variable {d L a : Nat} {e : List kv_E} {t : Nat → Int32} {z : Nat → Nat → Int32} {zl : Nat → Nat → Int64}
def kx_ctM (t : Nat → Int32) (L a : Nat) (z : Nat → Nat → Int32) : Prop := (z 0 2 = Int32.ofNat L ∧ L ≤ 240) ∧ z 0 3 = Int32.ofNat a ∧ ∀ i, i < L → z 1 i = t i
def kx_f (z : Nat → Nat → Int32) (j : Nat) (x : Int32) : Nat → Nat → Int32 := kv_z z 0 (upd (z 0) j x)
theorem kx_f_f (z : Nat → Nat → Int32) (j : Nat) (x y : Int32) : kx_f (kx_f z j x) j y = kx_f z j y := by
  unfold kx_f
  rw [kv_zs, kw_zz]
  congr 1
  funext i
  unfold upd
  by_cases h : i = j <;> simp [h]
theorem kx_f_id {j : Nat} {x : Int32} (h : z 0 j = x) : kx_f z j x = z := by
  subst h
  unfold kx_f
  have : upd (z 0) j (z 0 j) = z 0 := by
    funext i
    unfold upd
    by_cases q : i = j
    · rw [if_pos q, q]
    · rw [if_neg q]
  rw [this, kw_zid]
theorem kx_f_at (z : Nat → Nat → Int32) (j : Nat) (x : Int32) : kx_f z j x 0 j = x := by
  unfold kx_f
  rw [kv_zs]
  exact if_pos rfl
theorem kx_f_ne (z : Nat → Nat → Int32) {i j : Nat} (x : Int32) (h : i ≠ j) : kx_f z j x 0 i = z 0 i := by
  unfold kx_f
  rw [kv_zs]
  exact if_neg h
theorem kx_f_fr (z : Nat → Nat → Int32) (j : Nat) (x : Int32) {c : Nat} (h : c ≠ 0) : kx_f z j x c = z c := kv_zne _ _ h
def kx_a (z : Nat → Nat → Int32) (a : Nat) : Nat → Nat → Int32 := kx_f z 3 (Int32.ofNat a)
theorem kx_a_id (h : z 0 3 = Int32.ofNat a) : kx_a z a = z := kx_f_id h
theorem kx_a_a (z : Nat → Nat → Int32) (a b : Nat) : kx_a (kx_a z a) b = kx_a z b := kx_f_f z 3 _ _
theorem kx_a_at (z : Nat → Nat → Int32) (a : Nat) : kx_a z a 0 3 = Int32.ofNat a := kx_f_at _ _ _
theorem kx_a_ne (z : Nat → Nat → Int32) (a : Nat) {i : Nat} (h : i ≠ 3) : kx_a z a 0 i = z 0 i := kx_f_ne z _ h
theorem kx_a_fr (z : Nat → Nat → Int32) (a : Nat) {c : Nat} (h : c ≠ 0) : kx_a z a c = z c := kv_zne _ _ h
theorem kx_ctM_a {b : Nat} (h : kx_ctM t L a z) : kx_ctM t L b (kx_a z b) := ⟨⟨(kx_a_ne z b (by omega)).trans h.1.1, h.1.2⟩, kx_a_at _ _, by rw [kx_a_fr _ _ (by omega)]; exact h.2.2⟩
theorem kx_ctM_j {j : Nat} {x : Int32} (h : kx_ctM t L a z) (hj : j ≠ 2 ∧ j ≠ 3) : kx_ctM t L a (kx_f z j x) := ⟨⟨(kx_f_ne z _ (by omega)).trans h.1.1, h.1.2⟩, (kx_f_ne z _ (by omega)).trans h.2.1, by rw [kx_f_fr _ _ _ (by omega)]; exact h.2.2⟩
theorem kx_here (ha : a ≤ 100000) (h : kx_ctM t L a z) : kv_Rn d 156 0 [some (.ref 0)] [] (kv_m z zl) = some (some (.int (kx_sg t L a)), kv_m z zl) := by
  have ha2 : a < 2147483648 := by omega
  have hL := h.1.2
  have hrd : ∀ i, kv_rd z 1 i = z 1 i := fun i => kv_rd_lt (by omega)
  by_cases hlt : a < L
  · have ht : z 1 a = kx_sg t L a := by rw [kx_sg_lt hlt]; exact h.2.2 a hlt
    simp only [kv_e156_0, kv_e156_1, kv_e156_4, kv_e156_5, kv_e156_8, kv_e156_11, kv_e156_12, kv_e156_15, kv_e156_16, kv_e156_19, kv_e156_20, kv_e156_23, kv_e156_24, kv_o10, not_false_eq_true, not_true, if_true, if_false, kv_then_s, kv_then_v, kv_then_n, List.cons_append, List.nil_append, kv_Ci, kv_Cr, kv_Cn, kv_Cu, kv_C0, kv_catc, kv_gCi, kv_gCl, kv_gCr, kv_nb0, kv_nb1, kv_nbi, kv_nb01, Nat.reduceAdd, Nat.reduceLeDiff, h.2.1, h.1.1, kv_nle (show L < 2147483648 by omega) ha2, eq_false (show ¬ L ≤ a by omega), kw_n0 ha2, kv_ar_lt (show 1 < 300 by omega), hrd, kv_am1, kv_tn ha2, kv_lN (show a < 240 by omega), or_self, ht]
  · rw [kx_sg_ge (by omega)]
    simp only [kv_e156_0, kv_e156_1, kv_e156_4, kv_e156_5, kv_e156_8, kv_e156_11, kv_e156_12, kv_e156_15, kv_e156_16, kv_e156_19, kv_e156_20, kv_e156_23, kv_e156_24, kv_o10, not_false_eq_true, not_true, if_true, if_false, kv_then_s, kv_then_v, kv_then_n, List.cons_append, List.nil_append, kv_Ci, kv_Cr, kv_Cn, kv_Cu, kv_C0, kv_catc, kv_gCi, kv_gCl, kv_gCr, kv_nb0, kv_nb1, kv_nbi, kv_nb01, Nat.reduceAdd, Nat.reduceLeDiff, h.2.1, h.1.1, kv_nle (show L < 2147483648 by omega) ha2, eq_true (show L ≤ a by omega)]
theorem kx_look_m : ∀ m a (z : Nat → Nat → Int32), L - a ≤ m → a ≤ 100000 → kx_ctM t L a z → kv_Rn (d + 1) 157 0 [some (.ref 0)] [] (kv_m z zl) = some (some (.int (kx_sg t L (kw_nx t L a))), kv_m (kx_a z (kw_nx t L a)) zl) := by
  intro m
  induction m with
  | zero =>
    intro a z hm ha h
    have q : ¬ kx_sg t L a = 32 := fun q => by have := kx_sg_32 q; omega
    rw [kw_nx_0 q, kx_a_id h.2.1, kv_e157_0]
    simp only [kv_e157_1, kv_e157_4, kv_e157_6, kv_e157_22, kv_e157_23, kv_e157_26, kv_o10, not_false_eq_true, not_true, if_true, if_false, kv_then_s, kv_then_v, kv_then_n, List.cons_append, List.nil_append, kv_Ci, kv_Cr, kv_Cn, kv_Cu, kv_C0, kv_catc, kv_gCi, kv_gCl, kv_gCr, kv_nb0, kv_nb1, kv_nbi, kv_nb01, Nat.reduceAdd, Nat.reduceLeDiff, kx_here ha h, q]
  | succ m ih =>
    intro a z hm ha h
    by_cases q : kx_sg t L a = 32
    · rw [kw_nx_1 q]
      have := ih (a + 1) (kx_a z (a + 1)) (by omega) (by have := kx_sg_32 q; have := h.1.2; omega) (kx_ctM_a h)
      rw [kx_a_a] at this
      rw [← this, kv_e157_0]
      simp only [kv_e157_1, kv_e157_4, kv_e157_6, kv_e157_9, kv_e157_10, kv_e157_11, kv_e157_14, kv_e157_15, kv_e157_16, kv_e157_19, kv_o10, not_false_eq_true, not_true, if_true, if_false, kv_then_s, kv_then_v, kv_then_n, List.cons_append, List.nil_append, kv_Ci, kv_Cr, kv_Cn, kv_Cu, kv_C0, kv_catc, kv_gCi, kv_gCl, kv_gCr, kv_nb0, kv_nb1, kv_nbi, kv_nb01, Nat.reduceAdd, Nat.reduceLeDiff, kx_here ha h, q, h.2.1, kv_suc]
      rfl
    · rw [kw_nx_0 q, kx_a_id h.2.1, kv_e157_0]
      simp only [kv_e157_1, kv_e157_4, kv_e157_6, kv_e157_22, kv_e157_23, kv_e157_26, kv_o10, not_false_eq_true, not_true, if_true, if_false, kv_then_s, kv_then_v, kv_then_n, List.cons_append, List.nil_append, kv_Ci, kv_Cr, kv_Cn, kv_Cu, kv_C0, kv_catc, kv_gCi, kv_gCl, kv_gCr, kv_nb0, kv_nb1, kv_nbi, kv_nb01, Nat.reduceAdd, Nat.reduceLeDiff, kx_here ha h, q]
theorem kx_look (ha : a ≤ 100000) (h : kx_ctM t L a z) : kv_Rn (d + 1) 157 0 [some (.ref 0)] [] (kv_m z zl) = some (some (.int (kx_sg t L (kw_nx t L a))), kv_m (kx_a z (kw_nx t L a)) zl) := kx_look_m (L - a) a z (Nat.le_refl _) ha h
/-- a fault, the first -/
theorem kx_bad (h : z 0 4 = -1) : kv_Rn d 158 0 [some (.ref 0)] [] (kv_m z zl) = some (none, kv_m (kx_f z 4 (z 0 3)) zl) := by
  simp only [kv_e158_0, kv_e158_1, kv_e158_2, kv_e158_5, kv_e158_6, kv_e158_9, kv_e158_10, kv_e158_13, kv_e158_16, kv_e158_17, kv_e158_20, kv_e158_23, kv_o10, not_false_eq_true, not_true, if_true, if_false, kv_then_s, kv_then_v, kv_then_n, List.cons_append, List.nil_append, kv_Ci, kv_Cr, kv_Cn, kv_Cu, kv_C0, kv_catc, kv_gCi, kv_gCl, kv_gCr, kv_nb0, kv_nb1, kv_nbi, kv_nb01, Nat.reduceAdd, Nat.reduceLeDiff, h]
  rfl
theorem kx_isDigit (c : Int32) {h : kv_H} : kv_Rn d 159 0 [some (.int c)] [] h = some (some (.int (@ite _ (kw_isd c) (Classical.propDecidable _) 1 0)), h) := by
  by_cases q1 : c < 48
  · rw [if_neg (fun r : kw_isd c => Int32.not_le.mpr q1 r.1)]
    simp only [kv_e159_0, kv_e159_1, kv_e159_3, kv_e159_6, kv_e159_7, kv_e159_9, kv_e159_12, kv_e159_13, kv_e159_16, kv_e159_17, kv_o10, not_false_eq_true, not_true, if_true, if_false, kv_then_s, kv_then_v, kv_then_n, List.cons_append, List.nil_append, kv_Ci, kv_Cr, kv_Cn, kv_Cu, kv_C0, kv_catc, kv_gCi, kv_gCl, kv_gCr, kv_nb0, kv_nb1, kv_nbi, kv_nb01, Nat.reduceAdd, Nat.reduceLeDiff, q1]
  · by_cases q2 : 57 < c
    · rw [if_neg (fun r : kw_isd c => Int32.not_le.mpr q2 r.2)]
      simp only [kv_e159_0, kv_e159_1, kv_e159_3, kv_e159_6, kv_e159_7, kv_e159_9, kv_e159_12, kv_e159_13, kv_e159_16, kv_e159_17, kv_o10, not_false_eq_true, not_true, if_true, if_false, kv_then_s, kv_then_v, kv_then_n, List.cons_append, List.nil_append, kv_Ci, kv_Cr, kv_Cn, kv_Cu, kv_C0, kv_catc, kv_gCi, kv_gCl, kv_gCr, kv_nb0, kv_nb1, kv_nbi, kv_nb01, Nat.reduceAdd, Nat.reduceLeDiff, q1, q2]
    · rw [if_pos (show kw_isd c from ⟨Int32.not_lt.mp q1, Int32.not_lt.mp q2⟩)]
      simp only [kv_e159_0, kv_e159_1, kv_e159_3, kv_e159_6, kv_e159_7, kv_e159_9, kv_e159_12, kv_e159_13, kv_e159_16, kv_e159_17, kv_o10, not_false_eq_true, not_true, if_true, if_false, kv_then_s, kv_then_v, kv_then_n, List.cons_append, List.nil_append, kv_Ci, kv_Cr, kv_Cn, kv_Cu, kv_C0, kv_catc, kv_gCi, kv_gCl, kv_gCr, kv_nb0, kv_nb1, kv_nbi, kv_nb01, Nat.reduceAdd, Nat.reduceLeDiff, q1, q2]
theorem kx_isd1 {c : Int32} (q : kw_isd c) {h : kv_H} : kv_Rn d 159 0 [some (.int c)] [] h = some (some (.int 1), h) := by rw [kx_isDigit, if_pos q]
theorem kx_isd0 {c : Int32} (q : ¬ kw_isd c) {h : kv_H} : kv_Rn d 159 0 [some (.int c)] [] h = some (some (.int 0), h) := by rw [kx_isDigit, if_neg q]
theorem kx_10v {v : Nat} {c : Int32} (h : kw_isd c) : 10 * Int32.ofNat v + c - 48 = Int32.ofNat (v * 10 + kw_dgv c) := by
  have h1 := (kw_isd_v h).1
  have h2 : c = Int32.ofNat (kw_dgv c) + 48 := by rw [← h1, Int32.sub_add_cancel]
  rw [h2, ← Int32.add_assoc, Int32.add_sub_cancel, ← h2, show (10 : Int32) = Int32.ofNat 10 from rfl, kw_mulN, kw_addN, Nat.mul_comm]
theorem kx_plain_l (hw : z 0 4 = -1) (h : kx_ctM t L a z) : ∀ f i a v, i + f = 4 → a ≤ 100000 → kv_Rn (d + 1) 164 4 [some (.ref 0), some (.int (Int32.ofNat v)), some (.int (Int32.ofNat i))] [] (kv_m (kx_a z a) zl) = some (some (.int (Int32.ofNat (kw_nm t L f a v).2)), kv_m (@ite _ (kw_isd (kx_sg t L (kw_nm t L f a v).1)) (Classical.propDecidable _) (kx_f (kx_a z (kw_nm t L f a v).1) 4 (Int32.ofNat (kw_nm t L f a v).1)) (kx_a z (kw_nm t L f a v).1)) zl) := by
  have fin : ∀ a v i, a ≤ 100000 → kv_Rn (d + 1) 164 48 [some (.ref 0), some (.int (Int32.ofNat v)), i] [] (kv_m (kx_a z a) zl) = some (some (.int (Int32.ofNat v)), kv_m (@ite _ (kw_isd (kx_sg t L a)) (Classical.propDecidable _) (kx_f (kx_a z a) 4 (Int32.ofNat a)) (kx_a z a)) zl) := by
    intro a v i ha
    by_cases q : kw_isd (kx_sg t L a)
    · rw [if_pos q]
      have hb : kx_a z a 0 4 = -1 := (kx_a_ne z a (by omega)).trans hw
      simp only [kv_e164_48, kv_e164_49, kv_e164_52, kv_e164_55, kv_e164_58, kv_e164_59, kv_e164_62, kv_e164_63, kv_o10, not_false_eq_true, not_true, if_true, if_false, kv_then_s, kv_then_v, kv_then_n, List.cons_append, List.nil_append, kv_Ci, kv_Cr, kv_Cn, kv_Cu, kv_C0, kv_catc, kv_gCi, kv_gCl, kv_gCr, kv_nb0, kv_nb1, kv_nbi, kv_nb01, Nat.reduceAdd, Nat.reduceLeDiff, kx_here ha (kx_ctM_a h), kx_isd1 q, kx_bad hb, kx_a_at]
    · rw [if_neg q]
      simp only [kv_e164_48, kv_e164_49, kv_e164_52, kv_e164_55, kv_e164_62, kv_e164_63, kv_o10, not_false_eq_true, not_true, if_true, if_false, kv_then_s, kv_then_v, kv_then_n, List.cons_append, List.nil_append, kv_Ci, kv_Cr, kv_Cn, kv_Cu, kv_C0, kv_catc, kv_gCi, kv_gCl, kv_gCr, kv_nb0, kv_nb1, kv_nbi, kv_nb01, Nat.reduceAdd, Nat.reduceLeDiff, kx_here ha (kx_ctM_a h), kx_isd0 q, eq_self]
  intro f
  induction f with
  | zero =>
    intro i a v hi ha
    rw [kv_e164_4, show i = 4 from by omega]
    simp only [kv_e164_5, kv_e164_6, kv_o10, not_false_eq_true, not_true, if_true, if_false, kv_then_s, kv_then_v, kv_then_n, List.cons_append, List.nil_append, kv_Ci, kv_Cr, kv_Cn, kv_Cu, kv_C0, kv_catc, kv_gCi, kv_gCl, kv_gCr, kv_nb0, kv_nb1, kv_nbi, kv_nb01, Nat.reduceAdd, Nat.reduceLeDiff, show ((4 : Int32) ≤ Int32.ofNat 4) = True from by decide, fin _ _ _ ha]
    rfl
  | succ f ih =>
    intro i a v hi ha
    have q0 : ((4 : Int32) ≤ Int32.ofNat i) = False := kv_ln_ (m := 4) (by omega) (by omega)
    rw [kv_e164_4]
    by_cases q : kw_isd (kx_sg t L a)
    · have hL := h.1.2
      have hlt := kw_isd_lt q
      have := ih (i + 1) (a + 1) (v * 10 + kw_dgv (kx_sg t L a)) (by omega) (by omega)
      rw [kw_nm_1 q, ← this]
      have e3 : kx_a z a 0 3 = Int32.ofNat a := kx_a_at _ _
      have e4 : kv_z (kx_a z a) 0 (upd (kx_a z a 0) 3 (Int32.ofNat (a + 1))) = kx_a z (a + 1) := kx_f_f z 3 _ _
      simp only [kv_e164_5, kv_e164_6, kv_e164_9, kv_e164_10, kv_e164_13, kv_e164_16, kv_e164_19, kv_e164_21, kv_e164_22, kv_e164_23, kv_e164_24, kv_e164_27, kv_e164_28, kv_e164_30, kv_e164_31, kv_e164_32, kv_e164_33, kv_e164_34, kv_e164_37, kv_e164_38, kv_e164_39, kv_e164_42, kv_e164_45, kv_o10, not_false_eq_true, not_true, if_true, if_false, kv_then_s, kv_then_v, kv_then_n, List.cons_append, List.nil_append, kv_Ci, kv_Cr, kv_Cn, kv_Cu, kv_C0, kv_catc, kv_gCi, kv_gCl, kv_gCr, kv_nb0, kv_nb1, kv_nbi, kv_nb01, Nat.reduceAdd, Nat.reduceLeDiff, q0, kx_here ha (kx_ctM_a h), kx_isd1 q, kx_10v q, e3, kv_suc, e4]
    · rw [kw_nm_0 q]
      simp only [kv_e164_5, kv_e164_6, kv_e164_9, kv_e164_10, kv_e164_13, kv_e164_16, kv_o10, not_false_eq_true, not_true, if_true, if_false, kv_then_s, kv_then_v, kv_then_n, List.cons_append, List.nil_append, kv_Ci, kv_Cr, kv_Cn, kv_Cu, kv_C0, kv_catc, kv_gCi, kv_gCl, kv_gCr, kv_nb0, kv_nb1, kv_nbi, kv_nb01, Nat.reduceAdd, Nat.reduceLeDiff, q0, kx_here ha (kx_ctM_a h), kx_isd0 q, eq_self, fin _ _ _ ha]
theorem kx_plain (ha : a ≤ 100000) (hw : z 0 4 = -1) (h : kx_ctM t L a z) : kv_Rn (d + 1) 164 0 [some (.ref 0), none, none] [] (kv_m z zl) = some (some (.int (Int32.ofNat (kw_nm t L 4 a 0).2)), kv_m (@ite _ (kw_isd (kx_sg t L (kw_nm t L 4 a 0).1)) (Classical.propDecidable _) (kx_f (kx_a z (kw_nm t L 4 a 0).1) 4 (Int32.ofNat (kw_nm t L 4 a 0).1)) (kx_a z (kw_nm t L 4 a 0).1)) zl) := by
  have := kx_plain_l (d := d) (zl := zl) hw h 4 0 a 0 (by omega) ha
  rw [kx_a_id h.2.1] at this
  simp only [kv_e164_0, kv_e164_1, kv_e164_2, kv_e164_3, kv_o10, not_false_eq_true, not_true, if_true, if_false, kv_then_s, kv_then_v, kv_then_n, List.cons_append, List.nil_append, kv_Ci, kv_Cr, kv_Cn, kv_Cu, kv_C0, kv_catc, kv_gCi, kv_gCl, kv_gCr, kv_nb0, kv_nb1, kv_nbi, kv_nb01, Nat.reduceAdd, Nat.reduceLeDiff]
  exact this
end
