/-! what laws are worth: the class's program and the model's rows, side by side -/
section
variable {L a d n : Nat} {t : Nat → Int32} {lt : Nat → Int32} {z : Nat → Nat → Int32} {zl : Nat → Nat → Int64}
theorem kx_ly_map {S : Nat → Int32} : ∀ {A : List (Nat × Nat)} {i : Nat}, kx_ly (fun j x => S j = x) i (A.map kx_pk) → kx_ly (fun j x => S j = kx_pk x) i A := by
  intro A
  induction A with
  | nil => intro i _; trivial
  | cons c A ih => intro i h; exact ⟨h.1, ih h.2⟩
theorem kx_workM {h m : Nat} {A : List (Nat × Nat)} {v : Int32} (hv : kx_MP lt h A v) (hA : kx_ly (kx_mP z) (520 * n + m) A) (hh : h ≤ 80) (hn : n ≤ 6) (hm : m + A.length ≤ 520) (h9 : ∀ j, j < 8 → z 9 j = lt j) : ∃ s, kv_Rn (d + 2) 180 0 [some (.ref 0), some (.int (Int32.ofNat n)), some (.int (Int32.ofNat m)), some (.int (Int32.ofNat (m + A.length))), none, none] [] (kv_m z zl) = some (some (.int v), kv_m (kv_z z 10 s) zl) := by
  obtain ⟨p, q, r⟩ := hv d n (m + A.length) m (some (.int (Int32.ofNat m))) [] (z 10) z zl hA hn (Nat.le_refl _) hm h9 trivial (by rw [List.length_nil]; omega)
  rw [kw_zid] at r
  refine ⟨p, ?_⟩
  have r10 : ∀ (w : Nat → Nat → Int32) j, kv_rd w 10 j = w 10 j := fun w j => kv_rd_lt (by omega)
  have g10 : kv_z z 10 p 10 = p := kv_zs _ _ _
  have e1 : (520 * Int32.ofNat n + Int32.ofNat (m + A.length) ≤ Int32.ofNat (520 * n + m + A.length)) = True := by
    rw [kx_520, kv_nle (by omega) (by omega)]
    exact eq_true (by omega)
  have r' : kv_Rn (d + 2) 180 12 [some (.ref 0), some (.int (Int32.ofNat n)), some (.int (Int32.ofNat m)), some (.int (Int32.ofNat (m + A.length))), some (.int 0), some (.int (Int32.ofNat (520 * n + m)))] [] (kv_m z zl) = kv_Rn (d + 2) 180 12 [some (.ref 0), some (.int (Int32.ofNat n)), some (.int (Int32.ofNat m)), some (.int (Int32.ofNat (m + A.length))), some (.int (Int32.ofNat (0 + 1))), some (.int (Int32.ofNat (520 * n + m + A.length)))] [] (kv_m (kv_z z 10 p) zl) := r
  have q1 : p 0 = v := q.1
  simp only [kv_e180_0, kv_e180_1, kv_e180_3, kv_e180_6, kv_e180_7, kv_e180_8, kv_e180_9, kv_e180_10, kv_o10, not_false_eq_true, not_true, if_true, if_false, kv_then_s, kv_then_v, kv_then_n, List.cons_append, List.nil_append, kv_Ci, kv_Cr, kv_Cn, kv_Cu, kv_C0, kv_catc, kv_gCi, kv_gCl, kv_gCr, kv_nb0, kv_nb1, kv_nbi, kv_nb01, Nat.reduceAdd, Nat.reduceLeDiff, kx_520]
  rw [r', kv_e180_12]
  simp only [kv_e180_14, kv_e180_17, kv_e180_18, kv_e180_19, kv_e180_20, kv_e180_21, kv_e180_171, kv_e180_172, kv_e180_175, kv_e180_176, kv_e180_177, kv_o10, not_false_eq_true, not_true, if_true, if_false, kv_then_s, kv_then_v, kv_then_n, List.cons_append, List.nil_append, kv_Ci, kv_Cr, kv_Cn, kv_Cu, kv_C0, kv_catc, kv_gCi, kv_gCl, kv_gCr, kv_nb0, kv_nb1, kv_nbi, kv_nb01, Nat.reduceAdd, Nat.reduceLeDiff, e1, kv_ar_lt (show 10 < 300 by omega), kv_am10, r10, g10, q1, Int32.lt_irrefl, or_false, false_or, show Int32.toNatClampNeg 0 = 0 from rfl, show (80 ≤ 0) = False from by decide]
def kx_rP (z : Nat → Nat → Int32) (j : Nat) (r : Nat × Nat × Nat) : Prop := z 6 j = Int32.ofNat r.1 ∧ z 7 j = Int32.ofNat r.2.1 ∧ z 8 j = Int32.ofNat r.2.2
def kx_cK (lt : Nat → Int32) (cl : List (List (Nat × Nat) × List (Nat × Nat))) (V : Int32) : Prop := ∀ (S : Nat → Int32) (l f i : Nat), kx_ly (fun j x => S j = x) i (kx_pg i cl) → i + (kx_pg i cl).length = l → l ≤ 256 → 257 ≤ f + i → kw_we S (Int32.ofNat l) lt f i [] = V
def kx_cM (lt : Nat → Int32) (cl : List (List (Nat × Nat) × List (Nat × Nat))) (V : Int32) : Prop := ∀ (d n k m : Nat) (z : Nat → Nat → Int32) (zl : Nat → Nat → Int64), kx_ly (kx_rP z) (140 * n + k) (kx_rws m cl) → kx_ly (kx_mP z) (520 * n + m) (kx_cds cl) → z 5 n = Int32.ofNat (k + cl.length) → m + (kx_cds cl).length ≤ 520 → k + cl.length ≤ 140 → n ≤ 6 → (∀ j, j < 8 → z 9 j = lt j) → ∃ s, kv_Rn (d + 3) 181 6 [some (.ref 0), some (.int (Int32.ofNat n)), some (.int (Int32.ofNat (140 * n + k)))] [] (kv_m z zl) = some (some (.int V), kv_m (kv_z z 10 s) zl)
theorem kx_K13 {S : Nat → Int32} {l f i : Nat} {v : Int32} {s : List Int32} (h : S i = kx_p2 13 0) (hi : i < l) (hl : l ≤ 256) : kw_we S (Int32.ofNat l) lt (f + 1) i (v :: s) = v := by
  have h1 := kx_uk (k := 13) (v := 0) (by omega) (by omega)
  have h1 : S i >>> ((16 : Int32) &&& 31) = 13 := by rw [h]; exact h1
  obtain ⟨g1, g2⟩ := kx_Kin hi hl
  exact (if_neg g1).trans ((if_neg g2).trans ((if_neg (by rw [h1]; decide)).trans ((if_neg (by rw [h1]; decide)).trans (if_pos h1))))
theorem kx_K12 {S : Nat → Int32} {l f i g : Nat} {v : Int32} {s : List Int32} (h : S i = kx_p2 12 (Int32.ofNat g)) (hg : g < 65536) (hig : i < g) (hi : i < l) (hl : l ≤ 256) : kw_we S (Int32.ofNat l) lt (f + 1) i (v :: s) = if v = 0 then kw_we S (Int32.ofNat l) lt f g s else kw_we S (Int32.ofNat l) lt f (i + 1) s := by
  have h1 := kx_uk (k := 12) (v := g) (by omega) hg
  have h2 := kx_uv (k := 12) (v := g) (by omega) hg
  have h1 : S i >>> ((16 : Int32) &&& 31) = 12 := by rw [h]; exact h1
  have h2 : S i &&& 65535 = Int32.ofNat g := by rw [h]; exact h2
  obtain ⟨g1, g2⟩ := kx_Kin hi hl
  refine (if_neg g1).trans ((if_neg g2).trans ((if_neg (by rw [h1]; decide)).trans ((if_neg (by rw [h1]; decide)).trans ((if_neg (by rw [h1]; decide)).trans ((if_neg (by rw [h1]; decide)).trans ?_)))))
  have hlt : Int32.ofNat i < Int32.ofNat g := by
    apply Int32.not_le.mp
    rw [kv_nle (by omega) (by omega)]
    omega
  rw [h2, kv_tn (by omega)]
  by_cases q : v = 0
  · rw [if_pos ⟨q, hlt⟩, if_pos q]
  · rw [if_neg (fun s => q s.1), if_neg q]
/-- the model's loop, one clause -/
theorem kx_M0 {k K : Nat} (h5 : z 5 n = Int32.ofNat K) (hk : K ≤ 140) (hkK : k < K) (hn : n ≤ 6) : kv_Rn d 181 6 [some (.ref 0), some (.int (Int32.ofNat n)), some (.int (Int32.ofNat (140 * n + k)))] [] (kv_m z zl) = kv_Rn d 181 22 [some (.ref 0), some (.int (Int32.ofNat n)), some (.int (Int32.ofNat (140 * n + k)))] [] (kv_m z zl) := by
  have hn2 : n < 2147483648 := by omega
  have r5 : ∀ (w : Nat → Nat → Int32) j, kv_rd w 5 j = w 5 j := fun w j => kv_rd_lt (by omega)
  have e1 : (140 * Int32.ofNat n + Int32.ofNat K ≤ Int32.ofNat (140 * n + k)) = False := by
    rw [kx_140, kv_nle (by omega) (by omega)]
    exact eq_false (by omega)
  rw [kv_e181_6]
  simp only [kv_e181_7, kv_e181_10, kv_e181_11, kv_e181_12, kv_e181_13, kv_e181_16, kv_e181_17, kv_e181_18, kv_e181_19, kv_o10, not_false_eq_true, not_true, if_true, if_false, kv_then_s, kv_then_v, kv_then_n, List.cons_append, List.nil_append, kv_Ci, kv_Cr, kv_Cn, kv_Cu, kv_C0, kv_catc, kv_gCi, kv_gCl, kv_gCr, kv_nb0, kv_nb1, kv_nbi, kv_nb01, Nat.reduceAdd, Nat.reduceLeDiff, kw_n0 hn2, kv_tn hn2, kv_lN (show n < 7 by omega), kv_ar_lt (show 5 < 300 by omega), kv_am5, or_self, r5, h5, e1]
theorem kx_M1 {k K : Nat} (h5 : z 5 n = Int32.ofNat K) (hk : K ≤ 140) (hkK : k = K) (hn : n ≤ 6) : kv_Rn d 181 6 [some (.ref 0), some (.int (Int32.ofNat n)), some (.int (Int32.ofNat (140 * n + k)))] [] (kv_m z zl) = some (some (.int 0), kv_m z zl) := by
  have hn2 : n < 2147483648 := by omega
  have r5 : ∀ (w : Nat → Nat → Int32) j, kv_rd w 5 j = w 5 j := fun w j => kv_rd_lt (by omega)
  have e1 : (140 * Int32.ofNat n + Int32.ofNat K ≤ Int32.ofNat (140 * n + k)) = True := by
    rw [kx_140, kv_nle (by omega) (by omega)]
    exact eq_true (by omega)
  rw [kv_e181_6]
  simp only [kv_e181_7, kv_e181_10, kv_e181_11, kv_e181_12, kv_e181_13, kv_e181_16, kv_e181_17, kv_e181_18, kv_e181_19, kv_e181_81, kv_e181_82, kv_o10, not_false_eq_true, not_true, if_true, if_false, kv_then_s, kv_then_v, kv_then_n, List.cons_append, List.nil_append, kv_Ci, kv_Cr, kv_Cn, kv_Cu, kv_C0, kv_catc, kv_gCi, kv_gCl, kv_gCr, kv_nb0, kv_nb1, kv_nbi, kv_nb01, Nat.reduceAdd, Nat.reduceLeDiff, kw_n0 hn2, kv_tn hn2, kv_lN (show n < 7 by omega), kv_ar_lt (show 5 < 300 by omega), kv_am5, or_self, r5, h5, e1]
theorem kx_M57 {x m0 m1 m2 : Nat} {V : Int32} {z' : Nat → Nat → Int32} (hx : x < 980) (hr : kx_rP z x (m0, m1, m2)) (hw : kv_Rn d 180 0 [some (.ref 0), some (.int (Int32.ofNat n)), some (.int (Int32.ofNat m1)), some (.int (Int32.ofNat m2)), none, none] [] (kv_m z zl) = some (some (.int V), kv_m z' zl)) : kv_Rn (d + 1) 181 57 [some (.ref 0), some (.int (Int32.ofNat n)), some (.int (Int32.ofNat x))] [] (kv_m z zl) = some (some (.int V), kv_m z' zl) := by
  obtain ⟨h6, h7, h8⟩ := hr
  have hx2 : x < 2147483648 := by omega
  have r7 : ∀ (w : Nat → Nat → Int32) j, kv_rd w 7 j = w 7 j := fun w j => kv_rd_lt (by omega)
  have r8 : ∀ (w : Nat → Nat → Int32) j, kv_rd w 8 j = w 8 j := fun w j => kv_rd_lt (by omega)
  simp only [kv_e181_57, kv_e181_58, kv_e181_59, kv_e181_60, kv_e181_63, kv_e181_64, kv_e181_65, kv_e181_66, kv_e181_69, kv_e181_70, kv_e181_71, kv_e181_74, kv_o10, not_false_eq_true, not_true, if_true, if_false, kv_then_s, kv_then_v, kv_then_n, List.cons_append, List.nil_append, kv_Ci, kv_Cr, kv_Cn, kv_Cu, kv_C0, kv_catc, kv_gCi, kv_gCl, kv_gCr, kv_nb0, kv_nb1, kv_nbi, kv_nb01, Nat.reduceAdd, Nat.reduceLeDiff, kw_n0 hx2, kv_tn hx2, kv_lN hx, kv_ar_lt (show 7 < 300 by omega), kv_ar_lt (show 8 < 300 by omega), kv_am7, kv_am8, or_self, r7, r8, h7, h8, hw]
theorem kx_M22e {x m0 m2 : Nat} (hx : x < 980) (hr : kx_rP z x (m0, m0, m2)) : kv_Rn d 181 22 [some (.ref 0), some (.int (Int32.ofNat n)), some (.int (Int32.ofNat x))] [] (kv_m z zl) = kv_Rn d 181 57 [some (.ref 0), some (.int (Int32.ofNat n)), some (.int (Int32.ofNat x))] [] (kv_m z zl) := by
  obtain ⟨h6, h7, h8⟩ := hr
  have hx2 : x < 2147483648 := by omega
  have r6 : ∀ (w : Nat → Nat → Int32) j, kv_rd w 6 j = w 6 j := fun w j => kv_rd_lt (by omega)
  have r7 : ∀ (w : Nat → Nat → Int32) j, kv_rd w 7 j = w 7 j := fun w j => kv_rd_lt (by omega)
  simp only [kv_e181_22, kv_e181_23, kv_e181_26, kv_e181_27, kv_e181_28, kv_e181_29, kv_e181_32, kv_e181_33, kv_e181_34, kv_o10, not_false_eq_true, not_true, if_true, if_false, kv_then_s, kv_then_v, kv_then_n, List.cons_append, List.nil_append, kv_Ci, kv_Cr, kv_Cn, kv_Cu, kv_C0, kv_catc, kv_gCi, kv_gCl, kv_gCr, kv_nb0, kv_nb1, kv_nbi, kv_nb01, Nat.reduceAdd, Nat.reduceLeDiff, kw_n0 hx2, kv_tn hx2, kv_lN hx, kv_ar_lt (show 6 < 300 by omega), kv_ar_lt (show 7 < 300 by omega), kv_am6, kv_am7, or_self, r6, r7, h6, h7]
theorem kx_M22 {x m0 m1 m2 : Nat} {V : Int32} {z' : Nat → Nat → Int32} (hx : x < 980) (hm : m0 < m1 ∧ m1 ≤ 520) (hr : kx_rP z x (m0, m1, m2)) (hw : kv_Rn d 180 0 [some (.ref 0), some (.int (Int32.ofNat n)), some (.int (Int32.ofNat m0)), some (.int (Int32.ofNat m1)), none, none] [] (kv_m z zl) = some (some (.int V), kv_m z' zl)) : kv_Rn (d + 1) 181 22 [some (.ref 0), some (.int (Int32.ofNat n)), some (.int (Int32.ofNat x))] [] (kv_m z zl) = if V = 0 then kv_Rn (d + 1) 181 6 [some (.ref 0), some (.int (Int32.ofNat n)), some (.int (Int32.ofNat (x + 1)))] [] (kv_m z' zl) else kv_Rn (d + 1) 181 57 [some (.ref 0), some (.int (Int32.ofNat n)), some (.int (Int32.ofNat x))] [] (kv_m z' zl) := by
  obtain ⟨h6, h7, h8⟩ := hr
  have hx2 : x < 2147483648 := by omega
  have r6 : ∀ (w : Nat → Nat → Int32) j, kv_rd w 6 j = w 6 j := fun w j => kv_rd_lt (by omega)
  have r7 : ∀ (w : Nat → Nat → Int32) j, kv_rd w 7 j = w 7 j := fun w j => kv_rd_lt (by omega)
  have e : (Int32.ofNat m0 = Int32.ofNat m1) = False := (kv_neq (by omega) (by omega)).trans (eq_false (by omega))
  have h6 : z 6 x = Int32.ofNat m0 := h6
  have h7 : z 7 x = Int32.ofNat m1 := h7
  by_cases q : V = 0
  · rw [if_pos q]
    simp only [kv_e181_22, kv_e181_23, kv_e181_26, kv_e181_27, kv_e181_28, kv_e181_29, kv_e181_32, kv_e181_33, kv_e181_34, kv_e181_37, kv_e181_38, kv_e181_39, kv_e181_40, kv_e181_43, kv_e181_44, kv_e181_45, kv_e181_46, kv_e181_49, kv_e181_50, kv_e181_51, kv_e181_54, kv_e181_75, kv_e181_78, kv_o10, not_false_eq_true, not_true, if_true, if_false, kv_then_s, kv_then_v, kv_then_n, List.cons_append, List.nil_append, kv_Ci, kv_Cr, kv_Cn, kv_Cu, kv_C0, kv_catc, kv_gCi, kv_gCl, kv_gCr, kv_nb0, kv_nb1, kv_nbi, kv_nb01, Nat.reduceAdd, Nat.reduceLeDiff, kw_n0 hx2, kv_tn hx2, kv_lN hx, kv_ar_lt (show 6 < 300 by omega), kv_ar_lt (show 7 < 300 by omega), kv_am6, kv_am7, or_self, r6, r7, h6, h7, e, hw, q, kv_suc]
  · rw [if_neg q]
    simp only [kv_e181_22, kv_e181_23, kv_e181_26, kv_e181_27, kv_e181_28, kv_e181_29, kv_e181_32, kv_e181_33, kv_e181_34, kv_e181_37, kv_e181_38, kv_e181_39, kv_e181_40, kv_e181_43, kv_e181_44, kv_e181_45, kv_e181_46, kv_e181_49, kv_e181_50, kv_e181_51, kv_e181_54, kv_o10, not_false_eq_true, not_true, if_true, if_false, kv_then_s, kv_then_v, kv_then_n, List.cons_append, List.nil_append, kv_Ci, kv_Cr, kv_Cn, kv_Cu, kv_C0, kv_catc, kv_gCi, kv_gCl, kv_gCr, kv_nb0, kv_nb1, kv_nbi, kv_nb01, Nat.reduceAdd, Nat.reduceLeDiff, kw_n0 hx2, kv_tn hx2, kv_lN hx, kv_ar_lt (show 6 < 300 by omega), kv_ar_lt (show 7 < 300 by omega), kv_am6, kv_am7, or_self, r6, r7, h6, h7, e, hw, q]
end
