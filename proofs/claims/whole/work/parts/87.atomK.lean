/-! laws as texts: the class's reader -/
section
variable {d L a : Nat} {e : List kv_E} {t : Nat → Int32} {z z' : Nat → Nat → Int32} {zl : Nat → Nat → Int64}
def kx_kd (c : Nat) : Nat := if c = 9 then 11 else if c = 10 then 9 else if c = 11 then 10 else c
def kx_p2 (k v : Int32) : Int32 := (k <<< ((16 : Int32) &&& 31)) ||| v
def kx_pk (c : Nat × Nat) : Int32 := kx_p2 (Int32.ofNat (kx_kd c.1)) (Int32.ofNat c.2)
/-- the law that is read: its steps so far -/
def kx_pr (ps : List Int32) (z : Nat → Nat → Int32) : Prop := z 31 1 = Int32.ofNat ps.length ∧ ∀ i, i < ps.length → z 32 i = ps.getD i 0
def kx_frK (z z' : Nat → Nat → Int32) : Prop := ∀ c, c ≠ 1 → c ≠ 31 → c ≠ 32 → z' c = z c
theorem kx_frK_rf (z : Nat → Nat → Int32) : kx_frK z z := fun _ _ _ _ => rfl
theorem kx_frK_tr {z1 z2 : Nat → Nat → Int32} (h : kx_frK z z1) (g : kx_frK z1 z2) : kx_frK z z2 := fun c a1 a2 a3 => (g c a1 a2 a3).trans (h c a1 a2 a3)
theorem kx_frK_1 {f : Nat → Int32} : kx_frK z (kv_z z 1 f) := fun c a1 _ _ => kv_zne _ _ a1
theorem kx_pr_1 {ps : List Int32} {f : Nat → Int32} (h : kx_pr ps z) : kx_pr ps (kv_z z 1 f) := ⟨by rw [kv_zne _ _ (by omega)]; exact h.1, by rw [kv_zne _ _ (by omega)]; exact h.2⟩
theorem kx_ct_1 {b : Nat} {v : Int32} (h : kw_ctK t L a z) : kw_ctK t L b (kv_z z 1 (upd (upd (z 1) 2 (Int32.ofNat b)) 3 v)) := ⟨⟨h.1.1, h.1.2⟩, rfl, by rw [kv_zne _ _ (by omega)]; exact h.2.2⟩
theorem kx_ct_fr (h : kw_ctK t L a z) (h1 : z' 1 = z 1) (h2 : z' 2 = z 2) : kw_ctK t L a z' := ⟨⟨by rw [h1]; exact h.1.1, h.1.2⟩, by rw [h1]; exact h.2.1, by rw [h2]; exact h.2.2⟩
theorem kx_addK {ps : List Int32} (k v : Int32) (h : kx_pr ps z) (hl : ps.length < 256) : ∃ z', kv_Rn d 33 0 [some (.ref 31), some (.int k), some (.int v)] [] (kv_h e z zl) = some (none, kv_h e z' zl) ∧ (∀ c, c ≠ 31 → c ≠ 32 → z' c = z c) ∧ kx_pr (ps ++ [kx_p2 k v]) z' := by
  have hn : ps.length < 2147483648 := by omega
  have l256 : ((256 : Int32) ≤ Int32.ofNat ps.length) = False := kv_ln_ (m := 256) hl (by omega)
  have e31 : kv_z z 32 (upd (z 32) ps.length (kx_p2 k v)) 31 = z 31 := kv_zne _ _ (by omega)
  refine ⟨kv_z (kv_z z 32 (upd (z 32) ps.length (kx_p2 k v))) 31 (upd (z 31) 1 (Int32.ofNat (ps.length + 1))), ?_, fun c a1 a2 => (kv_zne _ _ a1).trans (kv_zne _ _ a2), ?_, ?_⟩
  · have hL : kv_aw (kv_shK ++ e) 32 = 256 := kv_aw_k e rfl (by decide)
    have hI : kv_ia (kv_shK ++ e) 32 := ⟨by decide, 256, kv_k_get e rfl⟩
    simp only [kv_e33_0, kv_e33_1, kv_e33_4, kv_e33_7, kv_e33_8, kv_e33_11, kv_e33_14, kv_e33_17, kv_e33_18, kv_e33_21, kv_e33_22, kv_e33_25, kv_e33_26, kv_e33_28, kv_e33_29, kv_e33_30, kv_e33_31, kv_e33_32, kv_e33_33, kv_e33_34, kv_e33_37, kv_e33_38, kv_e33_39, kv_e33_42, kv_o10, not_false_eq_true, not_true, if_true, if_false, kv_then_s, kv_then_v, kv_then_n, List.cons_append, List.nil_append, kv_Ci, kv_Cr, kv_Cn, kv_Cu, kv_C0, kv_catc, kv_gCi, kv_gCl, kv_gCr, kv_nb0, kv_nb1, kv_nbi, kv_nb01, Nat.reduceAdd, Nat.reduceLeDiff, kv_isL31 e, h.1, kw_n0 hn, l256, hL, kv_tn hn, kv_lN hl, or_self, kv_suc]
    unfold kx_p2 at e31 ⊢
    rw [e31, h.1, kv_suc]
  · rw [kv_zs, List.length_append]
    rfl
  · intro i hi
    rw [kv_zne _ _ (by omega), kv_zs]
    rw [List.length_append] at hi
    unfold upd
    by_cases q : i = ps.length
    · rw [if_pos q, q, List.getD_eq_getElem?_getD, List.getElem?_append_right (Nat.le_refl _), Nat.sub_self]
      rfl
    · have hi2 : i < ps.length := by
        have : i < ps.length + 1 := hi
        omega
      rw [if_neg q, h.2 i hi2, List.getD_eq_getElem?_getD, List.getD_eq_getElem?_getD, List.getElem?_append_left hi2]
def kx_SK (t : Nat → Int32) (L : Nat) (e : List kv_E) (zl : Nat → Nat → Int64) (dd j : Nat) (ls : kv_L) (p : Nat → kx_Q) : Prop := ∀ (a : Nat) (ps : List Int32) (z : Nat → Nat → Int32), a ≤ L → kw_ctK t L a z → kx_pr ps z → ps.length ≤ a → ∃ z', kv_Rn dd j 0 ls [] (kv_h e z zl) = some (some (.int (if (p a).1 = true then 1 else 0)), kv_h e z' zl) ∧ kx_frK z z' ∧ kw_ctK t L (p a).2.1 z' ∧ ((p a).1 = true → kx_pr (ps ++ (p a).2.2.map kx_pk) z')
/-- a byte is a number under 256 -/
theorem kx_byte (ht : ∀ i, i < L → kw_rg (t i) 1 255) (h : ¬ kx_sg t L a = -1) : ∃ k : Fin 256, kx_sg t L a = Int32.ofNat k.val := by
  have hl := kx_sg_ne h
  have r := ht a hl
  rw [kx_sg_lt hl]
  have h0 : (0 : Int32) ≤ t a := by
    rw [Int32.le_iff_toInt_le]
    exact Int.le_trans (by decide) r.1
  obtain ⟨v, hv, e⟩ := kv_nat h0
  have r2 := r.2
  rw [e, kv_ti hv] at r2
  exact ⟨⟨v, by omega⟩, e⟩
theorem kx_li_91 : kx_li 91 = -1 := by decide
theorem kx_li_m1 : kx_li (-1) = -1 := by decide
theorem kx_isd_91 : ¬ kw_isd 91 := fun q => absurd q.2 (by decide)
theorem kx_isd_m1 : ¬ kw_isd (-1) := fun q => absurd q.1 (by decide)
theorem kx_li_r (c : Int32) : kx_li c = -1 ∨ ∃ k, k < 8 ∧ kx_li c = Int32.ofNat k := by
  unfold kx_li
  by_cases q0 : c = 115
  · rw [if_pos q0]; exact Or.inr ⟨0, by omega, rfl⟩
  rw [if_neg q0]
  by_cases q1 : c = 119
  · rw [if_pos q1]; exact Or.inr ⟨1, by omega, rfl⟩
  rw [if_neg q1]
  by_cases q2 : c = 104
  · rw [if_pos q2]; exact Or.inr ⟨2, by omega, rfl⟩
  rw [if_neg q2]
  by_cases q3 : c = 112
  · rw [if_pos q3]; exact Or.inr ⟨3, by omega, rfl⟩
  rw [if_neg q3]
  by_cases q4 : c = 97
  · rw [if_pos q4]; exact Or.inr ⟨4, by omega, rfl⟩
  rw [if_neg q4]
  by_cases q5 : c = 98
  · rw [if_pos q5]; exact Or.inr ⟨5, by omega, rfl⟩
  rw [if_neg q5]
  by_cases q6 : c = 100
  · rw [if_pos q6]; exact Or.inr ⟨6, by omega, rfl⟩
  rw [if_neg q6]
  by_cases q7 : c = 116
  · rw [if_pos q7]; exact Or.inr ⟨7, by omega, rfl⟩
  rw [if_neg q7]
  exact Or.inl rfl
theorem kx_isd_li {c : Int32} (h : kw_isd c) : kx_li c = -1 := by
  have h2 := h.2
  unfold kx_li
  have f : ∀ k : Int32, 57 < k → ¬ c = k := fun k hk q => by rw [q] at h2; exact Int32.not_le.mpr hk h2
  rw [if_neg (f 115 (by decide)), if_neg (f 119 (by decide)), if_neg (f 104 (by decide)), if_neg (f 112 (by decide)), if_neg (f 97 (by decide)), if_neg (f 98 (by decide)), if_neg (f 100 (by decide)), if_neg (f 116 (by decide))]
theorem kx_L6 : Int32.ofNat 6 = 6 := id rfl
/-- where a letter or a number is to stand -/
theorem kx_atom2K (ht : ∀ i, i < L → kw_rg (t i) 1 255) {br : Option (Nat → kx_Q)} {x : Int32} {ps : List Int32} (ha : a ≤ L) (hnx : kw_nx t L a = a) (hc : kw_ctK t L a z) (hp : kx_pr ps z) (hl : ps.length ≤ a) (h91 : ¬ kx_sg t L a = 91) (u3 : Option Value) : ∃ z', kv_Rn (d + 5) 48 63 [some (.ref 30), some (.int x), some (.int (kx_sg t L a)), u3] [] (kv_h e z zl) = some (some (.int (if (kx_atom t L br a).1 = true then 1 else 0)), kv_h e z' zl) ∧ kx_frK z z' ∧ kw_ctK t L (kx_atom t L br a).2.1 z' ∧ ((kx_atom t L br a).1 = true → kx_pr (ps ++ (kx_atom t L br a).2.2.map kx_pk) z') := by
  have hL := hc.1.2
  -- the letter
  have let1 : kv_Rn (d + 5) 48 63 [some (.ref 30), some (.int x), some (.int (kx_sg t L a)), u3] [] (kv_h e z zl) = kv_Rn (d + 5) 48 79 [some (.ref 30), some (.int x), some (.int (kx_sg t L a)), some (.int (kx_li (kx_sg t L a)))] [] (kv_h e z zl) := by
    by_cases q : kx_sg t L a = -1
    · rw [q, kx_li_m1]
      simp only [kv_e48_63, kv_e48_64, kv_e48_67, kv_e48_68, kv_e48_78, kv_o10, not_false_eq_true, not_true, if_true, if_false, kv_then_s, kv_then_v, kv_then_n, List.cons_append, List.nil_append, kv_Ci, kv_Cr, kv_Cn, kv_Cu, kv_C0, kv_catc, kv_gCi, kv_gCl, kv_gCr, kv_nb0, kv_nb1, kv_nbi, kv_nb01, Nat.reduceAdd, Nat.reduceLeDiff, show ((0 : Int32) ≤ -1) = False from by decide]
    · obtain ⟨k, hk⟩ := kx_byte ht q
      obtain ⟨⟨k1, k2⟩, k3⟩ := kx_ch k
      have k4 := kx_li_K k
      rw [← hk] at k1 k2 k3 k4
      have ix := kx_io3 (d := d + 1) (c := kx_sg t L a) (eq_false k2) (eq_false k3) (h := kv_h e z zl)
      rw [k4] at ix
      simp only [kv_e48_63, kv_e48_64, kv_e48_71, kv_e48_73, kv_e48_74, kv_e48_75, kv_e48_78, kv_o10, not_false_eq_true, not_true, if_true, if_false, kv_then_s, kv_then_v, kv_then_n, List.cons_append, List.nil_append, kv_Ci, kv_Cr, kv_Cn, kv_Cu, kv_C0, kv_catc, kv_gCi, kv_gCl, kv_gCr, kv_nb0, kv_nb1, kv_nbi, kv_nb01, Nat.reduceAdd, Nat.reduceLeDiff, eq_true (Int32.not_lt.mp k2), k1, and_self, ix, Nat.reduceLT]
  rw [let1]
  unfold kx_atom
  rw [hnx]
  by_cases q2 : kx_li (kx_sg t L a) = -1
  · -- a number, or none
    obtain ⟨v, r, hv⟩ := kw_numberK (d := d + 3) (e := e) (zl := zl) (k := 4) (by omega) (show a ≤ 100000 by omega) hc
    rw [show Int32.ofNat 4 = (4 : Int32) from rfl] at r
    rw [hnx] at hv
    unfold kw_nu at r hv
    rw [hnx] at r hv
    by_cases q1 : kw_isd (kx_sg t L a)
    · rw [if_pos q1] at r hv ⊢
      have hv := hv q1
      by_cases q3 : kw_isd (kx_sg t L (kw_nm t L 4 a 0).1)
      · rw [@decide_eq_true _ (Classical.propDecidable _) q3] at r ⊢
        refine ⟨kv_z z 1 (upd (upd (z 1) 2 (Int32.ofNat (kw_nm t L 4 a 0).1)) 3 v), ?_, kx_frK_1, kx_ct_1 hc, fun q => absurd q (by simp)⟩
        simp only [kv_e48_79, kv_e48_80, kv_e48_107, kv_e48_108, kv_e48_111, kv_e48_112, kv_e48_115, kv_e48_118, kv_e48_119, kv_o10, not_false_eq_true, not_true, if_true, if_false, kv_then_s, kv_then_v, kv_then_n, List.cons_append, List.nil_append, kv_Ci, kv_Cr, kv_Cn, kv_Cu, kv_C0, kv_catc, kv_gCi, kv_gCl, kv_gCr, kv_nb0, kv_nb1, kv_nbi, kv_nb01, Nat.reduceAdd, Nat.reduceLeDiff, q2, show ((-1 : Int32) < 0) = True from by decide, r, Bool.not_true, Bool.false_eq_true, eq_self]
      · rw [@decide_eq_false _ (Classical.propDecidable _) q3] at r ⊢
        have vn : kv_z z 1 (upd (upd (z 1) 2 (Int32.ofNat (kw_nm t L 4 a 0).1)) 3 v) 1 3 = v := by rw [kv_zs]; rfl
        obtain ⟨z', r2, f2, p2⟩ := kx_addK (d := d + 4) (e := e) (zl := zl) 0 v (kx_pr_1 (f := upd (upd (z 1) 2 (Int32.ofNat (kw_nm t L 4 a 0).1)) 3 v) hp) (by omega)
        refine ⟨z', ?_, fun c a1 a2 a3 => (f2 c a2 a3).trans (kv_zne _ _ a1), kx_ct_fr (kx_ct_1 (b := (kw_nm t L 4 a 0).1) (v := v) hc) (f2 1 (by omega) (by omega)) (f2 2 (by omega) (by omega)), fun _ => ?_⟩
        · simp only [kv_e48_79, kv_e48_80, kv_e48_107, kv_e48_108, kv_e48_111, kv_e48_112, kv_e48_115, kv_e48_120, kv_e48_121, kv_e48_124, kv_e48_125, kv_e48_126, kv_e48_129, kv_e48_132, kv_e48_135, kv_e48_136, kv_o10, not_false_eq_true, not_true, if_true, if_false, kv_then_s, kv_then_v, kv_then_n, List.cons_append, List.nil_append, kv_Ci, kv_Cr, kv_Cn, kv_Cu, kv_C0, kv_catc, kv_gCi, kv_gCl, kv_gCr, kv_nb0, kv_nb1, kv_nbi, kv_nb01, Nat.reduceAdd, Nat.reduceLeDiff, q2, show ((-1 : Int32) < 0) = True from by decide, r, Bool.not_false, vn, kv_isL31, r2]
        · rw [hv] at p2
          exact p2
    · rw [if_neg q1] at r ⊢
      rw [if_neg (show ¬ ¬ kx_li (kx_sg t L a) = -1 from fun s => s q2), if_neg h91]
      refine ⟨kv_z z 1 (upd (upd (z 1) 2 (Int32.ofNat a)) 3 v), ?_, kx_frK_1, kx_ct_1 hc, fun q => absurd q (by simp)⟩
      simp only [kv_e48_79, kv_e48_80, kv_e48_107, kv_e48_108, kv_e48_111, kv_e48_112, kv_e48_115, kv_e48_118, kv_e48_119, kv_o10, not_false_eq_true, not_true, if_true, if_false, kv_then_s, kv_then_v, kv_then_n, List.cons_append, List.nil_append, kv_Ci, kv_Cr, kv_Cn, kv_Cu, kv_C0, kv_catc, kv_gCi, kv_gCl, kv_gCr, kv_nb0, kv_nb1, kv_nbi, kv_nb01, Nat.reduceAdd, Nat.reduceLeDiff, q2, show ((-1 : Int32) < 0) = True from by decide, r, Bool.false_eq_true, eq_self]
  · -- a letter
    have q1 : ¬ kw_isd (kx_sg t L a) := fun s => q2 (kx_isd_li s)
    rw [if_neg q1, if_pos q2]
    obtain ⟨k, hk8, hk⟩ := (kx_li_r (kx_sg t L a)).resolve_left q2
    have hlt := kx_sg_ne (t := t) (L := L) (a := a) (fun s => q2 (by rw [s]; exact kx_li_m1))
    obtain ⟨z', r2, f2, p2⟩ := kx_addK (d := d + 4) (e := e) (zl := zl) 1 (Int32.ofNat k) (kx_pr_1 (f := upd (z 1) 2 (Int32.ofNat (a + 1))) hp) (by omega)
    refine ⟨z', ?_, fun c a1 a2 a3 => (f2 c a2 a3).trans (kv_zne _ _ a1), kx_ct_fr (kw_ctK_a (b := a + 1) hc) (f2 1 (by omega) (by omega)) (f2 2 (by omega) (by omega)), fun _ => ?_⟩
    · simp only [kv_e48_79, kv_e48_80, kv_e48_83, kv_e48_84, kv_e48_87, kv_e48_88, kv_e48_91, kv_e48_92, kv_e48_93, kv_e48_96, kv_e48_97, kv_e48_100, kv_e48_101, kv_e48_102, kv_e48_105, kv_e48_106, kv_o10, not_false_eq_true, not_true, if_true, if_false, kv_then_s, kv_then_v, kv_then_n, List.cons_append, List.nil_append, kv_Ci, kv_Cr, kv_Cn, kv_Cu, kv_C0, kv_catc, kv_gCi, kv_gCl, kv_gCr, kv_nb0, kv_nb1, kv_nbi, kv_nb01, Nat.reduceAdd, Nat.reduceLeDiff, hk, kw_n0 (show k < 2147483648 by omega), hc.2.1, kv_suc, kv_isL31, r2]
    · rw [hk, kv_tn (by omega)]
      exact p2
theorem kx_atom_n (h : kx_sg t L (kw_nx t L a) = 91) : kx_atom t L none a = (false, kw_nx t L a, []) := by
  unfold kx_atom
  rw [h, if_neg kx_isd_91, if_neg (fun s => s kx_li_91), if_pos rfl]
theorem kx_atom_s {p : Nat → kx_Q} (h : kx_sg t L (kw_nx t L a) = 91) : kx_atom t L (some p) a = kx_close t L 93 (p (kw_nx t L a + 1)) := by
  unfold kx_atom
  rw [h, if_neg kx_isd_91, if_neg (fun s => s kx_li_91), if_pos rfl]
theorem kx_close_1 {c : Int32} {r : kx_Q} (h : r.1 = true) (g : kx_sg t L (kw_nx t L r.2.1) = c) : kx_close t L c r = (true, kw_nx t L r.2.1 + 1, r.2.2) := by
  unfold kx_close
  rw [if_pos h, if_pos g]
theorem kx_close_2 {c : Int32} {r : kx_Q} (h : r.1 = true) (g : ¬ kx_sg t L (kw_nx t L r.2.1) = c) : kx_close t L c r = (false, kw_nx t L r.2.1, r.2.2) := by
  unfold kx_close
  rw [if_pos h, if_neg g]
theorem kx_close_0 {c : Int32} {r : kx_Q} (h : ¬ r.1 = true) : kx_close t L c r = r := if_neg h
theorem kx_atomK (ht : ∀ i, i < L → kw_rg (t i) 1 255) {br : Option (Nat → kx_Q)} {dp : Nat} (hd : dp ≤ 6) (hb : (dp = 6 ∧ br = none) ∨ (dp < 6 ∧ ∃ p, br = some p ∧ kx_W L p ∧ kx_SK t L e zl (d + 4) 46 [some (.ref 30), some (.int (Int32.ofNat (dp + 1))), none, none] p)) : kx_SK t L e zl (d + 5) 48 [some (.ref 30), some (.int (Int32.ofNat dp)), none, none] (kx_atom t L br) := by
  intro a ps z ha hc hp hl
  have hL := hc.1.2
  have n1 := kw_nx_le t L a
  have n2 := kw_nx_L (t := t) ha
  have sg := kw_signK (d := d + 4) (e := e) (zl := zl) (show a ≤ 100000 by omega) hc
  have c1 := kw_ctK_a (b := kw_nx t L a) hc
  have p1 : kx_pr ps (kw_aK z (kw_nx t L a)) := kx_pr_1 hp
  by_cases q : kx_sg t L (kw_nx t L a) = 91
  · have hlt := kx_sg_ne (t := t) (L := L) (a := kw_nx t L a) (fun s => absurd (q.symm.trans s) (by decide))
    rcases hb with ⟨h6, hb⟩ | ⟨h6, p, hb, hW, hS⟩
    · subst hb
      rw [kx_atom_n q]
      refine ⟨kw_aK z (kw_nx t L a), ?_, kx_frK_1, c1, fun r => absurd r (by simp)⟩
      subst h6
      simp only [kv_e48_0, kv_e48_1, kv_e48_4, kv_e48_7, kv_e48_8, kv_e48_9, kv_e48_11, kv_e48_14, kv_e48_15, kv_e48_17, kv_e48_20, kv_e48_21, kv_o10, not_false_eq_true, not_true, if_true, if_false, kv_then_s, kv_then_v, kv_then_n, List.cons_append, List.nil_append, kv_Ci, kv_Cr, kv_Cn, kv_Cu, kv_C0, kv_catc, kv_gCi, kv_gCl, kv_gCr, kv_nb0, kv_nb1, kv_nbi, kv_nb01, Nat.reduceAdd, Nat.reduceLeDiff, sg, q, kx_L6, show ((6 : Int32) < 6) = False from by decide, Bool.false_eq_true]
    · subst hb
      rw [kx_atom_s q]
      have ld : (Int32.ofNat dp < 6) = True := by rw [show (6 : Int32) = Int32.ofNat 6 from rfl, kv_nlt (by omega) (by omega)]; exact eq_true h6
      have c2 := kw_ctK_a (b := kw_nx t L a + 1) hc
      obtain ⟨z3, r3, f3, c3, p3⟩ := hS (kw_nx t L a + 1) ps (kw_aK z (kw_nx t L a + 1)) (by omega) c2 (kx_pr_1 hp) (by omega)
      have e2 : kv_z (kw_aK z (kw_nx t L a)) 1 (upd (kw_aK z (kw_nx t L a) 1) 2 (Int32.ofNat (kw_nx t L a + 1))) = kw_aK z (kw_nx t L a + 1) := kw_aK_aK z _ _
      have e1 : kw_aK z (kw_nx t L a) 1 2 = Int32.ofNat (kw_nx t L a) := rfl
      obtain ⟨⟨w1, w2⟩, w3⟩ := hW (kw_nx t L a + 1) (by omega)
      by_cases qo : (p (kw_nx t L a + 1)).1 = true
      · have tk := kw_takeK (d := d + 3) (e := e) (zl := zl) 93 (show (p (kw_nx t L a + 1)).2.1 ≤ 100000 by omega) c3
        by_cases qc : kx_sg t L (kw_nx t L (p (kw_nx t L a + 1)).2.1) = 93
        · rw [if_pos qc] at tk
          rw [kx_close_1 qo qc]
          refine ⟨kw_aK z3 (kw_nx t L (p (kw_nx t L a + 1)).2.1 + 1), ?_, kx_frK_tr (kx_frK_tr kx_frK_1 f3) kx_frK_1, kw_ctK_a c3, fun _ => kx_pr_1 (p3 qo)⟩
          simp only [kv_e48_0, kv_e48_1, kv_e48_4, kv_e48_7, kv_e48_8, kv_e48_9, kv_e48_11, kv_e48_14, kv_e48_15, kv_e48_17, kv_e48_22, kv_e48_23, kv_e48_26, kv_e48_27, kv_e48_30, kv_e48_31, kv_e48_32, kv_e48_35, kv_e48_36, kv_e48_37, kv_e48_38, kv_e48_39, kv_e48_42, kv_e48_45, kv_e48_46, kv_e48_49, kv_e48_51, kv_e48_54, kv_e48_57, kv_e48_58, kv_e48_62, kv_o10, not_false_eq_true, not_true, if_true, if_false, kv_then_s, kv_then_v, kv_then_n, List.cons_append, List.nil_append, kv_Ci, kv_Cr, kv_Cn, kv_Cu, kv_C0, kv_catc, kv_gCi, kv_gCl, kv_gCr, kv_nb0, kv_nb1, kv_nbi, kv_nb01, Nat.reduceAdd, Nat.reduceLeDiff, sg, q, ld, e1, e2, kv_suc, r3, qo, tk]
        · rw [if_neg qc] at tk
          rw [kx_close_2 qo qc]
          refine ⟨kw_aK z3 (kw_nx t L (p (kw_nx t L a + 1)).2.1), ?_, kx_frK_tr (kx_frK_tr kx_frK_1 f3) kx_frK_1, kw_ctK_a c3, fun s => absurd s (by simp)⟩
          simp only [kv_e48_0, kv_e48_1, kv_e48_4, kv_e48_7, kv_e48_8, kv_e48_9, kv_e48_11, kv_e48_14, kv_e48_15, kv_e48_17, kv_e48_22, kv_e48_23, kv_e48_26, kv_e48_27, kv_e48_30, kv_e48_31, kv_e48_32, kv_e48_35, kv_e48_36, kv_e48_37, kv_e48_38, kv_e48_39, kv_e48_42, kv_e48_45, kv_e48_46, kv_e48_49, kv_e48_51, kv_e48_54, kv_e48_61, kv_e48_62, kv_o10, not_false_eq_true, not_true, if_true, if_false, kv_then_s, kv_then_v, kv_then_n, List.cons_append, List.nil_append, kv_Ci, kv_Cr, kv_Cn, kv_Cu, kv_C0, kv_catc, kv_gCi, kv_gCl, kv_gCr, kv_nb0, kv_nb1, kv_nbi, kv_nb01, Nat.reduceAdd, Nat.reduceLeDiff, sg, q, ld, e1, e2, kv_suc, r3, qo, tk, Bool.false_eq_true]
      · rw [kx_close_0 qo]
        refine ⟨z3, ?_, kx_frK_tr kx_frK_1 f3, c3, fun s => absurd s qo⟩
        simp only [kv_e48_0, kv_e48_1, kv_e48_4, kv_e48_7, kv_e48_8, kv_e48_9, kv_e48_11, kv_e48_14, kv_e48_15, kv_e48_17, kv_e48_22, kv_e48_23, kv_e48_26, kv_e48_27, kv_e48_30, kv_e48_31, kv_e48_32, kv_e48_35, kv_e48_36, kv_e48_37, kv_e48_38, kv_e48_39, kv_e48_42, kv_e48_61, kv_e48_62, kv_o10, not_false_eq_true, not_true, if_true, if_false, kv_then_s, kv_then_v, kv_then_n, List.cons_append, List.nil_append, kv_Ci, kv_Cr, kv_Cn, kv_Cu, kv_C0, kv_catc, kv_gCi, kv_gCl, kv_gCr, kv_nb0, kv_nb1, kv_nbi, kv_nb01, Nat.reduceAdd, Nat.reduceLeDiff, sg, q, ld, e1, e2, kv_suc, r3, qo, Bool.false_eq_true, eq_self]
  · have ea : kx_atom t L br a = kx_atom t L br (kw_nx t L a) := by
      unfold kx_atom
      rw [kw_nx_nx]
    rw [ea]
    obtain ⟨z2, r2, f2, c2, p2⟩ := kx_atom2K (d := d) (e := e) (zl := zl) (br := br) (x := Int32.ofNat dp) ht n2 (kw_nx_nx t L a) c1 p1 (by omega) q none
    refine ⟨z2, ?_, kx_frK_tr kx_frK_1 f2, c2, p2⟩
    simp only [kv_e48_0, kv_e48_1, kv_e48_4, kv_e48_7, kv_e48_8, kv_e48_9, kv_e48_11, kv_o10, not_false_eq_true, not_true, if_true, if_false, kv_then_s, kv_then_v, kv_then_n, List.cons_append, List.nil_append, kv_Ci, kv_Cr, kv_Cn, kv_Cu, kv_C0, kv_catc, kv_gCi, kv_gCl, kv_gCr, kv_nb0, kv_nb1, kv_nbi, kv_nb01, Nat.reduceAdd, Nat.reduceLeDiff, sg, q]
    exact r2
end
