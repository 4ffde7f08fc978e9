/-! text(0): the model takes a field -/
section
variable {d n : Nat} {z : Nat → Nat → Int32} {zl : Nat → Nat → Int64}
theorem kx_tk1 (u : Option Value) : ∀ m j (z : Nat → Nat → Int32), j + m = 4 → (∀ i, i < j → z 14 i = z 11 i) → ∃ z1, kv_Rn d 191 18 [some (.ref 0), some (.int (Int32.ofNat j)), u] [] (kv_m z zl) = kv_Rn d 191 41 [some (.ref 0), some (.int (Int32.ofNat 4)), u] [] (kv_m z1 zl) ∧ (∀ c, c ≠ 14 → z1 c = z c) ∧ ∀ i, i < 4 → z1 14 i = z 11 i := by
  intro m
  induction m with
  | zero =>
    intro j z hj hv
    have hj : j = 4 := by omega
    subst hj
    refine ⟨z, ?_, fun _ _ => rfl, hv⟩
    rw [kv_e191_18]
    simp only [kv_e191_19, kv_e191_20, kv_e191_23, kv_e191_24, kv_e191_27, kv_e191_28, kv_e191_29, kv_e191_32, kv_e191_33, kv_e191_34, kv_e191_35, kv_e191_38, kv_o10, not_false_eq_true, not_true, if_true, if_false, kv_then_s, kv_then_v, kv_then_n, List.cons_append, List.nil_append, kv_Ci, kv_Cr, kv_Cn, kv_Cu, kv_C0, kv_catc, kv_gCi, kv_gCl, kv_gCr, kv_nb0, kv_nb1, kv_nbi, kv_nb01, Nat.reduceAdd, Nat.reduceLeDiff, show ((4 : Int32) ≤ Int32.ofNat 4) = True from by decide]
  | succ m ih =>
    intro j z hj hv
    have hj4 : j < 4 := by omega
    have hj2 : j < 2147483648 := by omega
    have ge : ((4 : Int32) ≤ Int32.ofNat j) = False := kv_ln_ (m := 4) hj4 (by omega)
    obtain ⟨y, ey⟩ : ∃ y, y = kv_z z 14 (upd (z 14) j (z 11 j)) := ⟨_, rfl⟩
    have fy : ∀ c, c ≠ 14 → y c = z c := fun c h => by rw [ey]; exact kv_zne _ _ h
    obtain ⟨z1, r1, g1, v1⟩ := ih (j + 1) y (by omega) (fun i hi => by
      rw [fy 11 (by omega), ey, kv_zs]
      unfold upd
      by_cases q : i = j
      · rw [if_pos q, q]
      · rw [if_neg q]
        exact hv i (by omega))
    refine ⟨z1, ?_, fun c h => (g1 c h).trans (fy c h), by rw [fy 11 (by omega)] at v1; exact v1⟩
    rw [← r1]
    conv => lhs; rw [kv_e191_18]
    simp only [kv_e191_19, kv_e191_20, kv_e191_23, kv_e191_24, kv_e191_27, kv_e191_28, kv_e191_29, kv_e191_32, kv_e191_33, kv_e191_34, kv_e191_35, kv_e191_38, kv_o10, not_false_eq_true, not_true, if_true, if_false, kv_then_s, kv_then_v, kv_then_n, List.cons_append, List.nil_append, kv_Ci, kv_Cr, kv_Cn, kv_Cu, kv_C0, kv_catc, kv_gCi, kv_gCl, kv_gCr, kv_nb0, kv_nb1, kv_nbi, kv_nb01, Nat.reduceAdd, Nat.reduceLeDiff, ge, kw_n0 hj2, kv_tn hj2, kv_lN hj4, kv_am11, kv_am14, kv_ar_lt (show 11 < 300 by omega), kv_rd_lt (show 11 < 300 by omega), or_self, ← ey, kv_suc]
theorem kx_tk2 (u : Option Value) : ∀ m j (z : Nat → Nat → Int32), j + m = 18 → (∀ i, i < j → z 15 i = z 13 i) → ∃ z1, kv_Rn d 191 43 [some (.ref 0), some (.int (Int32.ofNat j)), u] [] (kv_m z zl) = kv_Rn d 191 67 [some (.ref 0), some (.int (Int32.ofNat 18)), u] [] (kv_m z1 zl) ∧ (∀ c, c ≠ 15 → z1 c = z c) ∧ ∀ i, i < 18 → z1 15 i = z 13 i := by
  intro m
  induction m with
  | zero =>
    intro j z hj hv
    have hj : j = 18 := by omega
    subst hj
    refine ⟨z, ?_, fun _ _ => rfl, hv⟩
    rw [kv_e191_43]
    simp only [kv_e191_44, kv_e191_46, kv_e191_49, kv_e191_50, kv_e191_53, kv_e191_54, kv_e191_55, kv_e191_58, kv_e191_59, kv_e191_60, kv_e191_61, kv_e191_64, kv_o10, not_false_eq_true, not_true, if_true, if_false, kv_then_s, kv_then_v, kv_then_n, List.cons_append, List.nil_append, kv_Ci, kv_Cr, kv_Cn, kv_Cu, kv_C0, kv_catc, kv_gCi, kv_gCl, kv_gCr, kv_nb0, kv_nb1, kv_nbi, kv_nb01, Nat.reduceAdd, Nat.reduceLeDiff, show ((18 : Int32) ≤ Int32.ofNat 18) = True from by decide]
  | succ m ih =>
    intro j z hj hv
    have hj4 : j < 18 := by omega
    have hj2 : j < 2147483648 := by omega
    have ge : ((18 : Int32) ≤ Int32.ofNat j) = False := kv_ln_ (m := 18) hj4 (by omega)
    obtain ⟨y, ey⟩ : ∃ y, y = kv_z z 15 (upd (z 15) j (z 13 j)) := ⟨_, rfl⟩
    have fy : ∀ c, c ≠ 15 → y c = z c := fun c h => by rw [ey]; exact kv_zne _ _ h
    obtain ⟨z1, r1, g1, v1⟩ := ih (j + 1) y (by omega) (fun i hi => by
      rw [fy 13 (by omega), ey, kv_zs]
      unfold upd
      by_cases q : i = j
      · rw [if_pos q, q]
      · rw [if_neg q]
        exact hv i (by omega))
    refine ⟨z1, ?_, fun c h => (g1 c h).trans (fy c h), by rw [fy 13 (by omega)] at v1; exact v1⟩
    rw [← r1]
    conv => lhs; rw [kv_e191_43]
    simp only [kv_e191_44, kv_e191_46, kv_e191_49, kv_e191_50, kv_e191_53, kv_e191_54, kv_e191_55, kv_e191_58, kv_e191_59, kv_e191_60, kv_e191_61, kv_e191_64, kv_o10, not_false_eq_true, not_true, if_true, if_false, kv_then_s, kv_then_v, kv_then_n, List.cons_append, List.nil_append, kv_Ci, kv_Cr, kv_Cn, kv_Cu, kv_C0, kv_catc, kv_gCi, kv_gCl, kv_gCr, kv_nb0, kv_nb1, kv_nbi, kv_nb01, Nat.reduceAdd, Nat.reduceLeDiff, ge, kw_n0 hj2, kv_tn hj2, kv_lN hj4, kv_am13, kv_am15, kv_ar_lt (show 13 < 300 by omega), kv_rd_lt (show 13 < 300 by omega), or_self, ← ey, kv_suc]
theorem kx_tk3 (u : Option Value) : ∀ m j (z : Nat → Nat → Int32), j + m = 147 → (∀ i, i < j → z 16 i = 0) → ∃ z1, kv_Rn d 191 69 [some (.ref 0), some (.int (Int32.ofNat j)), u] [] (kv_m z zl) = kv_Rn d 191 89 [some (.ref 0), some (.int (Int32.ofNat 147)), u] [] (kv_m z1 zl) ∧ (∀ c, c ≠ 16 → z1 c = z c) ∧ ∀ i, i < 147 → z1 16 i = 0 := by
  intro m
  induction m with
  | zero =>
    intro j z hj hv
    have hj : j = 147 := by omega
    subst hj
    refine ⟨z, ?_, fun _ _ => rfl, hv⟩
    rw [kv_e191_69]
    simp only [kv_e191_70, kv_e191_73, kv_e191_76, kv_e191_77, kv_e191_80, kv_e191_81, kv_e191_82, kv_e191_83, kv_e191_86, kv_o10, not_false_eq_true, not_true, if_true, if_false, kv_then_s, kv_then_v, kv_then_n, List.cons_append, List.nil_append, kv_Ci, kv_Cr, kv_Cn, kv_Cu, kv_C0, kv_catc, kv_gCi, kv_gCl, kv_gCr, kv_nb0, kv_nb1, kv_nbi, kv_nb01, Nat.reduceAdd, Nat.reduceLeDiff, show ((147 : Int32) ≤ Int32.ofNat 147) = True from by decide]
  | succ m ih =>
    intro j z hj hv
    have hj4 : j < 147 := by omega
    have hj2 : j < 2147483648 := by omega
    have ge : ((147 : Int32) ≤ Int32.ofNat j) = False := kv_ln_ (m := 147) hj4 (by omega)
    obtain ⟨y, ey⟩ : ∃ y, y = kv_z z 16 (upd (z 16) j 0) := ⟨_, rfl⟩
    have fy : ∀ c, c ≠ 16 → y c = z c := fun c h => by rw [ey]; exact kv_zne _ _ h
    obtain ⟨z1, r1, g1, v1⟩ := ih (j + 1) y (by omega) (fun i hi => by
      rw [ey, kv_zs]
      unfold upd
      by_cases q : i = j
      · rw [if_pos q]
      · rw [if_neg q]
        exact hv i (by omega))
    refine ⟨z1, ?_, fun c h => (g1 c h).trans (fy c h), v1⟩
    rw [← r1]
    conv => lhs; rw [kv_e191_69]
    simp only [kv_e191_70, kv_e191_73, kv_e191_76, kv_e191_77, kv_e191_80, kv_e191_81, kv_e191_82, kv_e191_83, kv_e191_86, kv_o10, not_false_eq_true, not_true, if_true, if_false, kv_then_s, kv_then_v, kv_then_n, List.cons_append, List.nil_append, kv_Ci, kv_Cr, kv_Cn, kv_Cu, kv_C0, kv_catc, kv_gCi, kv_gCl, kv_gCr, kv_nb0, kv_nb1, kv_nbi, kv_nb01, Nat.reduceAdd, Nat.reduceLeDiff, ge, kw_n0 hj2, kv_tn hj2, kv_lN hj4, kv_am16, or_self, ← ey, kv_suc]
theorem kx_13 (k w : Nat) : (13 : Int32) * Int32.ofNat k + Int32.ofNat w = Int32.ofNat (13 * k + w) := by rw [show (13 : Int32) = Int32.ofNat 13 from rfl, kw_mulN, kw_addN]
theorem kx_putM {k w : Nat} (v : Int32) (hk : k < 8) (hw : w < 13) : kv_Rn d 194 0 [some (.ref 0), some (.int (Int32.ofNat k)), some (.int (Int32.ofNat w)), some (.int v)] [] (kv_m z zl) = some (none, kv_m (kv_z z 16 (upd (z 16) (13 * k + w) v)) zl) := by
  have hx : 13 * k + w < 2147483648 := by omega
  simp only [kv_e194_0, kv_e194_1, kv_e194_4, kv_e194_6, kv_e194_7, kv_e194_8, kv_e194_9, kv_e194_10, kv_e194_11, kv_e194_12, kv_o10, not_false_eq_true, not_true, if_true, if_false, kv_then_s, kv_then_v, kv_then_n, List.cons_append, List.nil_append, kv_Ci, kv_Cr, kv_Cn, kv_Cu, kv_C0, kv_catc, kv_gCi, kv_gCl, kv_gCr, kv_nb0, kv_nb1, kv_nbi, kv_nb01, Nat.reduceAdd, Nat.reduceLeDiff, kx_13, kw_n0 hx, kv_tn hx, kv_lN (show 13 * k + w < 147 by omega), kv_am16, or_self]
theorem kx_ofM {k w : Nat} (hk : k < 8) (hw : w < 13) : kv_Rn d 193 0 [some (.ref 0), some (.int (Int32.ofNat k)), some (.int (Int32.ofNat w))] [] (kv_m z zl) = some (some (.int (z 16 (13 * k + w))), kv_m z zl) := by
  have hx : 13 * k + w < 2147483648 := by omega
  simp only [kv_e193_0, kv_e193_1, kv_e193_4, kv_e193_6, kv_e193_7, kv_e193_8, kv_e193_9, kv_e193_10, kv_e193_11, kv_o10, not_false_eq_true, not_true, if_true, if_false, kv_then_s, kv_then_v, kv_then_n, List.cons_append, List.nil_append, kv_Ci, kv_Cr, kv_Cn, kv_Cu, kv_C0, kv_catc, kv_gCi, kv_gCl, kv_gCr, kv_nb0, kv_nb1, kv_nbi, kv_nb01, Nat.reduceAdd, Nat.reduceLeDiff, kx_13, kw_n0 hx, kv_tn hx, kv_lN (show 13 * k + w < 147 by omega), kv_am16, kv_ar_lt (show 16 < 300 by omega), kv_rd_lt (show 16 < 300 by omega), or_self]
/-- a kite's eight items -/
theorem kx_tk4 {k : Nat} (hk : k < 8) : ∀ m j (z : Nat → Nat → Int32), j + m = 8 → (∀ i, i < j → z 16 (13 * k + i) = z 12 (8 * k + i)) → ∃ z1, kv_Rn (d + 1) 191 101 [some (.ref 0), some (.int (Int32.ofNat k)), some (.int (Int32.ofNat j))] [] (kv_m z zl) = kv_Rn (d + 1) 191 130 [some (.ref 0), some (.int (Int32.ofNat k)), some (.int (Int32.ofNat 8))] [] (kv_m z1 zl) ∧ (∀ c, c ≠ 16 → z1 c = z c) ∧ (∀ i, i < 8 → z1 16 (13 * k + i) = z 12 (8 * k + i)) ∧ ∀ i, (i < 13 * k ∨ 13 * k + 8 ≤ i) → z1 16 i = z 16 i := by
  intro m
  induction m with
  | zero =>
    intro j z hj hv
    have hj : j = 8 := by omega
    subst hj
    refine ⟨z, ?_, fun _ _ => rfl, hv, fun _ _ => rfl⟩
    rw [kv_e191_101]
    simp only [kv_e191_102, kv_e191_104, kv_e191_107, kv_e191_108, kv_e191_109, kv_e191_110, kv_e191_111, kv_e191_114, kv_e191_116, kv_e191_117, kv_e191_118, kv_e191_119, kv_e191_120, kv_e191_121, kv_e191_124, kv_e191_127, kv_o10, not_false_eq_true, not_true, if_true, if_false, kv_then_s, kv_then_v, kv_then_n, List.cons_append, List.nil_append, kv_Ci, kv_Cr, kv_Cn, kv_Cu, kv_C0, kv_catc, kv_gCi, kv_gCl, kv_gCr, kv_nb0, kv_nb1, kv_nbi, kv_nb01, Nat.reduceAdd, Nat.reduceLeDiff, show ((8 : Int32) ≤ Int32.ofNat 8) = True from by decide]
  | succ m ih =>
    intro j z hj hv
    have hj4 : j < 8 := by omega
    have hx : 8 * k + j < 2147483648 := by omega
    have ge : ((8 : Int32) ≤ Int32.ofNat j) = False := kv_ln_ (m := 8) hj4 (by omega)
    obtain ⟨y, ey⟩ : ∃ y, y = kv_z z 16 (upd (z 16) (13 * k + j) (z 12 (8 * k + j))) := ⟨_, rfl⟩
    have fy : ∀ c, c ≠ 16 → y c = z c := fun c h => by rw [ey]; exact kv_zne _ _ h
    have y16 : y 16 = upd (z 16) (13 * k + j) (z 12 (8 * k + j)) := by rw [ey]; exact kv_zs _ _ _
    obtain ⟨z1, r1, g1, v1, o1⟩ := ih (j + 1) y (by omega) (fun i hi => by
      rw [y16, fy 12 (by omega)]
      unfold upd
      by_cases q : i = j
      · rw [if_pos (by omega), q]
      · rw [if_neg (by omega)]
        exact hv i (by omega))
    refine ⟨z1, ?_, fun c h => (g1 c h).trans (fy c h), by rw [fy 12 (by omega)] at v1; exact v1, fun i hi => (o1 i hi).trans (by rw [y16]; exact if_neg (by omega))⟩
    rw [← r1]
    have pt := kx_putM (d := d) (z := z) (zl := zl) (z 12 (8 * k + j)) hk (show j < 13 by omega)
    rw [← ey] at pt
    conv => lhs; rw [kv_e191_101]
    simp only [kv_e191_102, kv_e191_104, kv_e191_107, kv_e191_108, kv_e191_109, kv_e191_110, kv_e191_111, kv_e191_114, kv_e191_116, kv_e191_117, kv_e191_118, kv_e191_119, kv_e191_120, kv_e191_121, kv_e191_124, kv_e191_127, kv_o10, not_false_eq_true, not_true, if_true, if_false, kv_then_s, kv_then_v, kv_then_n, List.cons_append, List.nil_append, kv_Ci, kv_Cr, kv_Cn, kv_Cu, kv_C0, kv_catc, kv_gCi, kv_gCl, kv_gCr, kv_nb0, kv_nb1, kv_nbi, kv_nb01, Nat.reduceAdd, Nat.reduceLeDiff, ge, kx_ix8, kw_n0 hx, kv_tn hx, kv_lN (show 8 * k + j < 64 by omega), kv_am12, kv_ar_lt (show 12 < 300 by omega), kv_rd_lt (show 12 < 300 by omega), or_self, pt, kv_suc]
end
