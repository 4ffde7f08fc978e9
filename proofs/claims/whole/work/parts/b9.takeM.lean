/-! text(0): the model takes a field -/
section
variable {d n : Nat} {z : Nat → Nat → Int32} {zl : Nat → Nat → Int64}
theorem kx_tk1 (u : Option Value) : ∀ m j (z : Nat → Nat → Int32), j + m = 4 → (∀ i, i < j → z 14 i = z 11 i) → ∃ z1, kv_Rn d 191 18 [some (.ref 0), some (.int (Int32.ofNat j)), u] [] (kv_m z zl) = kv_Rn d 191 41 [some (.ref 0), some (.int (Int32.ofNat 4)), u] [] (kv_m z1 zl) ∧ (∀ c, c ≠ 14 → z1 c = z c) ∧ ∀ i, i < 4 → z1 14 i = z 11 i := by
  intro m
  induction m with
  | zero =>
    intro j z hj hv
    have hj : j = 4 := by omega
    subst hj
    refine ⟨z, ?_, fun _ _ => rfl, hv⟩
    rw [kv_e191_18]
    simp only [kv_e191_19, kv_e191_20, kv_e191_23, kv_e191_24, kv_e191_27, kv_e191_28, kv_e191_29, kv_e191_32, kv_e191_33, kv_e191_34, kv_e191_35, kv_e191_38, kv_o10, not_false_eq_true, not_true, if_true, if_false, kv_then_s, kv_then_v, kv_then_n, List.cons_append, List.nil_append, kv_Ci, kv_Cr, kv_Cn, kv_Cu, kv_C0, kv_catc, kv_gCi, kv_gCl, kv_gCr, kv_nb0, kv_nb1, kv_nbi, kv_nb01, Nat.reduceAdd, Nat.reduceLeDiff, show ((4 : Int32) ≤ Int32.ofNat 4) = True from by decide]
  | succ m ih =>
    intro j z hj hv
    have hj4 : j < 4 := by omega
    have hj2 : j < 2147483648 := by omega
    have ge : ((4 : Int32) ≤ Int32.ofNat j) = False := kv_ln_ (m := 4) hj4 (by omega)
    obtain ⟨y, ey⟩ : ∃ y, y = kv_z z 14 (upd (z 14) j (z 11 j)) := ⟨_, rfl⟩
    have fy : ∀ c, c ≠ 14 → y c = z c := fun c h => by rw [ey]; exact kv_zne _ _ h
    obtain ⟨z1, r1, g1, v1⟩ := ih (j + 1) y (by omega) (fun i hi => by
      rw [fy 11 (by omega), ey, kv_zs]
      unfold upd
      by_cases q : i = j
      · rw [if_pos q, q]
      · rw [if_neg q]
        exact hv i (by omega))
    refine ⟨z1, ?_, fun c h => (g1 c h).trans (fy c h), by rw [fy 11 (by omega)] at v1; exact v1⟩
    rw [← r1]
    conv => lhs; rw [kv_e191_18]
    simp only [kv_e191_19, kv_e191_20, kv_e191_23, kv_e191_24, kv_e191_27, kv_e191_28, kv_e191_29, kv_e191_32, kv_e191_33, kv_e191_34, kv_e191_35, kv_e191_38, kv_o10, not_false_eq_true, not_true, if_true, if_false, kv_then_s, kv_then_v, kv_then_n, List.cons_append, List.nil_append, kv_Ci, kv_Cr, kv_Cn, kv_Cu, kv_C0, kv_catc, kv_gCi, kv_gCl, kv_gCr, kv_nb0, kv_nb1, kv_nbi, kv_nb01, Nat.reduceAdd, Nat.reduceLeDiff, ge, kw_n0 hj2, kv_tn hj2, kv_lN hj4, kv_am11, kv_am14, kv_ar_lt (show 11 < 300 by omega), kv_rd_lt (show 11 < 300 by omega), or_self, ← ey, kv_suc]
theorem kx_tk2 (u : Option Value) : ∀ m j (z : Nat → Nat → Int32), j + m = 18 → (∀ i, i < j → z 15 i = z 13 i) → ∃ z1, kv_Rn d 191 43 [some (.ref 0), some (.int (Int32.ofNat j)), u] [] (kv_m z zl) = kv_Rn d 191 67 [some (.ref 0), some (.int (Int32.ofNat 18)), u] [] (kv_m z1 zl) ∧ (∀ c, c ≠ 15 → z1 c = z c) ∧ ∀ i, i < 18 → z1 15 i = z 13 i := by
  intro m
  induction m with
  | zero =>
    intro j z hj hv
    have hj : j = 18 := by omega
    subst hj
    refine ⟨z, ?_, fun _ _ => rfl, hv⟩
    rw [kv_e191_43]
    simp only [kv_e191_44, kv_e191_46, kv_e191_49, kv_e191_50, kv_e191_53, kv_e191_54, kv_e191_55, kv_e191_58, kv_e191_59, kv_e191_60, kv_e191_61, kv_e191_64, kv_o10, not_false_eq_true, not_true, if_true, if_false, kv_then_s, kv_then_v, kv_then_n, List.cons_append, List.nil_append, kv_Ci, kv_Cr, kv_Cn, kv_Cu, kv_C0, kv_catc, kv_gCi, kv_gCl, kv_gCr, kv_nb0, kv_nb1, kv_nbi, kv_nb01, Nat.reduceAdd, Nat.reduceLeDiff, show ((18 : Int32) ≤ Int32.ofNat 18) = True from by decide]
  | succ m ih =>
    intro j z hj hv
    have hj4 : j < 18 := by omega
    have hj2 : j < 2147483648 := by omega
    have ge : ((18 : Int32) ≤ Int32.ofNat j) = False := kv_ln_ (m := 18) hj4 (by omega)
    obtain ⟨y, ey⟩ : ∃ y, y = kv_z z 15 (upd (z 15) j (z 13 j)) := ⟨_, rfl⟩
    have fy : ∀ c, c ≠ 15 → y c = z c := fun c h => by rw [ey]; exact kv_zne _ _ h
    obtain ⟨z1, r1, g1, v1⟩ := ih (j + 1) y (by omega) (fun i hi => by
      rw [fy 13 (by omega), ey, kv_zs]
      unfold upd
      by_cases q : i = j
      · rw [if_pos q, q]
      · rw [if_neg q]
        exact hv i (by omega))
    refine ⟨z1, ?_, fun c h => (g1 c h).trans (fy c h), by rw [fy 13 (by omega)] at v1; exact v1⟩
    rw [← r1]
    conv => lhs; rw [kv_e191_43]
    simp only [kv_e191_44, kv_e191_46, kv_e191_49, kv_e191_50, kv_e191_53, kv_e191_54, kv_e191_55, kv_e191_58, kv_e191_59, kv_e191_60, kv_e191_61, kv_e191_64, kv_o10, not_false_eq_true, not_true, if_true, if_false, kv_then_s, kv_then_v, kv_then_n, List.cons_append, List.nil_append, kv_Ci, kv_Cr, kv_Cn, kv_Cu, kv_C0, kv_catc, kv_gCi, kv_gCl, kv_gCr, kv_nb0, kv_nb1, kv_nbi, kv_nb01, Nat.reduceAdd, Nat.reduceLeDiff, ge, kw_n0 hj2, kv_tn hj2, kv_lN hj4, kv_am13, kv_am15, kv_ar_lt (show 13 < 300 by omega), kv_rd_lt (show 13 < 300 by omega), or_self, ← ey, kv_suc]
theorem kx_tk3 (u : Option Value) : ∀ m j (z : Nat → Nat → Int32), j + m = 147 → (∀ i, i < j → z 16 i = 0) → ∃ z1, kv_Rn d 191 69 [some (.ref 0), some (.int (Int32.ofNat j)), u] [] (kv_m z zl) = kv_Rn d 191 89 [some (.ref 0), some (.int (Int32.ofNat 147)), u] [] (kv_m z1 zl) ∧ (∀ c, c ≠ 16 → z1 c = z c) ∧ ∀ i, i < 147 → z1 16 i = 0 := by
  intro m
  induction m with
  | zero =>
    intro j z hj hv
    have hj : j = 147 := by omega
    subst hj
    refine ⟨z, ?_, fun _ _ => rfl, hv⟩
    rw [kv_e191_69]
    simp only [kv_e191_70, kv_e191_73, kv_e191_76, kv_e191_77, kv_e191_80, kv_e191_81, kv_e191_82, kv_e191_83, kv_e191_86, kv_o10, not_false_eq_true, not_true, if_true, if_false, kv_then_s, kv_then_v, kv_then_n, List.cons_append, List.nil_append, kv_Ci, kv_Cr, kv_Cn, kv_Cu, kv_C0, kv_catc, kv_gCi, kv_gCl, kv_gCr, kv_nb0, kv_nb1, kv_nbi, kv_nb01, Nat.reduceAdd, Nat.reduceLeDiff, show ((147 : Int32) ≤ Int32.ofNat 147) = True from by decide]
  | succ m ih =>
    intro j z hj hv
    have hj4 : j < 147 := by omega
    have hj2 : j < 2147483648 := by omega
    have ge : ((147 : Int32) ≤ Int32.ofNat j) = False := kv_ln_ (m := 147) hj4 (by omega)
    obtain ⟨y, ey⟩ : ∃ y, y = kv_z z 16 (upd (z 16) j 0) := ⟨_, rfl⟩
    have fy : ∀ c, c ≠ 16 → y c = z c := fun c h => by rw [ey]; exact kv_zne _ _ h
    obtain ⟨z1, r1, g1, v1⟩ := ih (j + 1) y (by omega) (fun i hi => by
      rw [ey, kv_zs]
      unfold upd
      by_cases q : i = j
      · rw [if_pos q]
      · rw [if_neg q]
        exact hv i (by omega))
    refine ⟨z1, ?_, fun c h => (g1 c h).trans (fy c h), v1⟩
    rw [← r1]
    conv => lhs; rw [kv_e191_69]
    simp only [kv_e191_70, kv_e191_73, kv_e191_76, kv_e191_77, kv_e191_80, kv_e191_81, kv_e191_82, kv_e191_83, kv_e191_86, kv_o10, not_false_eq_true, not_true, if_true, if_false, kv_then_s, kv_then_v, kv_then_n, List.cons_append, List.nil_append, kv_Ci, kv_Cr, kv_Cn, kv_Cu, kv_C0, kv_catc, kv_gCi, kv_gCl, kv_gCr, kv_nb0, kv_nb1, kv_nbi, kv_nb01, Nat.reduceAdd, Nat.reduceLeDiff, ge, kw_n0 hj2, kv_tn hj2, kv_lN hj4, kv_am16, or_self, ← ey, kv_suc]
theorem kx_13 (k w : Nat) : (13 : Int32) * Int32.ofNat k + Int32.ofNat w = Int32.ofNat (13 * k + w) := by rw [show (13 : Int32) = Int32.ofNat 13 from rfl, kw_mulN, kw_addN]
theorem kx_putM {k w : Nat} (v : Int32) (hk : k < 8) (hw : w < 13) : kv_Rn d 194 0 [some (.ref 0), some (.int (Int32.ofNat k)), some (.int (Int32.ofNat w)), some (.int v)] [] (kv_m z zl) = some (none, kv_m (kv_z z 16 (upd (z 16) (13 * k + w) v)) zl) := by
  have hx : 13 * k + w < 2147483648 := by omega
  simp only [kv_e194_0, kv_e194_1, kv_e194_4, kv_e194_6, kv_e194_7, kv_e194_8, kv_e194_9, kv_e194_10, kv_e194_11, kv_e194_12, kv_o10, not_false_eq_true, not_true, if_true, if_false, kv_then_s, kv_then_v, kv_then_n, List.cons_append, List.nil_append, kv_Ci, kv_Cr, kv_Cn, kv_Cu, kv_C0, kv_catc, kv_gCi, kv_gCl, kv_gCr, kv_nb0, kv_nb1, kv_nbi, kv_nb01, Nat.reduceAdd, Nat.reduceLeDiff, kx_13, kw_n0 hx, kv_tn hx, kv_lN (show 13 * k + w < 147 by omega), kv_am16, or_self]
theorem kx_ofM {k w : Nat} (hk : k < 8) (hw : w < 13) : kv_Rn d 193 0 [some (.ref 0), some (.int (Int32.ofNat k)), some (.int (Int32.ofNat w))] [] (kv_m z zl) = some (some (.int (z 16 (13 * k + w))), kv_m z zl) := by
  have hx : 13 * k + w < 2147483648 := by omega
  simp only [kv_e193_0, kv_e193_1, kv_e193_4, kv_e193_6, kv_e193_7, kv_e193_8, kv_e193_9, kv_e193_10, kv_e193_11, kv_o10, not_false_eq_true, not_true, if_true, if_false, kv_then_s, kv_then_v, kv_then_n, List.cons_append, List.nil_append, kv_Ci, kv_Cr, kv_Cn, kv_Cu, kv_C0, kv_catc, kv_gCi, kv_gCl, kv_gCr, kv_nb0, kv_nb1, kv_nbi, kv_nb01, Nat.reduceAdd, Nat.reduceLeDiff, kx_13, kw_n0 hx, kv_tn hx, kv_lN (show 13 * k + w < 147 by omega), kv_am16, kv_ar_lt (show 16 < 300 by omega), kv_rd_lt (show 16 < 300 by omega), or_self]
/-- a kite's eight items -/
theorem kx_tk4 {k : Nat} (hk : k < 8) : ∀ m j (z : Nat → Nat → Int32), j + m = 8 → (∀ i, i < j → z 16 (13 * k + i) = z 12 (8 * k + i)) → ∃ z1, kv_Rn (d + 1) 191 101 [some (.ref 0), some (.int (Int32.ofNat k)), some (.int (Int32.ofNat j))] [] (kv_m z zl) = kv_Rn (d + 1) 191 130 [some (.ref 0), some (.int (Int32.ofNat k)), some (.int (Int32.ofNat 8))] [] (kv_m z1 zl) ∧ (∀ c, c ≠ 16 → z1 c = z c) ∧ (∀ i, i < 8 → z1 16 (13 * k + i) = z 12 (8 * k + i)) ∧ ∀ i, (i < 13 * k ∨ 13 * k + 8 ≤ i) → z1 16 i = z 16 i := by
  intro m
  induction m with
  | zero =>
    intro j z hj hv
    have hj : j = 8 := by omega
    subst hj
    refine ⟨z, ?_, fun _ _ => rfl, hv, fun _ _ => rfl⟩
    rw [kv_e191_101]
    simp only [kv_e191_102, kv_e191_104, kv_e191_107, kv_e191_108, kv_e191_109, kv_e191_110, kv_e191_111, kv_e191_114, kv_e191_116, kv_e191_117, kv_e191_118, kv_e191_119, kv_e191_120, kv_e191_121, kv_e191_124, kv_e191_127, kv_o10, not_false_eq_true, not_true, if_true, if_false, kv_then_s, kv_then_v, kv_then_n, List.cons_append, List.nil_append, kv_Ci, kv_Cr, kv_Cn, kv_Cu, kv_C0, kv_catc, kv_gCi, kv_gCl, kv_gCr, kv_nb0, kv_nb1, kv_nbi, kv_nb01, Nat.reduceAdd, Nat.reduceLeDiff, show ((8 : Int32) ≤ Int32.ofNat 8) = True from by decide]
  | succ m ih =>
    intro j z hj hv
    have hj4 : j < 8 := by omega
    have hx : 8 * k + j < 2147483648 := by omega
    have ge : ((8 : Int32) ≤ Int32.ofNat j) = False := kv_ln_ (m := 8) hj4 (by omega)
    obtain ⟨y, ey⟩ : ∃ y, y = kv_z z 16 (upd (z 16) (13 * k + j) (z 12 (8 * k + j))) := ⟨_, rfl⟩
    have fy : ∀ c, c ≠ 16 → y c = z c := fun c h => by rw [ey]; exact kv_zne _ _ h
    have y16 : y 16 = upd (z 16) (13 * k + j) (z 12 (8 * k + j)) := by rw [ey]; exact kv_zs _ _ _
    obtain ⟨z1, r1, g1, v1, o1⟩ := ih (j + 1) y (by omega) (fun i hi => by
      rw [y16, fy 12 (by omega)]
      unfold upd
      by_cases q : i = j
      · rw [if_pos (by omega), q]
      · rw [if_neg (by omega)]
        exact hv i (by omega))
    refine ⟨z1, ?_, fun c h => (g1 c h).trans (fy c h), by rw [fy 12 (by omega)] at v1; exact v1, fun i hi => (o1 i hi).trans (by rw [y16]; exact if_neg (by omega))⟩
    rw [← r1]
    have pt := kx_putM (d := d) (z := z) (zl := zl) (z 12 (8 * k + j)) hk (show j < 13 by omega)
    rw [← ey] at pt
    conv => lhs; rw [kv_e191_101]
    simp only [kv_e191_102, kv_e191_104, kv_e191_107, kv_e191_108, kv_e191_109, kv_e191_110, kv_e191_111, kv_e191_114, kv_e191_116, kv_e191_117, kv_e191_118, kv_e191_119, kv_e191_120, kv_e191_121, kv_e191_124, kv_e191_127, kv_o10, not_false_eq_true, not_true, if_true, if_false, kv_then_s, kv_then_v, kv_then_n, List.cons_append, List.nil_append, kv_Ci, kv_Cr, kv_Cn, kv_Cu, kv_C0, kv_catc, kv_gCi, kv_gCl, kv_gCr, kv_nb0, kv_nb1, kv_nbi, kv_nb01, Nat.reduceAdd, Nat.reduceLeDiff, ge, kx_ix8, kw_n0 hx, kv_tn hx, kv_lN (show 8 * k + j < 64 by omega), kv_am12, kv_ar_lt (show 12 < 300 by omega), kv_rd_lt (show 12 < 300 by omega), or_self, pt, kv_suc]
def kx_mr (K : Nat → Int32) (w : Nat) : Int32 := if w < 8 then K w else if w = 8 then K 3 else if w = 11 then 1 else 0
def kx_PT (j : Nat) (K : Nat → Nat → Int32) (z : Nat → Nat → Int32) : Prop := (∀ k, k < 8 → ∀ w, w < 13 → z 16 (13 * k + w) = if k < j then kx_mr (K k) w else 0) ∧ ∀ i, 104 ≤ i → i < 147 → z 16 i = 0
theorem kx_tk5 {K : Nat → Nat → Int32} (hn : n ≤ 8) : ∀ m j (z : Nat → Nat → Int32) (u : Option Value), j + m = n → z 0 24 = Int32.ofNat n → (∀ k, k < n → ∀ i, i < 8 → z 12 (8 * k + i) = K k i) → kx_PT j K z → ∃ z1 u1, kv_Rn (d + 1) 191 91 [some (.ref 0), some (.int (Int32.ofNat j)), u] [] (kv_m z zl) = kv_Rn (d + 1) 191 157 [some (.ref 0), some (.int (Int32.ofNat n)), u1] [] (kv_m z1 zl) ∧ (∀ c, c ≠ 16 → z1 c = z c) ∧ kx_PT n K z1 := by
  intro m
  induction m with
  | zero =>
    intro j z u hj h24 hK hv
    have hj : j = n := by omega
    subst hj
    refine ⟨z, u, ?_, fun _ _ => rfl, hv⟩
    rw [kv_e191_91]
    simp only [kv_e191_92, kv_e191_93, kv_e191_96, kv_o10, not_false_eq_true, not_true, if_true, if_false, kv_then_s, kv_then_v, kv_then_n, List.cons_append, List.nil_append, kv_Ci, kv_Cr, kv_Cn, kv_Cu, kv_C0, kv_catc, kv_gCi, kv_gCl, kv_gCr, kv_nb0, kv_nb1, kv_nbi, kv_nb01, Nat.reduceAdd, Nat.reduceLeDiff, h24, show (Int32.ofNat j ≤ Int32.ofNat j) = True from eq_true (Int32.le_refl _)]
  | succ m ih =>
    intro j z u hj h24 hK hv
    have hjn : j < n := by omega
    have hj8 : j < 8 := by omega
    have ge : (Int32.ofNat n ≤ Int32.ofNat j) = False := kv_ln_ hjn (by omega)
    obtain ⟨z1, r1, f1, v1, o1⟩ := kx_tk4 (d := d) (zl := zl) hj8 8 0 z (Nat.zero_add _) (fun i hi => absurd hi (Nat.not_lt_zero _))
    have r1 : kv_Rn (d + 1) 191 101 [some (.ref 0), some (.int (Int32.ofNat j)), some (.int 0)] [] (kv_m z zl) = kv_Rn (d + 1) 191 130 [some (.ref 0), some (.int (Int32.ofNat j)), some (.int (Int32.ofNat 8))] [] (kv_m z1 zl) := r1
    obtain ⟨y1, e1⟩ : ∃ y, y = kv_z z1 16 (upd (z1 16) (13 * j + 8) (z1 16 (13 * j + 3))) := ⟨_, rfl⟩
    obtain ⟨y2, e2⟩ : ∃ y, y = kv_z y1 16 (upd (y1 16) (13 * j + 11) 1) := ⟨_, rfl⟩
    have g1 : ∀ c, c ≠ 16 → y2 c = z c := fun c h => by rw [e2, kv_zne _ _ h, e1, kv_zne _ _ h]; exact f1 c h
    have y216 : y2 16 = upd (upd (z1 16) (13 * j + 8) (z1 16 (13 * j + 3))) (13 * j + 11) 1 := by rw [e2, kv_zs, e1, kv_zs]
    have pv : kx_PT (j + 1) K y2 := by
      refine ⟨fun k hk w hw => ?_, fun i h1 h2 => ?_⟩
      · rw [y216]
        by_cases qk : k = j
        · subst qk
          rw [if_pos (Nat.lt_succ_self _)]
          unfold upd kx_mr
          by_cases w11 : w = 11
          · subst w11
            rw [if_pos rfl]
            rfl
          · rw [if_neg (by omega)]
            by_cases w8 : w = 8
            · subst w8
              rw [if_pos rfl, v1 3 (by omega)]
              exact hK k hjn 3 (by omega)
            · rw [if_neg (by omega)]
              by_cases wl : w < 8
              · rw [if_pos wl, v1 w wl]
                exact hK k hjn w wl
              · rw [if_neg wl, if_neg w8, if_neg w11, o1 _ (by omega), hv.1 k hk w hw]
                exact if_neg (Nat.lt_irrefl _)
        · have e : upd (upd (z1 16) (13 * j + 8) (z1 16 (13 * j + 3))) (13 * j + 11) 1 (13 * k + w) = z1 16 (13 * k + w) := (if_neg (by omega)).trans (if_neg (by omega))
          rw [e, o1 _ (by omega), hv.1 k hk w hw]
          by_cases ql : k < j
          · rw [if_pos ql, if_pos (by omega)]
          · rw [if_neg ql, if_neg (by omega)]
      · rw [y216]
        have e : upd (upd (z1 16) (13 * j + 8) (z1 16 (13 * j + 3))) (13 * j + 11) 1 i = z1 16 i := (if_neg (by omega)).trans (if_neg (by omega))
        rw [e, o1 i (by omega)]
        exact hv.2 i h1 h2
    obtain ⟨z3, u3, r3, f3, v3⟩ := ih (j + 1) y2 (some (.int (Int32.ofNat 8))) (by omega) (by rw [g1 0 (by omega)]; exact h24) (fun k hk i hi => by rw [g1 12 (by omega)]; exact hK k hk i hi) pv
    refine ⟨z3, u3, ?_, fun c h => (f3 c h).trans (g1 c h), v3⟩
    rw [← r3]
    have of3 := kx_ofM (d := d) (z := z1) (zl := zl) hj8 (show 3 < 13 by omega)
    have pt8 := kx_putM (d := d) (z := z1) (zl := zl) (z1 16 (13 * j + 3)) hj8 (show 8 < 13 by omega)
    have pt11 := kx_putM (d := d) (z := y1) (zl := zl) 1 hj8 (show 11 < 13 by omega)
    rw [← e1] at pt8
    rw [← e2] at pt11
    rw [show Int32.ofNat 3 = (3 : Int32) from rfl] at of3
    rw [show Int32.ofNat 8 = (8 : Int32) from rfl] at pt8
    rw [show Int32.ofNat 11 = (11 : Int32) from rfl] at pt11
    conv => lhs; rw [kv_e191_91]
    simp only [kv_e191_92, kv_e191_93, kv_e191_96, kv_e191_99, kv_e191_100, kv_o10, not_false_eq_true, not_true, if_true, if_false, kv_then_s, kv_then_v, kv_then_n, List.cons_append, List.nil_append, kv_Ci, kv_Cr, kv_Cn, kv_Cu, kv_C0, kv_catc, kv_gCi, kv_gCl, kv_gCr, kv_nb0, kv_nb1, kv_nbi, kv_nb01, Nat.reduceAdd, Nat.reduceLeDiff, h24, ge, r1]
    simp only [kv_e191_130, kv_e191_131, kv_e191_132, kv_e191_134, kv_e191_135, kv_e191_136, kv_e191_137, kv_e191_140, kv_e191_143, kv_e191_144, kv_e191_145, kv_e191_147, kv_e191_148, kv_e191_151, kv_e191_154, kv_o10, not_false_eq_true, not_true, if_true, if_false, kv_then_s, kv_then_v, kv_then_n, List.cons_append, List.nil_append, kv_Ci, kv_Cr, kv_Cn, kv_Cu, kv_C0, kv_catc, kv_gCi, kv_gCl, kv_gCr, kv_nb0, kv_nb1, kv_nbi, kv_nb01, Nat.reduceAdd, Nat.reduceLeDiff, of3, pt8, pt11, kv_suc]
theorem kx_takeM {n m : Nat} {K : Nat → Nat → Int32} (hn : n ≤ 8) (h20 : z 0 20 = Int32.ofNat n) (h21 : z 0 21 = Int32.ofNat m) (hK : ∀ k, k < n → ∀ i, i < 8 → z 12 (8 * k + i) = K k i) : ∃ z', kv_Rn (d + 1) 191 0 [some (.ref 0), none, none] [] (kv_m z zl) = some (some (.int (Int32.ofNat n)), kv_m z' zl) ∧ (∀ c, c ≠ 0 → c ≠ 14 → c ≠ 15 → c ≠ 16 → z' c = z c) ∧ (∀ j, j ≠ 24 → j ≠ 25 → j ≠ 33 → j ≠ 40 → j ≠ 42 → z' 0 j = z 0 j) ∧ (z' 0 24 = Int32.ofNat n ∧ z' 0 25 = Int32.ofNat m ∧ z' 0 33 = 0 ∧ z' 0 40 = 0 ∧ z' 0 42 = 0) ∧ (∀ j, j < 4 → z' 14 j = z 11 j) ∧ (∀ j, j < 18 → z' 15 j = z 13 j) ∧ kx_PT n K z' := by
  obtain ⟨y1, e1⟩ : ∃ y, y = kx_f (kx_f z 24 (Int32.ofNat n)) 25 (Int32.ofNat m) := ⟨_, rfl⟩
  have f1 : ∀ c, c ≠ 0 → y1 c = z c := fun c h => by rw [e1, kx_f_fr _ _ _ h, kx_f_fr _ _ _ h]
  have g1 : ∀ j, j ≠ 24 → j ≠ 25 → y1 0 j = z 0 j := fun j h1 h2 => by rw [e1, kx_f_ne _ _ h2, kx_f_ne _ _ h1]
  have y24 : y1 0 24 = Int32.ofNat n := by rw [e1, kx_f_ne _ _ (by omega), kx_f_at]
  have y25 : y1 0 25 = Int32.ofNat m := by rw [e1, kx_f_at]
  obtain ⟨y2, r2, f2, v2⟩ := kx_tk1 (d := d + 1) (zl := zl) none 4 0 y1 (by omega) (fun i hi => absurd hi (Nat.not_lt_zero _))
  obtain ⟨y3, r3, f3, v3⟩ := kx_tk2 (d := d + 1) (zl := zl) none 18 0 y2 (by omega) (fun i hi => absurd hi (Nat.not_lt_zero _))
  obtain ⟨y4, r4, f4, v4⟩ := kx_tk3 (d := d + 1) (zl := zl) none 147 0 y3 (by omega) (fun i hi => absurd hi (Nat.not_lt_zero _))
  have h4 : ∀ c, c ≠ 14 → c ≠ 15 → c ≠ 16 → y4 c = y1 c := fun c a b c' => (f4 c c').trans ((f3 c b).trans (f2 c a))
  have p4 : kx_PT 0 K y4 := ⟨fun k hk w hw => by rw [v4 _ (by omega), if_neg (Nat.not_lt_zero _)], fun i h1 h2 => v4 i h2⟩
  obtain ⟨y5, u5, r5, f5, v5⟩ := kx_tk5 (d := d) (zl := zl) (K := K) hn n 0 y4 none (Nat.zero_add _) (by rw [h4 0 (by omega) (by omega) (by omega)]; exact y24) (fun k hk i hi => by rw [h4 12 (by omega) (by omega) (by omega), f1 12 (by omega)]; exact hK k hk i hi) p4
  have h5 : ∀ c, c ≠ 14 → c ≠ 15 → c ≠ 16 → y5 c = y1 c := fun c a b c' => (f5 c c').trans (h4 c a b c')
  have y50 : y5 0 = y1 0 := h5 0 (by omega) (by omega) (by omega)
  obtain ⟨z6, e6⟩ : ∃ y, y = kx_f (kx_f (kx_f y5 40 0) 33 0) 42 0 := ⟨_, rfl⟩
  have f6 : ∀ c, c ≠ 0 → z6 c = y5 c := fun c h => by rw [e6, kx_f_fr _ _ _ h, kx_f_fr _ _ _ h, kx_f_fr _ _ _ h]
  have g6 : ∀ j, j ≠ 33 → j ≠ 40 → j ≠ 42 → z6 0 j = y1 0 j := fun j h1 h2 h3 => by rw [e6, kx_f_ne _ _ h3, kx_f_ne _ _ h1, kx_f_ne _ _ h2, y50]
  refine ⟨z6, ?_, fun c a b c' d' => (f6 c a).trans ((h5 c b c' d').trans (f1 c a)), fun j a b c' d' e' => (g6 j c' d' e').trans (g1 j a b), ⟨(g6 24 (by omega) (by omega) (by omega)).trans y24, (g6 25 (by omega) (by omega) (by omega)).trans y25, by rw [e6, kx_f_ne _ _ (by omega), kx_f_at], by rw [e6, kx_f_ne _ _ (by omega), kx_f_ne _ _ (by omega), kx_f_at], by rw [e6, kx_f_at]⟩, fun j hj => ?_, fun j hj => ?_, ?_⟩
  · have r2 : kv_Rn (d + 1) 191 18 [some (.ref 0), some (.int 0), none] [] (kv_m y1 zl) = kv_Rn (d + 1) 191 41 [some (.ref 0), some (.int (Int32.ofNat 4)), none] [] (kv_m y2 zl) := r2
    have r3 : kv_Rn (d + 1) 191 43 [some (.ref 0), some (.int 0), none] [] (kv_m y2 zl) = kv_Rn (d + 1) 191 67 [some (.ref 0), some (.int (Int32.ofNat 18)), none] [] (kv_m y3 zl) := r3
    have r4 : kv_Rn (d + 1) 191 69 [some (.ref 0), some (.int 0), none] [] (kv_m y3 zl) = kv_Rn (d + 1) 191 89 [some (.ref 0), some (.int (Int32.ofNat 147)), none] [] (kv_m y4 zl) := r4
    have r5 : kv_Rn (d + 1) 191 91 [some (.ref 0), some (.int 0), none] [] (kv_m y4 zl) = kv_Rn (d + 1) 191 157 [some (.ref 0), some (.int (Int32.ofNat n)), u5] [] (kv_m y5 zl) := r5
    have w24 : kx_f z 24 (Int32.ofNat n) 0 21 = Int32.ofNat m := (kx_f_ne _ _ (by omega)).trans h21
    have z624 : z6 0 24 = Int32.ofNat n := (g6 24 (by omega) (by omega) (by omega)).trans y24
    simp only [kv_e191_0, kv_e191_1, kv_e191_2, kv_e191_5, kv_e191_8, kv_e191_9, kv_e191_10, kv_e191_13, kv_e191_16, kv_e191_17, kv_o10, not_false_eq_true, not_true, if_true, if_false, kv_then_s, kv_then_v, kv_then_n, List.cons_append, List.nil_append, kv_Ci, kv_Cr, kv_Cn, kv_Cu, kv_C0, kv_catc, kv_gCi, kv_gCl, kv_gCr, kv_nb0, kv_nb1, kv_nbi, kv_nb01, Nat.reduceAdd, Nat.reduceLeDiff, h20, kx_fd, w24, ← e1, r2]
    simp only [kv_e191_41, kv_e191_42, kv_o10, not_false_eq_true, not_true, if_true, if_false, kv_then_s, kv_then_v, kv_then_n, List.cons_append, List.nil_append, kv_Ci, kv_Cr, kv_Cn, kv_Cu, kv_C0, kv_catc, kv_gCi, kv_gCl, kv_gCr, kv_nb0, kv_nb1, kv_nbi, kv_nb01, Nat.reduceAdd, Nat.reduceLeDiff, r3]
    simp only [kv_e191_67, kv_e191_68, kv_o10, not_false_eq_true, not_true, if_true, if_false, kv_then_s, kv_then_v, kv_then_n, List.cons_append, List.nil_append, kv_Ci, kv_Cr, kv_Cn, kv_Cu, kv_C0, kv_catc, kv_gCi, kv_gCl, kv_gCr, kv_nb0, kv_nb1, kv_nbi, kv_nb01, Nat.reduceAdd, Nat.reduceLeDiff, r4]
    simp only [kv_e191_89, kv_e191_90, kv_o10, not_false_eq_true, not_true, if_true, if_false, kv_then_s, kv_then_v, kv_then_n, List.cons_append, List.nil_append, kv_Ci, kv_Cr, kv_Cn, kv_Cu, kv_C0, kv_catc, kv_gCi, kv_gCl, kv_gCr, kv_nb0, kv_nb1, kv_nbi, kv_nb01, Nat.reduceAdd, Nat.reduceLeDiff, r5]
    simp only [kv_e191_157, kv_e191_158, kv_e191_159, kv_e191_162, kv_e191_163, kv_e191_164, kv_e191_167, kv_e191_168, kv_e191_169_0, kv_e191_169_1, kv_e191_172, kv_e191_173, kv_e191_176, kv_o10, not_false_eq_true, not_true, if_true, if_false, kv_then_s, kv_then_v, kv_then_n, List.cons_append, List.nil_append, kv_Ci, kv_Cr, kv_Cn, kv_Cu, kv_C0, kv_catc, kv_gCi, kv_gCl, kv_gCr, kv_nb0, kv_nb1, kv_nbi, kv_nb01, Nat.reduceAdd, Nat.reduceLeDiff, kx_fd, ← e6, z624]
  · rw [f6 14 (by omega), f5 14 (by omega), f4 14 (by omega), f3 14 (by omega), v2 j hj, f1 11 (by omega)]
  · rw [f6 15 (by omega), f5 15 (by omega), f4 15 (by omega), v3 j hj, f2 13 (by omega), f1 13 (by omega)]
  · unfold kx_PT at v5 ⊢
    rw [f6 16 (by omega)]
    exact v5
end
