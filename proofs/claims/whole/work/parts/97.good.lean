/-! what laws are worth: codes that leave one value -/
section
variable {d n : Nat} {lt : Nat → Int32} {z : Nat → Nat → Int32} {zl : Nat → Nat → Int64}
def kx_ly {α : Type} (P : Nat → α → Prop) : Nat → List α → Prop
  | _, [] => True
  | i, c :: A => P i c ∧ kx_ly P (i + 1) A
theorem kx_ly_app {α : Type} {P : Nat → α → Prop} : ∀ {A B : List α} {i : Nat}, kx_ly P i (A ++ B) → kx_ly P i A ∧ kx_ly P (i + A.length) B := by
  intro A
  induction A with
  | nil => intro B i h; exact ⟨trivial, h⟩
  | cons c A ih =>
    intro B i h
    obtain ⟨h1, h2⟩ := ih h.2
    refine ⟨⟨h.1, h1⟩, ?_⟩
    rw [List.length_cons, show i + (A.length + 1) = i + 1 + A.length from by omega]
    exact h2
theorem kx_ly_of {α : Type} {P : Nat → α → Prop} {x : α} : ∀ {A : List α} {i : Nat}, (∀ j, j < A.length → P (i + j) (A.getD j x)) → kx_ly P i A := by
  intro A
  induction A with
  | nil => intro i _; trivial
  | cons c A ih =>
    intro i h
    refine ⟨h 0 (Nat.succ_pos _), ih (fun j hj => ?_)⟩
    have := h (j + 1) (by rw [List.length_cons]; omega)
    rw [show i + (j + 1) = i + 1 + j from by omega] at this
    exact this
def kx_KP (lt : Nat → Int32) (h : Nat) (A : List (Nat × Nat)) (v : Int32) : Prop := ∀ (S : Nat → Int32) (l f i : Nat) (s : List Int32), kx_ly (fun j x => S j = kx_pk x) i A → i + A.length ≤ l → l ≤ 256 → s.length + h ≤ 256 → kw_we S (Int32.ofNat l) lt (f + A.length) i s = kw_we S (Int32.ofNat l) lt f (i + A.length) (v :: s)
def kx_mP (z : Nat → Nat → Int32) (j : Nat) (x : Nat × Nat) : Prop := z 2 j = Int32.ofNat x.1 ∧ z 3 j = Int32.ofNat x.2
def kx_MP (lt : Nat → Int32) (h : Nat) (A : List (Nat × Nat)) (v : Int32) : Prop := ∀ (d n m i : Nat) (fr : Option Value) (s : List Int32) (p : Nat → Int32) (z : Nat → Nat → Int32) (zl : Nat → Nat → Int64), kx_ly (kx_mP z) (520 * n + i) A → n ≤ 6 → i + A.length ≤ m → m ≤ 520 → (∀ j, j < 8 → z 9 j = lt j) → kw_pl p s → s.length + h ≤ 80 → ∃ p', kw_pl p' (v :: s) ∧ kv_Rn (d + 2) 180 12 [some (.ref 0), some (.int (Int32.ofNat n)), fr, some (.int (Int32.ofNat m)), some (.int (Int32.ofNat s.length)), some (.int (Int32.ofNat (520 * n + i)))] [] (kv_m (kv_z z 10 p) zl) = kv_Rn (d + 2) 180 12 [some (.ref 0), some (.int (Int32.ofNat n)), fr, some (.int (Int32.ofNat m)), some (.int (Int32.ofNat (s.length + 1))), some (.int (Int32.ofNat (520 * n + i + A.length)))] [] (kv_m (kv_z z 10 p') zl)
/-- one value, whatever lies below -/
def kx_gd (lt : Nat → Int32) (tr : Bool) (h : Nat) (A : List (Nat × Nat)) : Prop := ∃ v, kw_rg v (-1000000) 1000000 ∧ (tr = true → kx_01 v) ∧ kx_KP lt h A v ∧ kx_MP lt h A v
theorem kx_gd_up {tr : Bool} {h h' : Nat} {A : List (Nat × Nat)} (g : kx_gd lt tr h A) (hh : h ≤ h') : kx_gd lt tr h' A := by
  obtain ⟨v, h1, h2, h3, h4⟩ := g
  exact ⟨v, h1, h2, fun S l f i s a1 a2 a3 a4 => h3 S l f i s a1 a2 a3 (by omega), fun d n m i fr s p z zl a1 a2 a3 a4 a5 a6 a7 => h4 d n m i fr s p z zl a1 a2 a3 a4 a5 a6 (by omega)⟩
theorem kx_gd_n {h : Nat} {A : List (Nat × Nat)} (g : kx_gd lt true h A) : kx_gd lt false h A := by
  obtain ⟨v, h1, h2, h3, h4⟩ := g
  exact ⟨v, h1, fun s => absurd s (by decide), h3, h4⟩
/-- the model's steps -/
theorem kx_520m {m i : Nat} (hm : m ≤ 520) (hn : n ≤ 6) (hi : i < m) : (520 * Int32.ofNat n + Int32.ofNat m ≤ Int32.ofNat (520 * n + i)) = False := by
  rw [kx_520]
  exact kv_ln_ (by omega) (by omega)
theorem kx_inc_m (k : Nat) : Int32.ofNat (k + 1) + (-1) = Int32.ofNat k := by
  rw [← kv_suc, Int32.add_assoc, show (1 : Int32) + -1 = 0 from by decide, Int32.add_zero]
theorem kx_mpush {m i : Nat} {fr : Option Value} {s : List Int32} {p : Nat → Int32} {c v : Nat} {w : Int32} (h9 : ∀ j, j < 8 → z 9 j = lt j) (hx : kx_mP z (520 * n + i) (c, v)) (hw : (c = 0 ∧ w = Int32.ofNat v) ∨ (c = 1 ∧ v < 8 ∧ w = lt v)) (hn : n ≤ 6) (hi : i < m) (hm : m ≤ 520) (hs : s.length < 80) : kv_Rn (d + 2) 180 12 [some (.ref 0), some (.int (Int32.ofNat n)), fr, some (.int (Int32.ofNat m)), some (.int (Int32.ofNat s.length)), some (.int (Int32.ofNat (520 * n + i)))] [] (kv_m (kv_z z 10 p) zl) = kv_Rn (d + 2) 180 12 [some (.ref 0), some (.int (Int32.ofNat n)), fr, some (.int (Int32.ofNat m)), some (.int (Int32.ofNat (s.length + 1))), some (.int (Int32.ofNat (520 * n + i + 1)))] [] (kv_m (kv_z z 10 (upd p s.length w)) zl) := by
  obtain ⟨h2, h3⟩ := hx
  have hk : 520 * n + i < 3640 := by omega
  have hk2 : 520 * n + i < 2147483648 := by omega
  have hs2 : s.length < 2147483648 := by omega
  have g2 : kv_z z 10 p 2 = z 2 := kv_zne _ _ (by omega)
  have g3 : kv_z z 10 p 3 = z 3 := kv_zne _ _ (by omega)
  have g9 : kv_z z 10 p 9 = z 9 := kv_zne _ _ (by omega)
  have r2 : ∀ (w : Nat → Nat → Int32) j, kv_rd w 2 j = w 2 j := fun w j => kv_rd_lt (by omega)
  have r3 : ∀ (w : Nat → Nat → Int32) j, kv_rd w 3 j = w 3 j := fun w j => kv_rd_lt (by omega)
  have r9 : ∀ (w : Nat → Nat → Int32) j, kv_rd w 9 j = w 9 j := fun w j => kv_rd_lt (by omega)
  have ez : kv_z (kv_z z 10 p) 10 (upd (kv_z z 10 p 10) s.length w) = kv_z z 10 (upd p s.length w) := by rw [kv_zs, kw_zz]
  conv => lhs; rw [kv_e180_12]
  rcases hw with ⟨rfl, rfl⟩ | ⟨rfl, hv, rfl⟩
  · have h2 : z 2 (520 * n + i) = 0 := h2
    simp only [kv_e180_14, kv_e180_17, kv_e180_18, kv_e180_19, kv_e180_20, kv_e180_21, kv_e180_24, kv_e180_25, kv_e180_28, kv_e180_30, kv_e180_31, kv_e180_34, kv_e180_35, kv_e180_38, kv_e180_40, kv_e180_41, kv_e180_42, kv_e180_45, kv_e180_46, kv_e180_49, kv_e180_51, kv_e180_52, kv_e180_55, kv_e180_57, kv_e180_58, kv_e180_61, kv_e180_62, kv_e180_65, kv_e180_67, kv_e180_68, kv_e180_71, kv_e180_72, kv_e180_75, kv_e180_76, kv_e180_79, kv_e180_81, kv_e180_82, kv_e180_83, kv_e180_84, kv_e180_87, kv_e180_165, kv_e180_168, kv_o10, not_false_eq_true, not_true, if_true, if_false, kv_then_s, kv_then_v, kv_then_n, List.cons_append, List.nil_append, kv_Ci, kv_Cr, kv_Cn, kv_Cu, kv_C0, kv_catc, kv_gCi, kv_gCl, kv_gCr, kv_nb0, kv_nb1, kv_nbi, kv_nb01, Nat.reduceAdd, Nat.reduceLeDiff, kx_520m hm hn hi, kw_n0 hk2, kv_tn hk2, kv_lN hk, kv_ar_lt (show 2 < 300 by omega), kv_ar_lt (show 3 < 300 by omega), kv_ar_lt (show 10 < 300 by omega), kv_am2, kv_am3, kv_am10, or_self, r2, r3, g2, g3, h2, h3, eq_self, kw_n0 hs2, kv_tn hs2, kv_lN hs, ez, kv_suc]
  · have h2 : z 2 (520 * n + i) = 1 := h2
    have hv2 : v < 2147483648 := by omega
    simp only [kv_e180_14, kv_e180_17, kv_e180_18, kv_e180_19, kv_e180_20, kv_e180_21, kv_e180_24, kv_e180_25, kv_e180_28, kv_e180_30, kv_e180_31, kv_e180_34, kv_e180_35, kv_e180_38, kv_e180_40, kv_e180_41, kv_e180_42, kv_e180_45, kv_e180_46, kv_e180_49, kv_e180_51, kv_e180_52, kv_e180_55, kv_e180_57, kv_e180_58, kv_e180_61, kv_e180_62, kv_e180_65, kv_e180_67, kv_e180_68, kv_e180_71, kv_e180_72, kv_e180_75, kv_e180_76, kv_e180_79, kv_e180_81, kv_e180_82, kv_e180_83, kv_e180_84, kv_e180_87, kv_e180_165, kv_e180_168, kv_o10, not_false_eq_true, not_true, if_true, if_false, kv_then_s, kv_then_v, kv_then_n, List.cons_append, List.nil_append, kv_Ci, kv_Cr, kv_Cn, kv_Cu, kv_C0, kv_catc, kv_gCi, kv_gCl, kv_gCr, kv_nb0, kv_nb1, kv_nbi, kv_nb01, Nat.reduceAdd, Nat.reduceLeDiff, kx_520m hm hn hi, kw_n0 hk2, kv_tn hk2, kv_lN hk, kv_ar_lt (show 2 < 300 by omega), kv_ar_lt (show 3 < 300 by omega), kv_ar_lt (show 9 < 300 by omega), kv_ar_lt (show 10 < 300 by omega), kv_am2, kv_am3, kv_am9, kv_am10, or_self, r2, r3, r9, g2, g3, g9, h2, h3, h9 v hv, show ((1 : Int32) = 0) = False from by decide, kw_n0 hs2, kv_tn hs2, kv_lN hs, kw_n0 hv2, kv_tn hv2, kv_lN hv, ez, kv_suc]
theorem kx_mnot {m i l : Nat} {fr : Option Value} {p : Nat → Int32} {y : Int32} {v : Nat} (hx : kx_mP z (520 * n + i) (9, v)) (hy : p l = y) (hn : n ≤ 6) (hi : i < m) (hm : m ≤ 520) (hs : l < 80) : kv_Rn (d + 2) 180 12 [some (.ref 0), some (.int (Int32.ofNat n)), fr, some (.int (Int32.ofNat m)), some (.int (Int32.ofNat (l + 1))), some (.int (Int32.ofNat (520 * n + i)))] [] (kv_m (kv_z z 10 p) zl) = kv_Rn (d + 2) 180 12 [some (.ref 0), some (.int (Int32.ofNat n)), fr, some (.int (Int32.ofNat m)), some (.int (Int32.ofNat (l + 1))), some (.int (Int32.ofNat (520 * n + i + 1)))] [] (kv_m (kv_z z 10 (upd p l (1 - y))) zl) := by
  have h2 : z 2 (520 * n + i) = 9 := hx.1
  have hk : 520 * n + i < 3640 := by omega
  have hk2 : 520 * n + i < 2147483648 := by omega
  have hs2 : l < 2147483648 := by omega
  have g2 : kv_z z 10 p 2 = z 2 := kv_zne _ _ (by omega)
  have g10 : kv_z z 10 p 10 = p := kv_zs _ _ _
  have r2 : ∀ (w : Nat → Nat → Int32) j, kv_rd w 2 j = w 2 j := fun w j => kv_rd_lt (by omega)
  have r10 : ∀ (w : Nat → Nat → Int32) j, kv_rd w 10 j = w 10 j := fun w j => kv_rd_lt (by omega)
  conv => lhs; rw [kv_e180_12]
  simp only [kv_e180_14, kv_e180_17, kv_e180_18, kv_e180_19, kv_e180_20, kv_e180_21, kv_e180_24, kv_e180_25, kv_e180_28, kv_e180_30, kv_e180_31, kv_e180_34, kv_e180_35, kv_e180_38, kv_e180_40, kv_e180_41, kv_e180_42, kv_e180_90, kv_e180_91, kv_e180_94, kv_e180_96, kv_e180_97, kv_e180_99, kv_e180_102, kv_e180_103, kv_e180_106, kv_e180_108, kv_e180_109, kv_e180_110, kv_e180_111, kv_e180_112, kv_e180_115, kv_e180_117, kv_e180_118, kv_e180_119, kv_e180_120, kv_e180_121, kv_e180_122, kv_e180_165, kv_e180_168, kv_o10, not_false_eq_true, not_true, if_true, if_false, kv_then_s, kv_then_v, kv_then_n, List.cons_append, List.nil_append, kv_Ci, kv_Cr, kv_Cn, kv_Cu, kv_C0, kv_catc, kv_gCi, kv_gCl, kv_gCr, kv_nb0, kv_nb1, kv_nbi, kv_nb01, Nat.reduceAdd, Nat.reduceLeDiff, kx_520m hm hn hi, kw_n0 hk2, kv_tn hk2, kv_lN hk, kv_ar_lt (show 2 < 300 by omega), kv_ar_lt (show 10 < 300 by omega), kv_am2, kv_am10, or_self, r2, r10, g2, g10, h2, show ((9 : Int32) = 0) = False from by decide, show ((9 : Int32) = 1) = False from by decide, kv_pre, kw_n0 hs2, kv_tn hs2, kv_lN hs, hy, kw_zz, kv_suc]
theorem kx_mop {m i l k : Nat} {fr : Option Value} {p : Nat → Int32} {x y w : Int32} {v : Nat} (hx : kx_mP z (520 * n + i) (k, v)) (hk1 : 2 ≤ k ∧ k ≤ 11 ∧ k ≠ 9) (hy : p (l + 1) = y) (hp : p l = x) (hwk : ∀ h, kv_Rn (d + 1) 179 0 [some (.int (Int32.ofNat k)), some (.long x.toInt64), none, some (.long y.toInt64), none] [] h = some (some (.int w), h)) (hn : n ≤ 6) (hi : i < m) (hm : m ≤ 520) (hs : l + 1 < 80) : kv_Rn (d + 2) 180 12 [some (.ref 0), some (.int (Int32.ofNat n)), fr, some (.int (Int32.ofNat m)), some (.int (Int32.ofNat (l + 1 + 1))), some (.int (Int32.ofNat (520 * n + i)))] [] (kv_m (kv_z z 10 p) zl) = kv_Rn (d + 2) 180 12 [some (.ref 0), some (.int (Int32.ofNat n)), fr, some (.int (Int32.ofNat m)), some (.int (Int32.ofNat (l + 1))), some (.int (Int32.ofNat (520 * n + i + 1)))] [] (kv_m (kv_z z 10 (upd p l w)) zl) := by
  have h2 : z 2 (520 * n + i) = Int32.ofNat k := hx.1
  have hk : 520 * n + i < 3640 := by omega
  have hk2 : 520 * n + i < 2147483648 := by omega
  have hs2 : l < 2147483648 := by omega
  have hs3 : l + 1 < 2147483648 := by omega
  have g2 : kv_z z 10 p 2 = z 2 := kv_zne _ _ (by omega)
  have g10 : kv_z z 10 p 10 = p := kv_zs _ _ _
  have r2 : ∀ (w : Nat → Nat → Int32) j, kv_rd w 2 j = w 2 j := fun w j => kv_rd_lt (by omega)
  have r10 : ∀ (w : Nat → Nat → Int32) j, kv_rd w 10 j = w 10 j := fun w j => kv_rd_lt (by omega)
  have e0 : (Int32.ofNat k = 0) = False := (kv_neq (b := 0) (by omega) (by omega)).trans (eq_false (by omega))
  have e1 : (Int32.ofNat k = 1) = False := (kv_neq (b := 1) (by omega) (by omega)).trans (eq_false (by omega))
  have e9 : (Int32.ofNat k = 9) = False := (kv_neq (b := 9) (by omega) (by omega)).trans (eq_false (by omega))
  conv => lhs; rw [kv_e180_12]
  simp only [kv_e180_14, kv_e180_17, kv_e180_18, kv_e180_19, kv_e180_20, kv_e180_21, kv_e180_24, kv_e180_25, kv_e180_28, kv_e180_30, kv_e180_31, kv_e180_34, kv_e180_35, kv_e180_38, kv_e180_40, kv_e180_41, kv_e180_42, kv_e180_90, kv_e180_91, kv_e180_94, kv_e180_96, kv_e180_97, kv_e180_99, kv_e180_125, kv_e180_128, kv_e180_129, kv_e180_132, kv_e180_134, kv_e180_135, kv_e180_136, kv_e180_137, kv_e180_140, kv_e180_142, kv_e180_143, kv_e180_144, kv_e180_147, kv_e180_149, kv_e180_150, kv_e180_151, kv_e180_152, kv_e180_153, kv_e180_154, kv_e180_157, kv_e180_159, kv_e180_160, kv_e180_161, kv_e180_164, kv_e180_165, kv_e180_168, kv_o10, not_false_eq_true, not_true, if_true, if_false, kv_then_s, kv_then_v, kv_then_n, List.cons_append, List.nil_append, kv_Ci, kv_Cr, kv_Cn, kv_Cu, kv_C0, kv_catc, kv_gCi, kv_gCl, kv_gCr, kv_nb0, kv_nb1, kv_nbi, kv_nb01, Nat.reduceAdd, Nat.reduceLeDiff, kx_520m hm hn hi, kw_n0 hk2, kv_tn hk2, kv_lN hk, kv_ar_lt (show 2 < 300 by omega), kv_ar_lt (show 10 < 300 by omega), kv_am2, kv_am10, or_self, r2, r10, g2, g10, h2, e0, e1, e9, kx_inc_m, kv_pre, kw_n0 hs2, kv_tn hs2, kv_lN (show l < 80 by omega), kw_n0 hs3, kv_tn hs3, kv_lN hs, hy, hp, hwk, kw_zz, kv_suc]
end
