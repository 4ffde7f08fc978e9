/-! text(1), fault(1): a law's text, both -/
section
variable {d n B W : Nat} {e : List kv_E} {z zK zM zK' zM' : Nat → Nat → Int32} {zl zlM : Nat → Nat → Int64}
theorem kx_rdK {t : Nat → Int32} {L : Nat} (ht : ∀ i, i < L → kw_rg (t i) 1 255) (hd : 80 ≤ d) (h1 : z 1 1 = Int32.ofNat L) (hL : L ≤ 240) (h2 : ∀ i, i < L → z 2 i = t i) : ∃ z', kv_Rn (d + 3) 39 0 [some (.ref 30), none, none] [] (kv_h e z zl) = some (some (.int (if (kx_LW t L).1 = true then 1 else 0)), kv_h e z' zl) ∧ kx_frK z z' ∧ kw_ctK t L (kx_LW t L).2.1 z' ∧ ((kx_LW t L).1 = true → kx_pr (kx_pg 0 (kx_LW t L).2.2) z') := by
  have g1 : kv_z (kw_aK z 0) 31 (upd (z 31) 1 0) 1 = kw_aK z 0 1 := kv_zne _ _ (by omega)
  have g2 : kv_z (kw_aK z 0) 31 (upd (z 31) 1 0) 2 = z 2 := (kv_zne _ _ (by omega)).trans (kw_aK_fr _ _ (by omega))
  have c0 : kw_ctK t L 0 (kv_z (kw_aK z 0) 31 (upd (z 31) 1 0)) := ⟨⟨by rw [g1]; exact h1, hL⟩, by rw [g1]; rfl, by rw [g2]; exact h2⟩
  have p0 : kx_pr [] (kv_z (kw_aK z 0) 31 (upd (z 31) 1 0)) := ⟨by rw [kv_zs]; rfl, fun i hi => by cases hi⟩
  obtain ⟨z', r, f, c, p⟩ := kx_law_l (d := d) (kx_clauseK (d := d + 1) (e := e) (zl := zl) ht (by omega)) 240 0 0 [] _ (by omega) (by omega) (by omega) c0 p0 (Nat.zero_le _)
  refine ⟨z', ?_, kx_frK_tr (fun c a1 a2 a3 => (kv_zne _ _ a2).trans (kv_zne _ _ a1)) f, c, p⟩
  unfold kx_LW
  rw [← r]
  have e31 : kw_aK z 0 31 = z 31 := kw_aK_fr _ _ (by omega)
  have e1 : kv_z z 1 (upd (z 1) 2 0) = kw_aK z 0 := rfl
  simp only [kv_e39_0, kv_e39_1, kv_e39_4, kv_e39_5, kv_e39_8, kv_e39_9, kv_e39_12, kv_e39_13, kv_e39_16, kv_e39_17, kv_e39_18, kv_e39_19, kv_o10, not_false_eq_true, not_true, if_true, if_false, kv_then_s, kv_then_v, kv_then_n, List.cons_append, List.nil_append, kv_Ci, kv_Cr, kv_Cn, kv_Cu, kv_C0, kv_catc, kv_gCi, kv_gCl, kv_gCr, kv_nb0, kv_nb1, kv_nbi, kv_nb01, Nat.reduceAdd, Nat.reduceLeDiff, kv_isL31, e1, e31]
  rfl
theorem kx_copyK {l : Nat} (hl : l < 6) : kv_Rn d 32 0 [some (.ref (9 + 2 * l)), some (.ref 31)] [] (kv_h e z zl) = some (none, kv_h e (kv_z (kv_z z (9 + 2 * l + 1) (va_cpy (z 32) (z (9 + 2 * l + 1)) 0 0 256)) (9 + 2 * l) (upd (z (9 + 2 * l)) 1 (z 31 1))) zl) := by
  have hS := @kw_isLn e l hl
  have hT := kv_isL31 e
  have a1 : kv_ia (kv_shK ++ e) 32 := ⟨by omega, 256, hT.1.2⟩
  have a2 : kv_ia (kv_shK ++ e) (9 + 2 * l + 1) := ⟨hS.2, 256, hS.1.2⟩
  have w1 : kv_aw (kv_shK ++ e) 32 = 256 := kv_isL_aw hT
  have w2 : kv_aw (kv_shK ++ e) (9 + 2 * l + 1) = 256 := kv_isL_aw hS
  have f1 : kv_z z (9 + 2 * l + 1) (va_cpy (z 32) (z (9 + 2 * l + 1)) 0 0 256) 31 = z 31 := kv_zne _ _ (by omega)
  have f2 : kv_z z (9 + 2 * l + 1) (va_cpy (z 32) (z (9 + 2 * l + 1)) 0 0 256) (9 + 2 * l) = z (9 + 2 * l) := kv_zne _ _ (by omega)
  simp only [kv_e32_0, kv_e32_1, kv_e32_4, kv_e32_5, kv_e32_6, kv_e32_9, kv_e32_10, kv_o10, not_false_eq_true, not_true, if_true, if_false, kv_then_s, kv_then_v, kv_then_n, List.cons_append, List.nil_append, kv_Ci, kv_Cr, kv_Cn, kv_Cu, kv_C0, kv_catc, kv_gCi, kv_gCl, kv_gCr, kv_nb0, kv_nb1, kv_nbi, kv_nb01, Nat.reduceAdd, Nat.reduceLeDiff, kv_isL31, hS]
  rw [kv_e32_13 a1 a2 ⟨⟨by decide, by decide, by decide⟩, by rw [w1]; decide, by rw [w2]; decide, by decide⟩]
  simp only [kv_e32_16, kv_e32_17, kv_e32_18, kv_e32_21, kv_e32_24, kv_o10, not_false_eq_true, not_true, if_true, if_false, kv_then_s, kv_then_v, kv_then_n, List.cons_append, List.nil_append, kv_Ci, kv_Cr, kv_Cn, kv_Cu, kv_C0, kv_catc, kv_gCi, kv_gCl, kv_gCr, kv_nb0, kv_nb1, kv_nbi, kv_nb01, Nat.reduceAdd, Nat.reduceLeDiff, kv_isL31, hS, show (256 : Int32).toNatClampNeg = 256 from rfl, show (0 : Int32).toNatClampNeg = 0 from rfl, f1, f2]
end
