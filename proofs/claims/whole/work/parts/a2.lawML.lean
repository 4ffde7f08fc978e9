/-! a law that was read is worth the same on both sides -/
section
variable {L n : Nat} {t : Nat → Int32} {z : Nat → Nat → Int32}
theorem kx_law_ML (hL : L ≤ 240) (hok : (kx_LW t L).1 = true) (hm : kx_mc n (kx_cds (kx_LW t L).2.2) z) (hr : kx_cr n (kx_rws 0 (kx_LW t L).2.2) z) {S : Nat → Int32} (hS : ∀ i, i < (kx_pg 0 (kx_LW t L).2.2).length → S i = (kx_pg 0 (kx_LW t L).2.2).getD i 0) : kw_ML z (Int32.ofNat n) (fun lt => kw_we S (Int32.ofNat (kx_pg 0 (kx_LW t L).2.2).length) lt 257 0 []) := by
  intro z' hz lt hl h9 zl d
  have hn := hm.1.2
  rw [kv_tn (by omega)] at hz
  obtain ⟨g1, g2, g3, g4, g5⟩ := kx_law_len (t := t) (L := L) (fun a ha => kx_WC_cls (t := t) (kx_W_S (t := t) (L := L) 6) (kx_W_U (t := t) (L := L) 6) ha) 240 0 (Nat.zero_le _)
  have e : kx_law (kx_cls t L (kx_S t L 6) (kx_U t L 6)) t L 240 0 = kx_LW t L := rfl
  rw [e] at g1 g2 g3 g4 g5
  have g3 := g3 0
  obtain ⟨V, hV1, hV2⟩ := kx_worth_all (lt := lt) (kx_LW t L).2.2 (kx_gc_LW hl)
  generalize kx_LW t L = R at *
  have e1 : kw_we S (Int32.ofNat (kx_pg 0 R.2.2).length) lt 257 0 [] = V := hV1 S _ 257 0 (kx_ly_of (x := 0) (fun j hj => by rw [Nat.zero_add]; exact hS j hj)) (Nat.zero_add _) (by omega) (by omega)
  have rl : (kx_rws 0 R.2.2).length = R.2.2.length := by
    generalize (0 : Nat) = m
    generalize R.2.2 = cl
    induction cl generalizing m with
    | nil => rfl
    | cons c cl ih => exact congrArg (· + 1) (ih _)
  have k1 : kx_ly (kx_rP z') (140 * n + 0) (kx_rws 0 R.2.2) := by
    refine kx_ly_of (x := (0, 0, 0)) (fun j hj => ?_)
    obtain ⟨b6, b7, b8⟩ := hr.2 j hj
    rw [rl] at hj
    obtain ⟨a6, a7, a8⟩ := hz.2.2 (140 * n + j) (by omega) (by omega)
    exact ⟨by rw [Nat.add_zero, a6]; exact b6, by rw [Nat.add_zero, a7]; exact b7, by rw [Nat.add_zero, a8]; exact b8⟩
  have k2 : kx_ly (kx_mP z') (520 * n + 0) (kx_cds R.2.2) := by
    refine kx_ly_of (x := (0, 0)) (fun j hj => ?_)
    obtain ⟨a2, a3⟩ := hz.1 (520 * n + j) (by omega) (by omega)
    obtain ⟨b2, b3⟩ := hm.2.2 j hj
    exact ⟨by rw [Nat.add_zero, a2]; exact b2, by rw [Nat.add_zero, a3]; exact b3⟩
  have k3 : z' 5 n = Int32.ofNat (0 + R.2.2.length) := by
    rw [Nat.zero_add, hz.2.1, ← rl]
    exact hr.1
  obtain ⟨s, r⟩ := hV2 d n 0 0 z' zl k1 k2 k3 (by omega) (by omega) hn h9
  refine ⟨s, ?_⟩
  dsimp only
  rw [e1, ← r]
  have e140 : (140 : Int32) * Int32.ofNat n = Int32.ofNat (140 * n + 0) := by
    rw [show (140 : Int32) = Int32.ofNat 140 from rfl, kw_mulN, Nat.add_zero]
  simp only [kv_e181_0, kv_e181_3, kv_e181_4, kv_e181_5, kv_o10, not_false_eq_true, not_true, if_true, if_false, kv_then_s, kv_then_v, kv_then_n, List.cons_append, List.nil_append, kv_Ci, kv_Cr, kv_Cn, kv_Cu, kv_C0, kv_catc, kv_gCi, kv_gCl, kv_gCr, kv_nb0, kv_nb1, kv_nbi, kv_nb01, Nat.reduceAdd, Nat.reduceLeDiff, e140]
end
