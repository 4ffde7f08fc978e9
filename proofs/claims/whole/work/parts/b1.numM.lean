/-! fields as texts: the model's numbers -/
section
variable {d L a : Nat} {t : Nat → Int32} {z : Nat → Nat → Int32} {zl : Nat → Nat → Int64}
theorem kx_two {x : Nat} {c : Int32} (h : kw_isd c) : (10 : Int32) * Int32.ofNat x + c - 48 = Int32.ofNat (x * 10 + kw_dgv c) := by
  have e := (kw_isd_v h).1
  rw [Int32.sub_eq_add_neg, Int32.add_assoc, ← Int32.sub_eq_add_neg, e, show (10 : Int32) = Int32.ofNat 10 from rfl, kw_mulN, kw_addN, Nat.mul_comm]
/-- what a number does -/
def kx_NM (t : Nat → Int32) (L : Nat) (z z' : Nat → Nat → Int32) (r : Bool × Nat × Int32) : Prop := (∀ c, c ≠ 0 → z' c = z c) ∧ (∀ j, j ≠ 3 → j ≠ 4 → z' 0 j = z 0 j) ∧ z' 0 4 = (if r.1 = true then -1 else Int32.ofNat r.2.1) ∧ (r.1 = true → kx_ctM t L r.2.1 z')
theorem kx_NM_f {j : Nat} {x : Int32} (hj : j = 3 ∨ j = 4) : (∀ c, c ≠ 0 → kx_f z j x c = z c) ∧ ∀ i, i ≠ 3 → i ≠ 4 → kx_f z j x 0 i = z 0 i := ⟨fun c h => kx_f_fr _ _ _ h, fun i h1 h2 => kx_f_ne _ _ (by omega)⟩
theorem kx_numT {lo hi : Int32} {v p : Nat} (hp : p ≤ L) (h1 : 1 ≤ p) (hc : kx_ctM t L p z) (hw : z 0 4 = -1) (nu : Bool × Nat × Nat) (hn : nu.1 = !(@decide (kw_isd (kx_sg t L p)) (Classical.propDecidable _))) (hn2 : nu.2 = (p, v)) : ∃ z', kv_Rn (d + 1) 182 67 [some (.ref 0), some (.int lo), some (.int hi), some (.int (Int32.ofNat v))] [] (kv_m z zl) = some (some (.int (Int32.ofNat v)), kv_m z' zl) ∧ kx_NM t L z z' (if nu.1 = true then (if lo ≤ Int32.ofNat nu.2.2 ∧ Int32.ofNat nu.2.2 ≤ hi then (true, nu.2.1, Int32.ofNat nu.2.2) else (false, nu.2.1 - 1, 0)) else (false, nu.2.1, 0)) := by
  have hL := hc.1.2
  have he := kx_here (d := d) (zl := zl) (show p ≤ 100000 by omega) hc
  have n1 : nu.2.1 = p := by rw [hn2]
  have n2 : nu.2.2 = v := by rw [hn2]
  rw [n1, n2]
  by_cases q : kw_isd (kx_sg t L p)
  · rw [@decide_eq_true _ (Classical.propDecidable _) q] at hn
    rw [if_neg (by rw [hn]; decide)]
    refine ⟨kx_f z 4 (Int32.ofNat p), ?_, (kx_NM_f (Or.inr rfl)).1, (kx_NM_f (Or.inr rfl)).2, kx_f_at _ _ _, fun s => absurd s (by simp)⟩
    simp only [kv_e182_67, kv_e182_68, kv_e182_71, kv_e182_74, kv_e182_77, kv_e182_78, kv_e182_81, kv_e182_84, kv_e182_85, kv_e182_86, kv_e182_87, kv_e182_90, kv_e182_93, kv_e182_94, kv_e182_95, kv_e182_98, kv_e182_99, kv_e182_100, kv_e182_103, kv_e182_104, kv_e182_107, kv_e182_108, kv_o10, not_false_eq_true, not_true, if_true, if_false, kv_then_s, kv_then_v, kv_then_n, List.cons_append, List.nil_append, kv_Ci, kv_Cr, kv_Cn, kv_Cu, kv_C0, kv_catc, kv_gCi, kv_gCl, kv_gCr, kv_nb0, kv_nb1, kv_nbi, kv_nb01, Nat.reduceAdd, Nat.reduceLeDiff, he, kx_isd1 q, kx_bad hw, hc.2.1]
  · rw [@decide_eq_false _ (Classical.propDecidable _) q] at hn
    rw [if_pos (by rw [hn]; decide)]
    by_cases g : lo ≤ Int32.ofNat v ∧ Int32.ofNat v ≤ hi
    · rw [if_pos g]
      refine ⟨z, ?_, fun _ _ => rfl, fun _ _ _ => rfl, hw, fun _ => hc⟩
      simp only [kv_e182_67, kv_e182_68, kv_e182_71, kv_e182_74, kv_e182_77, kv_e182_78, kv_e182_81, kv_e182_84, kv_e182_85, kv_e182_86, kv_e182_87, kv_e182_90, kv_e182_93, kv_e182_94, kv_e182_95, kv_e182_98, kv_e182_99, kv_e182_100, kv_e182_103, kv_e182_104, kv_e182_107, kv_e182_108, kv_o10, not_false_eq_true, not_true, if_true, if_false, kv_then_s, kv_then_v, kv_then_n, List.cons_append, List.nil_append, kv_Ci, kv_Cr, kv_Cn, kv_Cu, kv_C0, kv_catc, kv_gCi, kv_gCl, kv_gCr, kv_nb0, kv_nb1, kv_nbi, kv_nb01, Nat.reduceAdd, Nat.reduceLeDiff, he, kx_isd0 q, kw_in, g, and_self, show ((1 : Int32) = 0) = False from by decide]
    · rw [if_neg g]
      obtain ⟨m, rfl⟩ : ∃ m, p = m + 1 := ⟨p - 1, by omega⟩
      have w1 : kx_f z 3 (Int32.ofNat m) 0 4 = -1 := (kx_f_ne _ _ (by omega)).trans hw
      refine ⟨kx_f (kx_f z 3 (Int32.ofNat m)) 4 (Int32.ofNat m), ?_, fun c h => (kx_f_fr _ _ _ h).trans (kx_f_fr _ _ _ h), fun j h1 h2 => (kx_f_ne _ _ h2).trans (kx_f_ne _ _ h1), kx_f_at _ _ _, fun s => absurd s (by simp)⟩
      simp only [kv_e182_67, kv_e182_68, kv_e182_71, kv_e182_74, kv_e182_77, kv_e182_78, kv_e182_81, kv_e182_84, kv_e182_85, kv_e182_86, kv_e182_87, kv_e182_90, kv_e182_93, kv_e182_94, kv_e182_95, kv_e182_98, kv_e182_99, kv_e182_100, kv_e182_103, kv_e182_104, kv_e182_107, kv_e182_108, kv_o10, not_false_eq_true, not_true, if_true, if_false, kv_then_s, kv_then_v, kv_then_n, List.cons_append, List.nil_append, kv_Ci, kv_Cr, kv_Cn, kv_Cu, kv_C0, kv_catc, kv_gCi, kv_gCl, kv_gCr, kv_nb0, kv_nb1, kv_nbi, kv_nb01, Nat.reduceAdd, Nat.reduceLeDiff, he, kx_isd0 q, kw_in, g, hc.2.1, kv_pre, kx_fd, kx_bad w1, kx_f_at]
theorem kx_numM {lo hi : Int32} (ha : a ≤ L) (hc : kx_ctM t L a z) (hw : z 0 4 = -1) : ∃ v z', kv_Rn (d + 2) 182 0 [some (.ref 0), some (.int lo), some (.int hi), none] [] (kv_m z zl) = some (some (.int v), kv_m z' zl) ∧ kx_NM t L z z' (kx_nw t L lo hi a) ∧ ((kx_nw t L lo hi a).1 = true → v = (kx_nw t L lo hi a).2.2) := by
  have hL := hc.1.2
  have n1 := kw_nx_le t L a
  have n2 := kw_nx_L (t := t) ha
  have lk := kx_look (d := d) (zl := zl) (show a ≤ 100000 by omega) hc
  have wa : ∀ b, kx_a z b 0 4 = -1 := fun b => (kx_a_ne _ _ (by omega)).trans hw
  by_cases q : kw_isd (kx_sg t L (kw_nx t L a))
  · have hlt := kw_isd_lt q
    have c0 := kx_ctM_a (b := kw_nx t L a) hc
    have c1 := kx_ctM_a (b := kw_nx t L a + 1) hc
    have c2 := kx_ctM_a (b := kw_nx t L a + 1 + 1) hc
    have h0 := kx_here (d := d + 1) (zl := zl) (show kw_nx t L a ≤ 100000 by omega) c0
    have h1 := kx_here (d := d + 1) (zl := zl) (show kw_nx t L a + 1 ≤ 100000 by omega) c1
    have e0 := (kw_isd_v q).1
    by_cases q2 : kw_isd (kx_sg t L (kw_nx t L a + 1))
    · have hlt2 := kw_isd_lt q2
      have e2 := kx_two (x := kw_dgv (kx_sg t L (kw_nx t L a))) q2
      have nm : kw_nm t L 2 (kw_nx t L a) 0 = (kw_nx t L a + 1 + 1, kw_dgv (kx_sg t L (kw_nx t L a)) * 10 + kw_dgv (kx_sg t L (kw_nx t L a + 1))) := by
        rw [show (2 : Nat) = 1 + 1 from rfl, kw_nm_1 q, show (1 : Nat) = 0 + 1 from rfl, kw_nm_1 q2, Nat.zero_mul, Nat.zero_add]
        rfl
      have nu := kx_nu_1 (k := 2) q
      rw [nm] at nu
      obtain ⟨z', r, k⟩ := kx_numT (d := d + 1) (zl := zl) (lo := lo) (hi := hi) (v := kw_dgv (kx_sg t L (kw_nx t L a)) * 10 + kw_dgv (kx_sg t L (kw_nx t L a + 1))) (show kw_nx t L a + 1 + 1 ≤ L by omega) (by omega) c2 (wa _) (kw_nu t L 2 a) (by rw [nu]) (by rw [nu])
      have k : kx_NM t L (kx_a z (kw_nx t L a + 1 + 1)) z' (kx_nw t L lo hi a) := k
      refine ⟨Int32.ofNat (kw_dgv (kx_sg t L (kw_nx t L a)) * 10 + kw_dgv (kx_sg t L (kw_nx t L a + 1))), z', ?_, ⟨fun c h => (k.1 c h).trans (kx_a_fr _ _ h), fun j h1 h2 => (k.2.1 j h1 h2).trans (kx_a_ne _ _ h1), k.2.2⟩, fun s => ?_⟩
      · rw [← r]
        simp only [kv_e182_0, kv_e182_1, kv_e182_4, kv_e182_7, kv_e182_10, kv_e182_11, kv_e182_14, kv_e182_15, kv_e182_16, kv_e182_17, kv_e182_20, kv_e182_22, kv_e182_23, kv_e182_24, kv_e182_25, kv_e182_26, kv_e182_29, kv_e182_30, kv_e182_31, kv_e182_34, kv_e182_35, kv_e182_38, kv_e182_41, kv_e182_44, kv_e182_46, kv_e182_47, kv_e182_48, kv_e182_49, kv_e182_52, kv_e182_53, kv_e182_55, kv_e182_56, kv_e182_57, kv_e182_58, kv_e182_59, kv_e182_62, kv_e182_63, kv_e182_64, kv_o10, not_false_eq_true, not_true, if_true, if_false, kv_then_s, kv_then_v, kv_then_n, List.cons_append, List.nil_append, kv_Ci, kv_Cr, kv_Cn, kv_Cu, kv_C0, kv_catc, kv_gCi, kv_gCl, kv_gCr, kv_nb0, kv_nb1, kv_nbi, kv_nb01, Nat.reduceAdd, Nat.reduceLeDiff, lk, kx_isd1 q, h0, e0, kx_a_at, kv_suc, kx_fd, kx_fa, h1, kx_isd1 q2, e2, show ((1 : Int32) = 0) = False from by decide]
      · unfold kx_nw at s ⊢
        by_cases g1 : (kw_nu t L 2 a).1 = true
        · rw [if_pos g1] at s ⊢
          by_cases g2 : lo ≤ Int32.ofNat (kw_nu t L 2 a).2.2 ∧ Int32.ofNat (kw_nu t L 2 a).2.2 ≤ hi
          · rw [if_pos g2, nu]
          · rw [if_neg g2] at s
            exact absurd s (by simp)
        · rw [if_neg g1] at s
          exact absurd s (by simp)
    · have nm : kw_nm t L 2 (kw_nx t L a) 0 = (kw_nx t L a + 1, kw_dgv (kx_sg t L (kw_nx t L a))) := by
        rw [show (2 : Nat) = 1 + 1 from rfl, kw_nm_1 q, show (1 : Nat) = 0 + 1 from rfl, kw_nm_0 q2, Nat.zero_mul, Nat.zero_add]
      have nu := kx_nu_1 (k := 2) q
      rw [nm] at nu
      obtain ⟨z', r, k⟩ := kx_numT (d := d + 1) (zl := zl) (lo := lo) (hi := hi) (v := kw_dgv (kx_sg t L (kw_nx t L a))) (show kw_nx t L a + 1 ≤ L by omega) (by omega) c1 (wa _) (kw_nu t L 2 a) (by rw [nu]) (by rw [nu])
      have k : kx_NM t L (kx_a z (kw_nx t L a + 1)) z' (kx_nw t L lo hi a) := k
      refine ⟨Int32.ofNat (kw_dgv (kx_sg t L (kw_nx t L a))), z', ?_, ⟨fun c h => (k.1 c h).trans (kx_a_fr _ _ h), fun j h1 h2 => (k.2.1 j h1 h2).trans (kx_a_ne _ _ h1), k.2.2⟩, fun s => ?_⟩
      · rw [← r]
        simp only [kv_e182_0, kv_e182_1, kv_e182_4, kv_e182_7, kv_e182_10, kv_e182_11, kv_e182_14, kv_e182_15, kv_e182_16, kv_e182_17, kv_e182_20, kv_e182_22, kv_e182_23, kv_e182_24, kv_e182_25, kv_e182_26, kv_e182_29, kv_e182_30, kv_e182_31, kv_e182_34, kv_e182_35, kv_e182_38, kv_e182_41, kv_e182_44, kv_e182_46, kv_e182_47, kv_e182_48, kv_e182_49, kv_e182_52, kv_e182_53, kv_e182_55, kv_e182_56, kv_e182_57, kv_e182_58, kv_e182_59, kv_e182_62, kv_e182_63, kv_e182_64, kv_o10, not_false_eq_true, not_true, if_true, if_false, kv_then_s, kv_then_v, kv_then_n, List.cons_append, List.nil_append, kv_Ci, kv_Cr, kv_Cn, kv_Cu, kv_C0, kv_catc, kv_gCi, kv_gCl, kv_gCr, kv_nb0, kv_nb1, kv_nbi, kv_nb01, Nat.reduceAdd, Nat.reduceLeDiff, lk, kx_isd1 q, h0, e0, kx_a_at, kv_suc, kx_fd, kx_fa, h1, kx_isd0 q2, show ((1 : Int32) = 0) = False from by decide]
      · unfold kx_nw at s ⊢
        by_cases g1 : (kw_nu t L 2 a).1 = true
        · rw [if_pos g1] at s ⊢
          by_cases g2 : lo ≤ Int32.ofNat (kw_nu t L 2 a).2.2 ∧ Int32.ofNat (kw_nu t L 2 a).2.2 ≤ hi
          · rw [if_pos g2, nu]
          · rw [if_neg g2] at s
            exact absurd s (by simp)
        · rw [if_neg g1] at s
          exact absurd s (by simp)
  · rw [kx_nw_0 (by rw [kx_nu_0 q]; exact Bool.false_ne_true), kx_nu_0 q]
    refine ⟨lo, kx_f (kx_a z (kw_nx t L a)) 4 (Int32.ofNat (kw_nx t L a)), ?_, ⟨fun c h => (kx_f_fr _ _ _ h).trans (kx_a_fr _ _ h), fun j h1 h2 => (kx_f_ne _ _ h2).trans (kx_a_ne _ _ h1), kx_f_at _ _ _, fun s => absurd s (by simp)⟩, fun s => absurd s (by simp)⟩
    simp only [kv_e182_0, kv_e182_1, kv_e182_4, kv_e182_7, kv_e182_10, kv_e182_11, kv_e182_14, kv_e182_15, kv_o10, not_false_eq_true, not_true, if_true, if_false, kv_then_s, kv_then_v, kv_then_n, List.cons_append, List.nil_append, kv_Ci, kv_Cr, kv_Cn, kv_Cu, kv_C0, kv_catc, kv_gCi, kv_gCl, kv_gCr, kv_nb0, kv_nb1, kv_nbi, kv_nb01, Nat.reduceAdd, Nat.reduceLeDiff, lk, kx_isd0 q, kx_bad (wa _), kx_a_at]
end
