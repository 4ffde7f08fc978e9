/-! laws as texts: the model's sums and terms -/
section
variable {d n L a : Nat} {t : Nat → Int32} {z z' : Nat → Nat → Int32} {zl : Nat → Nat → Int64}
theorem kx_app1 (cs c : List (Nat × Nat)) (x : Nat × Nat) (d : List (Nat × Nat)) : cs ++ (c ++ x :: d) = ((cs ++ c) ++ [x]) ++ d := by
  rw [List.append_assoc, List.append_assoc]
  rfl
theorem kx_app2 (cs c : List (Nat × Nat)) (x : Nat × Nat) : cs ++ (c ++ [x]) = (cs ++ c) ++ [x] := (List.append_assoc _ _ _).symm
theorem kx_termLM {dp : Nat} {p : Nat → kx_Q} (hW : kx_W L p) (hS : kx_SM t L zl n dp (d + 2) 165 [some (.ref 0), none] p) : ∀ f i a cs z, i + f = 240 → i ≤ a → a ≤ L → kx_ctM t L a z → kx_mc n cs z → cs.length ≤ a → z 0 4 = -1 → z 0 5 = Int32.ofNat dp → ∃ z' u, kv_Rn (d + 3) 166 21 [some (.ref 0), some (.int (kx_sg t L (kw_nx t L a)))] [] (kv_m (kx_a z (kw_nx t L a)) zl) = some (none, kv_m z' zl) ∧ kx_frM n z z' ∧ kx_mc n (cs ++ (kx_loop t L kx_oT p f a).2.2) z' ∧ z' 0 4 = u ∧ u = (if (kx_loop t L kx_oT p f a).1 = true then -1 else Int32.ofNat (kx_loop t L kx_oT p f a).2.1) ∧ ((kx_loop t L kx_oT p f a).1 = true → kx_ctM t L (kx_loop t L kx_oT p f a).2.1 z' ∧ z' 0 5 = Int32.ofNat dp) := by
  intro f
  induction f with
  | zero =>
    intro i a cs z hi hia ha hc hm hl hw h5
    have hL := hc.1.2
    have el : L ≤ a := by omega
    have nn : kw_nx t L a = a := kw_nx_0 (fun s => by have := kx_sg_32 s; omega)
    rw [nn, kx_sg_ge el, kx_a_id hc.2.1]
    refine ⟨z, -1, ?_, kx_frM_rf n z, by rw [show (kx_loop t L kx_oT p 0 a).2.2 = [] from rfl, List.append_nil]; exact hm, hw, rfl, fun _ => ⟨hc, h5⟩⟩
    rw [kv_e166_21]
    simp only [kv_e166_22, kv_e166_24, kv_e166_27, kv_e166_28, kv_e166_30, kv_e166_83, kv_o10, not_false_eq_true, not_true, if_true, if_false, kv_then_s, kv_then_v, kv_then_n, List.cons_append, List.nil_append, kv_Ci, kv_Cr, kv_Cn, kv_Cu, kv_C0, kv_catc, kv_gCi, kv_gCl, kv_gCr, kv_nb0, kv_nb1, kv_nbi, kv_nb01, Nat.reduceAdd, Nat.reduceLeDiff, show ((-1 : Int32) = 42) = False from by decide, show ((-1 : Int32) = 47) = False from by decide]
  | succ f ih =>
    intro i a cs z hi hia ha hc hm hl hw h5
    have hL := hc.1.2
    have n1 := kw_nx_le t L a
    have n2 := kw_nx_L (t := t) ha
    by_cases q : kx_oT (kx_sg t L (kw_nx t L a)) = 0
    · rw [kx_loop_n q]
      refine ⟨kx_a z (kw_nx t L a), -1, ?_, kx_frM_a, by rw [List.append_nil]; exact kx_mc_a hm, (kx_a_ne z _ (by omega)).trans hw, rfl, fun _ => ⟨kx_ctM_a hc, (kx_a_ne z _ (by omega)).trans h5⟩⟩
      have q1 : ¬ kx_sg t L (kw_nx t L a) = 42 := fun s => by rw [s] at q; exact absurd q (by decide)
      have q2 : ¬ kx_sg t L (kw_nx t L a) = 47 := fun s => by rw [s] at q; exact absurd q (by decide)
      rw [kv_e166_21]
      simp only [kv_e166_22, kv_e166_24, kv_e166_27, kv_e166_28, kv_e166_30, kv_e166_83, kv_o10, not_false_eq_true, not_true, if_true, if_false, kv_then_s, kv_then_v, kv_then_n, List.cons_append, List.nil_append, kv_Ci, kv_Cr, kv_Cn, kv_Cu, kv_C0, kv_catc, kv_gCi, kv_gCl, kv_gCr, kv_nb0, kv_nb1, kv_nbi, kv_nb01, Nat.reduceAdd, Nat.reduceLeDiff, q1, q2]
    · have hlt := kx_sg_ne (t := t) (L := L) (a := kw_nx t L a) (fun s => q (by rw [s]; decide))
      obtain ⟨z3, r3, f3, m3, w3, c3⟩ := hS (kw_nx t L a + 1) cs (kx_a z (kw_nx t L a + 1)) (by omega) (kx_ctM_a hc) (kx_mc_a hm) (by omega) ((kx_a_ne z _ (by omega)).trans hw) ((kx_a_ne z _ (by omega)).trans h5)
      obtain ⟨⟨v1, v2⟩, v3⟩ := hW (kw_nx t L a + 1) (by omega)
      obtain ⟨z4, r4, f4, g4, m4⟩ := kx_put (d := d + 2) (zl := zl) (n := n) (kx_oT (kx_sg t L (kw_nx t L a))) 0 rfl rfl m3 (by rw [List.length_append]; omega)
      rw [show Int32.ofNat 0 = (0 : Int32) from rfl] at r4
      have c4 : ∀ {b}, kx_ctM t L b z3 → kx_ctM t L b z4 := fun h => kx_ctM_fr h (f4 0 (by omega) (by omega) (by omega)) (f4 1 (by omega) (by omega) (by omega))
      have z04 : z4 0 = z3 0 := f4 0 (by omega) (by omega) (by omega)
      -- behind the sub-reader and its step
      have road : kv_Rn (d + 3) 166 21 [some (.ref 0), some (.int (kx_sg t L (kw_nx t L a)))] [] (kv_m (kx_a z (kw_nx t L a)) zl) = kv_Rn (d + 3) 166 63 [some (.ref 0), some (.int (kx_sg t L (kw_nx t L a)))] [] (kv_m z4 zl) := by
        rw [kv_e166_21]
        by_cases q1 : kx_sg t L (kw_nx t L a) = 42
        · have ek : Int32.ofNat (kx_oT (kx_sg t L (kw_nx t L a))) = 4 := by rw [q1]; decide
          rw [ek] at r4
          simp only [kv_e166_22, kv_e166_24, kv_e166_33, kv_e166_34, kv_e166_35, kv_e166_38, kv_e166_39, kv_e166_40, kv_e166_43, kv_e166_44, kv_e166_47, kv_e166_48, kv_e166_49, kv_e166_51, kv_e166_54, kv_e166_55, kv_e166_59, kv_e166_60, kv_o10, not_false_eq_true, not_true, if_true, if_false, kv_then_s, kv_then_v, kv_then_n, List.cons_append, List.nil_append, kv_Ci, kv_Cr, kv_Cn, kv_Cu, kv_C0, kv_catc, kv_gCi, kv_gCl, kv_gCr, kv_nb0, kv_nb1, kv_nbi, kv_nb01, Nat.reduceAdd, Nat.reduceLeDiff, q1, kx_a_at, kv_suc, kx_fd, kx_fa, r3, r4]
        · have q2 : kx_sg t L (kw_nx t L a) = 47 := by
            unfold kx_oT at q
            rw [if_neg q1] at q
            by_cases q2 : kx_sg t L (kw_nx t L a) = 47
            · exact q2
            · rw [if_neg q2] at q
              exact absurd rfl q
          have ek : Int32.ofNat (kx_oT (kx_sg t L (kw_nx t L a))) = 5 := by rw [q2]; decide
          rw [ek] at r4
          simp only [kv_e166_22, kv_e166_24, kv_e166_27, kv_e166_28, kv_e166_30, kv_e166_33, kv_e166_34, kv_e166_35, kv_e166_38, kv_e166_39, kv_e166_40, kv_e166_43, kv_e166_44, kv_e166_47, kv_e166_48, kv_e166_49, kv_e166_51, kv_e166_58, kv_e166_59, kv_e166_60, kv_o10, not_false_eq_true, not_true, if_true, if_false, kv_then_s, kv_then_v, kv_then_n, List.cons_append, List.nil_append, kv_Ci, kv_Cr, kv_Cn, kv_Cu, kv_C0, kv_catc, kv_gCi, kv_gCl, kv_gCr, kv_nb0, kv_nb1, kv_nbi, kv_nb01, Nat.reduceAdd, Nat.reduceLeDiff, q2, show ((47 : Int32) = 42) = False from by decide, kx_a_at, kv_suc, kx_fd, kx_fa, r3, r4]
      rw [road]
      by_cases qo : (p (kw_nx t L a + 1)).1 = true
      · rw [kx_loop_t q qo]
        rw [if_pos qo] at w3
        obtain ⟨c3, d3⟩ := c3 qo
        have w4 : z4 0 4 = -1 := by rw [z04]; exact w3
        have lk := kx_look (d := d + 1) (zl := zl) (show (p (kw_nx t L a + 1)).2.1 ≤ 100000 by omega) (c4 c3)
        obtain ⟨z5, u, r5, f5, m5, w5, e5, c5⟩ := ih (i + 1) (p (kw_nx t L a + 1)).2.1 _ z4 (by omega) (by omega) v2 (c4 c3) m4 (by rw [List.length_append, List.length_append, List.length_cons, List.length_nil]; omega) w4 (by rw [z04]; exact d3)
        refine ⟨z5, u, ?_, kx_frM_tr kx_frM_a (kx_frM_tr f3 (kx_frM_tr g4 f5)), by rw [kx_app1]; exact m5, w5, e5, c5⟩
        rw [← r5]
        simp only [kv_e166_63, kv_e166_64, kv_e166_67, kv_e166_68, kv_e166_71, kv_e166_72, kv_e166_75, kv_e166_79, kv_e166_80, kv_o10, not_false_eq_true, not_true, if_true, if_false, kv_then_s, kv_then_v, kv_then_n, List.cons_append, List.nil_append, kv_Ci, kv_Cr, kv_Cn, kv_Cu, kv_C0, kv_catc, kv_gCi, kv_gCl, kv_gCr, kv_nb0, kv_nb1, kv_nbi, kv_nb01, Nat.reduceAdd, Nat.reduceLeDiff, w4, lk]
      · rw [kx_loop_f q qo]
        rw [if_neg qo] at w3
        have w4 : z4 0 4 = Int32.ofNat (p (kw_nx t L a + 1)).2.1 := by rw [z04]; exact w3
        refine ⟨z4, _, ?_, kx_frM_tr kx_frM_a (kx_frM_tr f3 g4), by rw [kx_app2]; exact m4, w4, rfl, fun s => absurd s (by simp)⟩
        simp only [kv_e166_63, kv_e166_64, kv_e166_67, kv_e166_68, kv_e166_78, kv_e166_79, kv_e166_80, kv_o10, not_false_eq_true, not_true, if_true, if_false, kv_then_s, kv_then_v, kv_then_n, List.cons_append, List.nil_append, kv_Ci, kv_Cr, kv_Cn, kv_Cu, kv_C0, kv_catc, kv_gCi, kv_gCl, kv_gCr, kv_nb0, kv_nb1, kv_nbi, kv_nb01, Nat.reduceAdd, Nat.reduceLeDiff, w4, kw_of_m1 (show (p (kw_nx t L a + 1)).2.1 < 2147483648 by omega)]
        rw [kv_e166_21]
        simp only [kv_e166_22, kv_e166_24, kv_e166_27, kv_e166_28, kv_e166_30, kv_e166_83, kv_o10, not_false_eq_true, not_true, if_true, if_false, kv_then_s, kv_then_v, kv_then_n, List.cons_append, List.nil_append, kv_Ci, kv_Cr, kv_Cn, kv_Cu, kv_C0, kv_catc, kv_gCi, kv_gCl, kv_gCr, kv_nb0, kv_nb1, kv_nbi, kv_nb01, Nat.reduceAdd, Nat.reduceLeDiff, show ((-1 : Int32) = 42) = False from by decide, show ((-1 : Int32) = 47) = False from by decide]
theorem kx_termM {dp : Nat} {p : Nat → kx_Q} (hW : kx_W L p) (hS : kx_SM t L zl n dp (d + 2) 165 [some (.ref 0), none] p) : kx_SM t L zl n dp (d + 3) 166 [some (.ref 0), none] (kx_chain t L kx_oT p) := by
  intro a cs z ha hc hm hl hw h5
  obtain ⟨z1, r1, f1, m1, w1, c1⟩ := hS a cs z ha hc hm hl hw h5
  obtain ⟨⟨v1, v2⟩, v3⟩ := hW a ha
  have hL := hc.1.2
  unfold kx_chain
  by_cases qo : (p a).1 = true
  · rw [kx_seq_1 qo]
    rw [if_pos qo] at w1
    obtain ⟨c1, d1⟩ := c1 qo
    have lk := kx_look (d := d + 1) (zl := zl) (show (p a).2.1 ≤ 100000 by omega) c1
    obtain ⟨z2, u, r2, f2, m2, w2, e2, c2⟩ := kx_termLM (d := d) hW hS 240 0 (p a).2.1 _ z1 (by omega) (by omega) v2 c1 m1 (by rw [List.length_append]; omega) w1 d1
    refine ⟨z2, ?_, kx_frM_tr f1 f2, by dsimp only; rw [← List.append_assoc]; exact m2, by rw [w2, e2], c2⟩
    rw [← r2]
    simp only [kv_e166_0, kv_e166_1, kv_e166_4, kv_e166_5, kv_e166_8, kv_e166_9, kv_e166_12, kv_e166_13, kv_e166_16, kv_e166_20, kv_o10, not_false_eq_true, not_true, if_true, if_false, kv_then_s, kv_then_v, kv_then_n, List.cons_append, List.nil_append, kv_Ci, kv_Cr, kv_Cn, kv_Cu, kv_C0, kv_catc, kv_gCi, kv_gCl, kv_gCr, kv_nb0, kv_nb1, kv_nbi, kv_nb01, Nat.reduceAdd, Nat.reduceLeDiff, r1, w1, lk]
  · rw [kx_seq_0 qo]
    rw [if_neg qo] at w1
    refine ⟨z1, ?_, f1, m1, by rw [w1, if_neg qo], fun s => absurd s qo⟩
    simp only [kv_e166_0, kv_e166_1, kv_e166_4, kv_e166_5, kv_e166_8, kv_e166_9, kv_e166_19, kv_e166_20, kv_o10, not_false_eq_true, not_true, if_true, if_false, kv_then_s, kv_then_v, kv_then_n, List.cons_append, List.nil_append, kv_Ci, kv_Cr, kv_Cn, kv_Cu, kv_C0, kv_catc, kv_gCi, kv_gCl, kv_gCr, kv_nb0, kv_nb1, kv_nbi, kv_nb01, Nat.reduceAdd, Nat.reduceLeDiff, r1, w1, kw_of_m1 (show (p a).2.1 < 2147483648 by omega)]
    rw [kv_e166_21]
    simp only [kv_e166_22, kv_e166_24, kv_e166_27, kv_e166_28, kv_e166_30, kv_e166_83, kv_o10, not_false_eq_true, not_true, if_true, if_false, kv_then_s, kv_then_v, kv_then_n, List.cons_append, List.nil_append, kv_Ci, kv_Cr, kv_Cn, kv_Cu, kv_C0, kv_catc, kv_gCi, kv_gCl, kv_gCr, kv_nb0, kv_nb1, kv_nbi, kv_nb01, Nat.reduceAdd, Nat.reduceLeDiff, show ((-1 : Int32) = 42) = False from by decide, show ((-1 : Int32) = 47) = False from by decide]
theorem kx_sumLM {dp : Nat} {p : Nat → kx_Q} (hW : kx_W L p) (hS : kx_SM t L zl n dp (d + 2) 166 [some (.ref 0), none] p) : ∀ f i a cs z, i + f = 240 → i ≤ a → a ≤ L → kx_ctM t L a z → kx_mc n cs z → cs.length ≤ a → z 0 4 = -1 → z 0 5 = Int32.ofNat dp → ∃ z' u, kv_Rn (d + 3) 167 21 [some (.ref 0), some (.int (kx_sg t L (kw_nx t L a)))] [] (kv_m (kx_a z (kw_nx t L a)) zl) = some (none, kv_m z' zl) ∧ kx_frM n z z' ∧ kx_mc n (cs ++ (kx_loop t L kx_oS p f a).2.2) z' ∧ z' 0 4 = u ∧ u = (if (kx_loop t L kx_oS p f a).1 = true then -1 else Int32.ofNat (kx_loop t L kx_oS p f a).2.1) ∧ ((kx_loop t L kx_oS p f a).1 = true → kx_ctM t L (kx_loop t L kx_oS p f a).2.1 z' ∧ z' 0 5 = Int32.ofNat dp) := by
  intro f
  induction f with
  | zero =>
    intro i a cs z hi hia ha hc hm hl hw h5
    have hL := hc.1.2
    have el : L ≤ a := by omega
    have nn : kw_nx t L a = a := kw_nx_0 (fun s => by have := kx_sg_32 s; omega)
    rw [nn, kx_sg_ge el, kx_a_id hc.2.1]
    refine ⟨z, -1, ?_, kx_frM_rf n z, by rw [show (kx_loop t L kx_oS p 0 a).2.2 = [] from rfl, List.append_nil]; exact hm, hw, rfl, fun _ => ⟨hc, h5⟩⟩
    rw [kv_e167_21]
    simp only [kv_e167_22, kv_e167_24, kv_e167_27, kv_e167_28, kv_e167_30, kv_e167_83, kv_o10, not_false_eq_true, not_true, if_true, if_false, kv_then_s, kv_then_v, kv_then_n, List.cons_append, List.nil_append, kv_Ci, kv_Cr, kv_Cn, kv_Cu, kv_C0, kv_catc, kv_gCi, kv_gCl, kv_gCr, kv_nb0, kv_nb1, kv_nbi, kv_nb01, Nat.reduceAdd, Nat.reduceLeDiff, show ((-1 : Int32) = 43) = False from by decide, show ((-1 : Int32) = 45) = False from by decide]
  | succ f ih =>
    intro i a cs z hi hia ha hc hm hl hw h5
    have hL := hc.1.2
    have n1 := kw_nx_le t L a
    have n2 := kw_nx_L (t := t) ha
    by_cases q : kx_oS (kx_sg t L (kw_nx t L a)) = 0
    · rw [kx_loop_n q]
      refine ⟨kx_a z (kw_nx t L a), -1, ?_, kx_frM_a, by rw [List.append_nil]; exact kx_mc_a hm, (kx_a_ne z _ (by omega)).trans hw, rfl, fun _ => ⟨kx_ctM_a hc, (kx_a_ne z _ (by omega)).trans h5⟩⟩
      have q1 : ¬ kx_sg t L (kw_nx t L a) = 43 := fun s => by rw [s] at q; exact absurd q (by decide)
      have q2 : ¬ kx_sg t L (kw_nx t L a) = 45 := fun s => by rw [s] at q; exact absurd q (by decide)
      rw [kv_e167_21]
      simp only [kv_e167_22, kv_e167_24, kv_e167_27, kv_e167_28, kv_e167_30, kv_e167_83, kv_o10, not_false_eq_true, not_true, if_true, if_false, kv_then_s, kv_then_v, kv_then_n, List.cons_append, List.nil_append, kv_Ci, kv_Cr, kv_Cn, kv_Cu, kv_C0, kv_catc, kv_gCi, kv_gCl, kv_gCr, kv_nb0, kv_nb1, kv_nbi, kv_nb01, Nat.reduceAdd, Nat.reduceLeDiff, q1, q2]
    · have hlt := kx_sg_ne (t := t) (L := L) (a := kw_nx t L a) (fun s => q (by rw [s]; decide))
      obtain ⟨z3, r3, f3, m3, w3, c3⟩ := hS (kw_nx t L a + 1) cs (kx_a z (kw_nx t L a + 1)) (by omega) (kx_ctM_a hc) (kx_mc_a hm) (by omega) ((kx_a_ne z _ (by omega)).trans hw) ((kx_a_ne z _ (by omega)).trans h5)
      obtain ⟨⟨v1, v2⟩, v3⟩ := hW (kw_nx t L a + 1) (by omega)
      obtain ⟨z4, r4, f4, g4, m4⟩ := kx_put (d := d + 2) (zl := zl) (n := n) (kx_oS (kx_sg t L (kw_nx t L a))) 0 rfl rfl m3 (by rw [List.length_append]; omega)
      rw [show Int32.ofNat 0 = (0 : Int32) from rfl] at r4
      have c4 : ∀ {b}, kx_ctM t L b z3 → kx_ctM t L b z4 := fun h => kx_ctM_fr h (f4 0 (by omega) (by omega) (by omega)) (f4 1 (by omega) (by omega) (by omega))
      have z04 : z4 0 = z3 0 := f4 0 (by omega) (by omega) (by omega)
      -- behind the sub-reader and its step
      have road : kv_Rn (d + 3) 167 21 [some (.ref 0), some (.int (kx_sg t L (kw_nx t L a)))] [] (kv_m (kx_a z (kw_nx t L a)) zl) = kv_Rn (d + 3) 167 63 [some (.ref 0), some (.int (kx_sg t L (kw_nx t L a)))] [] (kv_m z4 zl) := by
        rw [kv_e167_21]
        by_cases q1 : kx_sg t L (kw_nx t L a) = 43
        · have ek : Int32.ofNat (kx_oS (kx_sg t L (kw_nx t L a))) = 2 := by rw [q1]; decide
          rw [ek] at r4
          simp only [kv_e167_22, kv_e167_24, kv_e167_33, kv_e167_34, kv_e167_35, kv_e167_38, kv_e167_39, kv_e167_40, kv_e167_43, kv_e167_44, kv_e167_47, kv_e167_48, kv_e167_49, kv_e167_51, kv_e167_54, kv_e167_55, kv_e167_59, kv_e167_60, kv_o10, not_false_eq_true, not_true, if_true, if_false, kv_then_s, kv_then_v, kv_then_n, List.cons_append, List.nil_append, kv_Ci, kv_Cr, kv_Cn, kv_Cu, kv_C0, kv_catc, kv_gCi, kv_gCl, kv_gCr, kv_nb0, kv_nb1, kv_nbi, kv_nb01, Nat.reduceAdd, Nat.reduceLeDiff, q1, kx_a_at, kv_suc, kx_fd, kx_fa, r3, r4]
        · have q2 : kx_sg t L (kw_nx t L a) = 45 := by
            unfold kx_oS at q
            rw [if_neg q1] at q
            by_cases q2 : kx_sg t L (kw_nx t L a) = 45
            · exact q2
            · rw [if_neg q2] at q
              exact absurd rfl q
          have ek : Int32.ofNat (kx_oS (kx_sg t L (kw_nx t L a))) = 3 := by rw [q2]; decide
          rw [ek] at r4
          simp only [kv_e167_22, kv_e167_24, kv_e167_27, kv_e167_28, kv_e167_30, kv_e167_33, kv_e167_34, kv_e167_35, kv_e167_38, kv_e167_39, kv_e167_40, kv_e167_43, kv_e167_44, kv_e167_47, kv_e167_48, kv_e167_49, kv_e167_51, kv_e167_58, kv_e167_59, kv_e167_60, kv_o10, not_false_eq_true, not_true, if_true, if_false, kv_then_s, kv_then_v, kv_then_n, List.cons_append, List.nil_append, kv_Ci, kv_Cr, kv_Cn, kv_Cu, kv_C0, kv_catc, kv_gCi, kv_gCl, kv_gCr, kv_nb0, kv_nb1, kv_nbi, kv_nb01, Nat.reduceAdd, Nat.reduceLeDiff, q2, show ((45 : Int32) = 43) = False from by decide, kx_a_at, kv_suc, kx_fd, kx_fa, r3, r4]
      rw [road]
      by_cases qo : (p (kw_nx t L a + 1)).1 = true
      · rw [kx_loop_t q qo]
        rw [if_pos qo] at w3
        obtain ⟨c3, d3⟩ := c3 qo
        have w4 : z4 0 4 = -1 := by rw [z04]; exact w3
        have lk := kx_look (d := d + 1) (zl := zl) (show (p (kw_nx t L a + 1)).2.1 ≤ 100000 by omega) (c4 c3)
        obtain ⟨z5, u, r5, f5, m5, w5, e5, c5⟩ := ih (i + 1) (p (kw_nx t L a + 1)).2.1 _ z4 (by omega) (by omega) v2 (c4 c3) m4 (by rw [List.length_append, List.length_append, List.length_cons, List.length_nil]; omega) w4 (by rw [z04]; exact d3)
        refine ⟨z5, u, ?_, kx_frM_tr kx_frM_a (kx_frM_tr f3 (kx_frM_tr g4 f5)), by rw [kx_app1]; exact m5, w5, e5, c5⟩
        rw [← r5]
        simp only [kv_e167_63, kv_e167_64, kv_e167_67, kv_e167_68, kv_e167_71, kv_e167_72, kv_e167_75, kv_e167_79, kv_e167_80, kv_o10, not_false_eq_true, not_true, if_true, if_false, kv_then_s, kv_then_v, kv_then_n, List.cons_append, List.nil_append, kv_Ci, kv_Cr, kv_Cn, kv_Cu, kv_C0, kv_catc, kv_gCi, kv_gCl, kv_gCr, kv_nb0, kv_nb1, kv_nbi, kv_nb01, Nat.reduceAdd, Nat.reduceLeDiff, w4, lk]
      · rw [kx_loop_f q qo]
        rw [if_neg qo] at w3
        have w4 : z4 0 4 = Int32.ofNat (p (kw_nx t L a + 1)).2.1 := by rw [z04]; exact w3
        refine ⟨z4, _, ?_, kx_frM_tr kx_frM_a (kx_frM_tr f3 g4), by rw [kx_app2]; exact m4, w4, rfl, fun s => absurd s (by simp)⟩
        simp only [kv_e167_63, kv_e167_64, kv_e167_67, kv_e167_68, kv_e167_78, kv_e167_79, kv_e167_80, kv_o10, not_false_eq_true, not_true, if_true, if_false, kv_then_s, kv_then_v, kv_then_n, List.cons_append, List.nil_append, kv_Ci, kv_Cr, kv_Cn, kv_Cu, kv_C0, kv_catc, kv_gCi, kv_gCl, kv_gCr, kv_nb0, kv_nb1, kv_nbi, kv_nb01, Nat.reduceAdd, Nat.reduceLeDiff, w4, kw_of_m1 (show (p (kw_nx t L a + 1)).2.1 < 2147483648 by omega)]
        rw [kv_e167_21]
        simp only [kv_e167_22, kv_e167_24, kv_e167_27, kv_e167_28, kv_e167_30, kv_e167_83, kv_o10, not_false_eq_true, not_true, if_true, if_false, kv_then_s, kv_then_v, kv_then_n, List.cons_append, List.nil_append, kv_Ci, kv_Cr, kv_Cn, kv_Cu, kv_C0, kv_catc, kv_gCi, kv_gCl, kv_gCr, kv_nb0, kv_nb1, kv_nbi, kv_nb01, Nat.reduceAdd, Nat.reduceLeDiff, show ((-1 : Int32) = 43) = False from by decide, show ((-1 : Int32) = 45) = False from by decide]
theorem kx_sumM {dp : Nat} {p : Nat → kx_Q} (hW : kx_W L p) (hS : kx_SM t L zl n dp (d + 2) 166 [some (.ref 0), none] p) : kx_SM t L zl n dp (d + 3) 167 [some (.ref 0), none] (kx_chain t L kx_oS p) := by
  intro a cs z ha hc hm hl hw h5
  obtain ⟨z1, r1, f1, m1, w1, c1⟩ := hS a cs z ha hc hm hl hw h5
  obtain ⟨⟨v1, v2⟩, v3⟩ := hW a ha
  have hL := hc.1.2
  unfold kx_chain
  by_cases qo : (p a).1 = true
  · rw [kx_seq_1 qo]
    rw [if_pos qo] at w1
    obtain ⟨c1, d1⟩ := c1 qo
    have lk := kx_look (d := d + 1) (zl := zl) (show (p a).2.1 ≤ 100000 by omega) c1
    obtain ⟨z2, u, r2, f2, m2, w2, e2, c2⟩ := kx_sumLM (d := d) hW hS 240 0 (p a).2.1 _ z1 (by omega) (by omega) v2 c1 m1 (by rw [List.length_append]; omega) w1 d1
    refine ⟨z2, ?_, kx_frM_tr f1 f2, by dsimp only; rw [← List.append_assoc]; exact m2, by rw [w2, e2], c2⟩
    rw [← r2]
    simp only [kv_e167_0, kv_e167_1, kv_e167_4, kv_e167_5, kv_e167_8, kv_e167_9, kv_e167_12, kv_e167_13, kv_e167_16, kv_e167_20, kv_o10, not_false_eq_true, not_true, if_true, if_false, kv_then_s, kv_then_v, kv_then_n, List.cons_append, List.nil_append, kv_Ci, kv_Cr, kv_Cn, kv_Cu, kv_C0, kv_catc, kv_gCi, kv_gCl, kv_gCr, kv_nb0, kv_nb1, kv_nbi, kv_nb01, Nat.reduceAdd, Nat.reduceLeDiff, r1, w1, lk]
  · rw [kx_seq_0 qo]
    rw [if_neg qo] at w1
    refine ⟨z1, ?_, f1, m1, by rw [w1, if_neg qo], fun s => absurd s qo⟩
    simp only [kv_e167_0, kv_e167_1, kv_e167_4, kv_e167_5, kv_e167_8, kv_e167_9, kv_e167_19, kv_e167_20, kv_o10, not_false_eq_true, not_true, if_true, if_false, kv_then_s, kv_then_v, kv_then_n, List.cons_append, List.nil_append, kv_Ci, kv_Cr, kv_Cn, kv_Cu, kv_C0, kv_catc, kv_gCi, kv_gCl, kv_gCr, kv_nb0, kv_nb1, kv_nbi, kv_nb01, Nat.reduceAdd, Nat.reduceLeDiff, r1, w1, kw_of_m1 (show (p a).2.1 < 2147483648 by omega)]
    rw [kv_e167_21]
    simp only [kv_e167_22, kv_e167_24, kv_e167_27, kv_e167_28, kv_e167_30, kv_e167_83, kv_o10, not_false_eq_true, not_true, if_true, if_false, kv_then_s, kv_then_v, kv_then_n, List.cons_append, List.nil_append, kv_Ci, kv_Cr, kv_Cn, kv_Cu, kv_C0, kv_catc, kv_gCi, kv_gCl, kv_gCr, kv_nb0, kv_nb1, kv_nbi, kv_nb01, Nat.reduceAdd, Nat.reduceLeDiff, show ((-1 : Int32) = 43) = False from by decide, show ((-1 : Int32) = 45) = False from by decide]
theorem kx_SumM : ∀ r D, r ≤ 6 → 12 + 3 * r ≤ D → kx_SM t L zl n (6 - r) D 167 [some (.ref 0), none] (kx_S t L r) := by
  intro r
  induction r with
  | zero =>
    intro D _ hD
    obtain ⟨d, rfl⟩ : ∃ d, D = d + 7 := ⟨D - 7, by omega⟩
    have h1 := kx_atomM (d := d) (t := t) (L := L) (zl := zl) (n := n) (br := none) (dp := 6) (by omega) (Or.inl ⟨rfl, rfl⟩)
    have w1 : kx_W L (kx_atom t L none) := kx_W_atom (fun p hp => by cases hp)
    have h2 := kx_termM (d := d + 3) w1 h1
    exact kx_sumM (d := d + 4) (kx_W_chain rfl w1) h2
  | succ r ih =>
    intro D hr hD
    obtain ⟨d, rfl⟩ : ∃ d, D = d + 7 := ⟨D - 7, by omega⟩
    have hs := ih (d + 4) (by omega) (by omega)
    rw [show 6 - r = 6 - (r + 1) + 1 from by omega] at hs
    have h1 := kx_atomM (d := d) (t := t) (L := L) (zl := zl) (n := n) (br := some (kx_S t L r)) (dp := 6 - (r + 1)) (by omega) (Or.inr ⟨by omega, kx_S t L r, rfl, kx_W_S r, hs⟩)
    have w1 : kx_W L (kx_atom t L (some (kx_S t L r))) := kx_W_atom (fun p hp => by cases hp; exact kx_W_S r)
    have h2 := kx_termM (d := d + 3) w1 h1
    exact kx_sumM (d := d + 4) (kx_W_chain rfl w1) h2
theorem kx_isSign (c : Int32) {h : kv_H} : kv_Rn d 168 0 [some (.int c)] [] h = some (some (.int (if kx_oC c = 0 then 0 else 1)), h) := by
  unfold kx_oC
  by_cases q1 : c = 61
  · subst q1
    simp only [kv_e168_0, kv_e168_1, kv_e168_3, kv_e168_6, kv_e168_7, kv_e168_9, kv_e168_12, kv_e168_13, kv_e168_15, kv_e168_18, kv_e168_19, kv_e168_22, kv_e168_23, kv_o10, not_false_eq_true, not_true, if_true, if_false, kv_then_s, kv_then_v, kv_then_n, List.cons_append, List.nil_append, kv_Ci, kv_Cr, kv_Cn, kv_Cu, kv_C0, kv_catc, kv_gCi, kv_gCl, kv_gCr, kv_nb0, kv_nb1, kv_nbi, kv_nb01, Nat.reduceAdd, Nat.reduceLeDiff, eq_self, show ((6 : Nat) = 0) = False from by decide]
  · by_cases q2 : c = 60
    · subst q2
      simp only [kv_e168_0, kv_e168_1, kv_e168_3, kv_e168_6, kv_e168_7, kv_e168_9, kv_e168_12, kv_e168_13, kv_e168_15, kv_e168_18, kv_e168_19, kv_e168_22, kv_e168_23, kv_o10, not_false_eq_true, not_true, if_true, if_false, kv_then_s, kv_then_v, kv_then_n, List.cons_append, List.nil_append, kv_Ci, kv_Cr, kv_Cn, kv_Cu, kv_C0, kv_catc, kv_gCi, kv_gCl, kv_gCr, kv_nb0, kv_nb1, kv_nbi, kv_nb01, Nat.reduceAdd, Nat.reduceLeDiff, q1, eq_self, show ((7 : Nat) = 0) = False from by decide]
    · by_cases q3 : c = 62
      · subst q3
        simp only [kv_e168_0, kv_e168_1, kv_e168_3, kv_e168_6, kv_e168_7, kv_e168_9, kv_e168_12, kv_e168_13, kv_e168_15, kv_e168_18, kv_e168_19, kv_e168_22, kv_e168_23, kv_o10, not_false_eq_true, not_true, if_true, if_false, kv_then_s, kv_then_v, kv_then_n, List.cons_append, List.nil_append, kv_Ci, kv_Cr, kv_Cn, kv_Cu, kv_C0, kv_catc, kv_gCi, kv_gCl, kv_gCr, kv_nb0, kv_nb1, kv_nbi, kv_nb01, Nat.reduceAdd, Nat.reduceLeDiff, q1, q2, eq_self, show ((8 : Nat) = 0) = False from by decide]
      · simp only [kv_e168_0, kv_e168_1, kv_e168_3, kv_e168_6, kv_e168_7, kv_e168_9, kv_e168_12, kv_e168_13, kv_e168_15, kv_e168_18, kv_e168_19, kv_e168_22, kv_e168_23, kv_o10, not_false_eq_true, not_true, if_true, if_false, kv_then_s, kv_then_v, kv_then_n, List.cons_append, List.nil_append, kv_Ci, kv_Cr, kv_Cn, kv_Cu, kv_C0, kv_catc, kv_gCi, kv_gCl, kv_gCr, kv_nb0, kv_nb1, kv_nbi, kv_nb01, Nat.reduceAdd, Nat.reduceLeDiff, q1, q2, q3, eq_self]
theorem kx_compM {dp : Nat} {s : Nat → kx_Q} (hW : kx_W L s) (hS : kx_SM t L zl n dp (d + 2) 167 [some (.ref 0), none] s) : kx_SM t L zl n dp (d + 3) 169 [some (.ref 0), none] (kx_cmp t L s) := by
  intro a cs z ha hc hm hl hw h5
  have hL := hc.1.2
  have n1 := kw_nx_le t L a
  have n2 := kw_nx_L (t := t) ha
  have lk := kx_look (d := d + 1) (zl := zl) (show a ≤ 100000 by omega) hc
  have w1 : kx_a z (kw_nx t L a) 0 4 = -1 := (kx_a_ne z _ (by omega)).trans hw
  unfold kx_cmp
  by_cases q : kx_oC (kx_sg t L (kw_nx t L a)) = 0
  · rw [if_pos q]
    refine ⟨kx_f (kx_a z (kw_nx t L a)) 4 (Int32.ofNat (kw_nx t L a)), ?_, kx_frM_tr kx_frM_a (kx_frM_f (Or.inr (Or.inl rfl))), by rw [List.append_nil]; exact kx_mc_f (kx_mc_a hm) (by omega), kx_f_at _ _ _, fun s => absurd s (by simp)⟩
    simp only [kv_e169_0, kv_e169_1, kv_e169_4, kv_e169_5, kv_e169_8, kv_e169_9, kv_e169_12, kv_e169_16, kv_e169_17, kv_e169_18, kv_e169_21, kv_e169_24, kv_e169_25, kv_e169_28, kv_o10, not_false_eq_true, not_true, if_true, if_false, kv_then_s, kv_then_v, kv_then_n, List.cons_append, List.nil_append, kv_Ci, kv_Cr, kv_Cn, kv_Cu, kv_C0, kv_catc, kv_gCi, kv_gCl, kv_gCr, kv_nb0, kv_nb1, kv_nbi, kv_nb01, Nat.reduceAdd, Nat.reduceLeDiff, hw, lk, kx_isSign, q, kx_bad w1, kx_a_at, eq_self]
  · rw [if_neg q]
    have hlt := kx_sg_ne (t := t) (L := L) (a := kw_nx t L a) (fun s => q (by rw [s]; decide))
    obtain ⟨z3, r3, f3, m3, w3, c3⟩ := hS (kw_nx t L a + 1) cs (kx_a z (kw_nx t L a + 1)) (by omega) (kx_ctM_a hc) (kx_mc_a hm) (by omega) ((kx_a_ne z _ (by omega)).trans hw) ((kx_a_ne z _ (by omega)).trans h5)
    obtain ⟨⟨v1, v2⟩, v3⟩ := hW (kw_nx t L a + 1) (by omega)
    obtain ⟨z4, r4, f4, g4, m4⟩ := kx_put (d := d + 2) (zl := zl) (n := n) (kx_oC (kx_sg t L (kw_nx t L a))) 0 rfl rfl m3 (by rw [List.length_append]; omega)
    rw [show Int32.ofNat 0 = (0 : Int32) from rfl] at r4
    have z04 : z4 0 = z3 0 := f4 0 (by omega) (by omega) (by omega)
    refine ⟨z4, ?_, kx_frM_tr kx_frM_a (kx_frM_tr f3 g4), by rw [kx_app2]; exact m4, by rw [z04]; exact w3, fun s => ⟨kx_ctM_fr (c3 s).1 z04 (f4 1 (by omega) (by omega) (by omega)), by rw [z04]; exact (c3 s).2⟩⟩
    by_cases q1 : kx_sg t L (kw_nx t L a) = 61
    · have ek : Int32.ofNat (kx_oC (kx_sg t L (kw_nx t L a))) = 6 := by rw [q1]; decide
      rw [ek] at r4
      simp only [kv_e169_0, kv_e169_1, kv_e169_4, kv_e169_5, kv_e169_8, kv_e169_9, kv_e169_12, kv_e169_16, kv_e169_17, kv_e169_18, kv_e169_21, kv_e169_29, kv_e169_30, kv_e169_31, kv_e169_34, kv_e169_35, kv_e169_36, kv_e169_39, kv_e169_40, kv_e169_43, kv_e169_44, kv_e169_45, kv_e169_47, kv_e169_50, kv_e169_52, kv_e169_68, kv_e169_69, kv_e169_72, kv_o10, not_false_eq_true, not_true, if_true, if_false, kv_then_s, kv_then_v, kv_then_n, List.cons_append, List.nil_append, kv_Ci, kv_Cr, kv_Cn, kv_Cu, kv_C0, kv_catc, kv_gCi, kv_gCl, kv_gCr, kv_nb0, kv_nb1, kv_nbi, kv_nb01, Nat.reduceAdd, Nat.reduceLeDiff, hw, lk, kx_isSign, q, kx_a_at, kv_suc, kx_fd, kx_fa, r3, q1, r4, show (kx_oC 61 = 0) = False from by decide]
    · by_cases q2 : kx_sg t L (kw_nx t L a) = 60
      · have ek : Int32.ofNat (kx_oC (kx_sg t L (kw_nx t L a))) = 7 := by rw [q2]; decide
        rw [ek] at r4
        simp only [kv_e169_0, kv_e169_1, kv_e169_4, kv_e169_5, kv_e169_8, kv_e169_9, kv_e169_12, kv_e169_16, kv_e169_17, kv_e169_18, kv_e169_21, kv_e169_29, kv_e169_30, kv_e169_31, kv_e169_34, kv_e169_35, kv_e169_36, kv_e169_39, kv_e169_40, kv_e169_43, kv_e169_44, kv_e169_45, kv_e169_47, kv_e169_55, kv_e169_56, kv_e169_58, kv_e169_61, kv_e169_63, kv_e169_68, kv_e169_69, kv_e169_72, kv_o10, not_false_eq_true, not_true, if_true, if_false, kv_then_s, kv_then_v, kv_then_n, List.cons_append, List.nil_append, kv_Ci, kv_Cr, kv_Cn, kv_Cu, kv_C0, kv_catc, kv_gCi, kv_gCl, kv_gCr, kv_nb0, kv_nb1, kv_nbi, kv_nb01, Nat.reduceAdd, Nat.reduceLeDiff, hw, lk, kx_isSign, q, kx_a_at, kv_suc, kx_fd, kx_fa, r3, q2, show ((60 : Int32) = 61) = False from by decide, r4, show (kx_oC 60 = 0) = False from by decide]
      · have q3 : kx_sg t L (kw_nx t L a) = 62 := by
          unfold kx_oC at q
          rw [if_neg q1, if_neg q2] at q
          by_cases q3 : kx_sg t L (kw_nx t L a) = 62
          · exact q3
          · rw [if_neg q3] at q
            exact absurd rfl q
        have ek : Int32.ofNat (kx_oC (kx_sg t L (kw_nx t L a))) = 8 := by rw [q3]; decide
        rw [ek] at r4
        simp only [kv_e169_0, kv_e169_1, kv_e169_4, kv_e169_5, kv_e169_8, kv_e169_9, kv_e169_12, kv_e169_16, kv_e169_17, kv_e169_18, kv_e169_21, kv_e169_29, kv_e169_30, kv_e169_31, kv_e169_34, kv_e169_35, kv_e169_36, kv_e169_39, kv_e169_40, kv_e169_43, kv_e169_44, kv_e169_45, kv_e169_47, kv_e169_55, kv_e169_56, kv_e169_58, kv_e169_66, kv_e169_68, kv_e169_69, kv_e169_72, kv_o10, not_false_eq_true, not_true, if_true, if_false, kv_then_s, kv_then_v, kv_then_n, List.cons_append, List.nil_append, kv_Ci, kv_Cr, kv_Cn, kv_Cu, kv_C0, kv_catc, kv_gCi, kv_gCl, kv_gCr, kv_nb0, kv_nb1, kv_nbi, kv_nb01, Nat.reduceAdd, Nat.reduceLeDiff, hw, lk, kx_isSign, q, kx_a_at, kv_suc, kx_fd, kx_fa, r3, q3, show ((62 : Int32) = 61) = False from by decide, show ((62 : Int32) = 60) = False from by decide, r4, show (kx_oC 62 = 0) = False from by decide]
end
