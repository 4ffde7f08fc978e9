/-! laws as texts: the model's units and conditions -/
section
variable {d n L a : Nat} {t : Nat → Int32} {z z' : Nat → Nat → Int32} {zl : Nat → Nat → Int64}
theorem kx_and0 (hw : ¬ z 0 4 = -1) : kv_Rn d 171 0 [some (.ref 0)] [] (kv_m z zl) = some (none, kv_m z zl) := by
  rw [kv_e171_0]
  simp only [kv_e171_1, kv_e171_4, kv_e171_5, kv_e171_41, kv_o10, not_false_eq_true, not_true, if_true, if_false, kv_then_s, kv_then_v, kv_then_n, List.cons_append, List.nil_append, kv_Ci, kv_Cr, kv_Cn, kv_Cu, kv_C0, kv_catc, kv_gCi, kv_gCl, kv_gCr, kv_nb0, kv_nb1, kv_nbi, kv_nb01, Nat.reduceAdd, Nat.reduceLeDiff, hw]
theorem kx_or0 (hw : ¬ z 0 4 = -1) : kv_Rn d 172 0 [some (.ref 0)] [] (kv_m z zl) = some (none, kv_m z zl) := by
  rw [kv_e172_0]
  simp only [kv_e172_1, kv_e172_4, kv_e172_5, kv_e172_45, kv_o10, not_false_eq_true, not_true, if_true, if_false, kv_then_s, kv_then_v, kv_then_n, List.cons_append, List.nil_append, kv_Ci, kv_Cr, kv_Cn, kv_Cu, kv_C0, kv_catc, kv_gCi, kv_gCl, kv_gCr, kv_nb0, kv_nb1, kv_nbi, kv_nb01, Nat.reduceAdd, Nat.reduceLeDiff, hw]
theorem kx_andL {dp : Nat} {u : Nat → kx_Q} (hW : kx_W L u) (hS : kx_SM t L zl n dp (d + 2) 170 [some (.ref 0), none] u) : ∀ f i a cs z, i + f = 240 → i ≤ a → a ≤ L → kx_ctM t L a z → kx_mc n cs z → cs.length ≤ a → z 0 4 = -1 → z 0 5 = Int32.ofNat dp → ∃ z', kv_Rn (d + 3) 171 0 [some (.ref 0)] [] (kv_m z zl) = some (none, kv_m z' zl) ∧ kx_frM n z z' ∧ kx_mc n (cs ++ (kx_loop t L kx_oA u f a).2.2) z' ∧ z' 0 4 = (if (kx_loop t L kx_oA u f a).1 = true then -1 else Int32.ofNat (kx_loop t L kx_oA u f a).2.1) ∧ ((kx_loop t L kx_oA u f a).1 = true → kx_ctM t L (kx_loop t L kx_oA u f a).2.1 z' ∧ z' 0 5 = Int32.ofNat dp) := by
  intro f
  induction f with
  | zero =>
    intro i a cs z hi hia ha hc hm hl hw h5
    have hL := hc.1.2
    have el : L ≤ a := by omega
    have nn : kw_nx t L a = a := kw_nx_0 (fun s => by have := kx_sg_32 s; omega)
    have lk := kx_look (d := d + 1) (zl := zl) (show a ≤ 100000 by omega) hc
    rw [nn, kx_sg_ge el, kx_a_id hc.2.1] at lk
    refine ⟨z, ?_, kx_frM_rf n z, by rw [show (kx_loop t L kx_oA u 0 a).2.2 = [] from rfl, List.append_nil]; exact hm, hw, fun _ => ⟨hc, h5⟩⟩
    rw [kv_e171_0]
    simp only [kv_e171_1, kv_e171_4, kv_e171_5, kv_e171_8, kv_e171_9, kv_e171_12, kv_e171_14, kv_e171_41, kv_o10, not_false_eq_true, not_true, if_true, if_false, kv_then_s, kv_then_v, kv_then_n, List.cons_append, List.nil_append, kv_Ci, kv_Cr, kv_Cn, kv_Cu, kv_C0, kv_catc, kv_gCi, kv_gCl, kv_gCr, kv_nb0, kv_nb1, kv_nbi, kv_nb01, Nat.reduceAdd, Nat.reduceLeDiff, hw, lk, show ((-1 : Int32) = 38) = False from by decide]
  | succ f ih =>
    intro i a cs z hi hia ha hc hm hl hw h5
    have hL := hc.1.2
    have n1 := kw_nx_le t L a
    have n2 := kw_nx_L (t := t) ha
    have lk := kx_look (d := d + 1) (zl := zl) (show a ≤ 100000 by omega) hc
    by_cases q1 : kx_sg t L (kw_nx t L a) = 38
    · have q : ¬ kx_oA (kx_sg t L (kw_nx t L a)) = 0 := by rw [q1]; decide
      have hlt := kx_sg_ne (t := t) (L := L) (a := kw_nx t L a) (fun s => absurd (q1.symm.trans s) (by decide))
      obtain ⟨z3, r3, f3, m3, w3, c3⟩ := hS (kw_nx t L a + 1) cs (kx_a z (kw_nx t L a + 1)) (by omega) (kx_ctM_a hc) (kx_mc_a hm) (by omega) ((kx_a_ne z _ (by omega)).trans hw) ((kx_a_ne z _ (by omega)).trans h5)
      obtain ⟨⟨v1, v2⟩, v3⟩ := hW (kw_nx t L a + 1) (by omega)
      obtain ⟨z4, r4, f4, g4, m4⟩ := kx_put (d := d + 2) (zl := zl) (n := n) (kx_oA (kx_sg t L (kw_nx t L a))) 0 rfl rfl m3 (by rw [List.length_append]; omega)
      have ek : Int32.ofNat (kx_oA (kx_sg t L (kw_nx t L a))) = 10 := by rw [q1]; decide
      rw [ek, show Int32.ofNat 0 = (0 : Int32) from rfl] at r4
      have z04 : z4 0 = z3 0 := f4 0 (by omega) (by omega) (by omega)
      have road : kv_Rn (d + 3) 171 0 [some (.ref 0)] [] (kv_m z zl) = kv_Rn (d + 3) 171 0 [some (.ref 0)] [] (kv_m z4 zl) := by
        conv => lhs; rw [kv_e171_0]
        simp only [kv_e171_1, kv_e171_4, kv_e171_5, kv_e171_8, kv_e171_9, kv_e171_12, kv_e171_14, kv_e171_17, kv_e171_18, kv_e171_19, kv_e171_22, kv_e171_23, kv_e171_24, kv_e171_27, kv_e171_28, kv_e171_31, kv_e171_32, kv_e171_34, kv_e171_35, kv_e171_38, kv_o10, not_false_eq_true, not_true, if_true, if_false, kv_then_s, kv_then_v, kv_then_n, List.cons_append, List.nil_append, kv_Ci, kv_Cr, kv_Cn, kv_Cu, kv_C0, kv_catc, kv_gCi, kv_gCl, kv_gCr, kv_nb0, kv_nb1, kv_nbi, kv_nb01, Nat.reduceAdd, Nat.reduceLeDiff, hw, lk, q1, kx_a_at, kv_suc, kx_fd, kx_fa, r3, r4]
      rw [road]
      by_cases qo : (u (kw_nx t L a + 1)).1 = true
      · rw [kx_loop_t q qo]
        rw [if_pos qo] at w3
        obtain ⟨c3, d3⟩ := c3 qo
        obtain ⟨z5, r5, f5, m5, w5, c5⟩ := ih (i + 1) (u (kw_nx t L a + 1)).2.1 _ z4 (by omega) (by omega) v2 (kx_ctM_fr c3 z04 (f4 1 (by omega) (by omega) (by omega))) m4 (by rw [List.length_append, List.length_append, List.length_cons, List.length_nil]; omega) (by rw [z04]; exact w3) (by rw [z04]; exact d3)
        exact ⟨z5, r5, kx_frM_tr kx_frM_a (kx_frM_tr f3 (kx_frM_tr g4 f5)), by rw [kx_app1]; exact m5, w5, c5⟩
      · rw [kx_loop_f q qo]
        rw [if_neg qo] at w3
        have w4 : z4 0 4 = Int32.ofNat (u (kw_nx t L a + 1)).2.1 := by rw [z04]; exact w3
        refine ⟨z4, kx_and0 (by rw [w4, kw_of_m1 (by omega)]; exact fun s => s), kx_frM_tr kx_frM_a (kx_frM_tr f3 g4), by rw [kx_app2]; exact m4, w4, fun s => absurd s (by simp)⟩
    · have q : kx_oA (kx_sg t L (kw_nx t L a)) = 0 := if_neg q1
      rw [kx_loop_n q]
      refine ⟨kx_a z (kw_nx t L a), ?_, kx_frM_a, by rw [List.append_nil]; exact kx_mc_a hm, (kx_a_ne z _ (by omega)).trans hw, fun _ => ⟨kx_ctM_a hc, (kx_a_ne z _ (by omega)).trans h5⟩⟩
      rw [kv_e171_0]
      simp only [kv_e171_1, kv_e171_4, kv_e171_5, kv_e171_8, kv_e171_9, kv_e171_12, kv_e171_14, kv_e171_41, kv_o10, not_false_eq_true, not_true, if_true, if_false, kv_then_s, kv_then_v, kv_then_n, List.cons_append, List.nil_append, kv_Ci, kv_Cr, kv_Cn, kv_Cu, kv_C0, kv_catc, kv_gCi, kv_gCl, kv_gCr, kv_nb0, kv_nb1, kv_nbi, kv_nb01, Nat.reduceAdd, Nat.reduceLeDiff, hw, lk, q1]
theorem kx_andM {dp : Nat} {u : Nat → kx_Q} (hW : kx_W L u) (hS : kx_SM t L zl n dp (d + 2) 170 [some (.ref 0), none] u) : kx_SM t L zl n dp (d + 3) 171 [some (.ref 0)] (kx_loop t L kx_oA u 240) := fun a cs z ha hc hm hl hw h5 => kx_andL hW hS 240 0 a cs z (by omega) (by omega) ha hc hm hl hw h5
/-- a first reader, then what goes on -/
def kx_2M (t : Nat → Int32) (L : Nat) (zl : Nat → Nat → Int64) (n dp D j1 : Nat) (l1 : kv_L) (j2 : Nat) (p : Nat → kx_Q) : Prop := ∀ (a : Nat) (cs : List (Nat × Nat)) (z : Nat → Nat → Int32), a ≤ L → kx_ctM t L a z → kx_mc n cs z → cs.length ≤ a → z 0 4 = -1 → z 0 5 = Int32.ofNat dp → ∃ z1 z', kv_Rn D j1 0 l1 [] (kv_m z zl) = some (none, kv_m z1 zl) ∧ kv_Rn D j2 0 [some (.ref 0)] [] (kv_m z1 zl) = some (none, kv_m z' zl) ∧ kx_frM n z z' ∧ kx_mc n (cs ++ (p a).2.2) z' ∧ z' 0 4 = (if (p a).1 = true then -1 else Int32.ofNat (p a).2.1) ∧ ((p a).1 = true → kx_ctM t L (p a).2.1 z' ∧ z' 0 5 = Int32.ofNat dp)
theorem kx_seqM {dp j1 : Nat} {l1 : kv_L} {p k : Nat → kx_Q} {j2 : Nat} (h0 : ∀ (z : Nat → Nat → Int32), ¬ z 0 4 = -1 → kv_Rn d j2 0 [some (.ref 0)] [] (kv_m z zl) = some (none, kv_m z zl)) (hW : kx_W L p) (hS : kx_SM t L zl n dp d j1 l1 p) (hk : kx_SM t L zl n dp d j2 [some (.ref 0)] k) : kx_2M t L zl n dp d j1 l1 j2 (kx_sqf p k) := by
  intro a cs z ha hc hm hl hw h5
  obtain ⟨z1, r1, f1, m1, w1, c1⟩ := hS a cs z ha hc hm hl hw h5
  obtain ⟨⟨v1, v2⟩, v3⟩ := hW a ha
  have hL := hc.1.2
  unfold kx_sqf
  by_cases qo : (p a).1 = true
  · rw [kx_seq_1 qo]
    rw [if_pos qo] at w1
    obtain ⟨c1, d1⟩ := c1 qo
    obtain ⟨z2, r2, f2, m2, w2, c2⟩ := hk (p a).2.1 _ z1 v2 c1 m1 (by rw [List.length_append]; omega) w1 d1
    exact ⟨z1, z2, r1, r2, kx_frM_tr f1 f2, by dsimp only; rw [← List.append_assoc]; exact m2, w2, c2⟩
  · rw [kx_seq_0 qo]
    rw [if_neg qo] at w1
    exact ⟨z1, z1, r1, h0 z1 (by rw [w1, kw_of_m1 (by omega)]; exact fun s => s), f1, m1, by rw [w1, if_neg qo], fun s => absurd s qo⟩
theorem kx_orL {dp : Nat} {u : Nat → kx_Q} (hW : kx_W L u) (hS : kx_2M t L zl n dp (d + 2) 170 [some (.ref 0), none] 171 u) : ∀ f i a cs z, i + f = 240 → i ≤ a → a ≤ L → kx_ctM t L a z → kx_mc n cs z → cs.length ≤ a → z 0 4 = -1 → z 0 5 = Int32.ofNat dp → ∃ z', kv_Rn (d + 3) 172 0 [some (.ref 0)] [] (kv_m z zl) = some (none, kv_m z' zl) ∧ kx_frM n z z' ∧ kx_mc n (cs ++ (kx_loop t L kx_oO u f a).2.2) z' ∧ z' 0 4 = (if (kx_loop t L kx_oO u f a).1 = true then -1 else Int32.ofNat (kx_loop t L kx_oO u f a).2.1) ∧ ((kx_loop t L kx_oO u f a).1 = true → kx_ctM t L (kx_loop t L kx_oO u f a).2.1 z' ∧ z' 0 5 = Int32.ofNat dp) := by
  intro f
  induction f with
  | zero =>
    intro i a cs z hi hia ha hc hm hl hw h5
    have hL := hc.1.2
    have el : L ≤ a := by omega
    have nn : kw_nx t L a = a := kw_nx_0 (fun s => by have := kx_sg_32 s; omega)
    have lk := kx_look (d := d + 1) (zl := zl) (show a ≤ 100000 by omega) hc
    rw [nn, kx_sg_ge el, kx_a_id hc.2.1] at lk
    refine ⟨z, ?_, kx_frM_rf n z, by rw [show (kx_loop t L kx_oO u 0 a).2.2 = [] from rfl, List.append_nil]; exact hm, hw, fun _ => ⟨hc, h5⟩⟩
    rw [kv_e172_0]
    simp only [kv_e172_1, kv_e172_4, kv_e172_5, kv_e172_8, kv_e172_9, kv_e172_12, kv_e172_14, kv_e172_45, kv_o10, not_false_eq_true, not_true, if_true, if_false, kv_then_s, kv_then_v, kv_then_n, List.cons_append, List.nil_append, kv_Ci, kv_Cr, kv_Cn, kv_Cu, kv_C0, kv_catc, kv_gCi, kv_gCl, kv_gCr, kv_nb0, kv_nb1, kv_nbi, kv_nb01, Nat.reduceAdd, Nat.reduceLeDiff, hw, lk, show ((-1 : Int32) = 124) = False from by decide]
  | succ f ih =>
    intro i a cs z hi hia ha hc hm hl hw h5
    have hL := hc.1.2
    have n1 := kw_nx_le t L a
    have n2 := kw_nx_L (t := t) ha
    have lk := kx_look (d := d + 1) (zl := zl) (show a ≤ 100000 by omega) hc
    by_cases q1 : kx_sg t L (kw_nx t L a) = 124
    · have q : ¬ kx_oO (kx_sg t L (kw_nx t L a)) = 0 := by rw [q1]; decide
      have hlt := kx_sg_ne (t := t) (L := L) (a := kw_nx t L a) (fun s => absurd (q1.symm.trans s) (by decide))
      obtain ⟨z2, z3, r2, r3, f3, m3, w3, c3⟩ := hS (kw_nx t L a + 1) cs (kx_a z (kw_nx t L a + 1)) (by omega) (kx_ctM_a hc) (kx_mc_a hm) (by omega) ((kx_a_ne z _ (by omega)).trans hw) ((kx_a_ne z _ (by omega)).trans h5)
      obtain ⟨⟨v1, v2⟩, v3⟩ := hW (kw_nx t L a + 1) (by omega)
      obtain ⟨z4, r4, f4, g4, m4⟩ := kx_put (d := d + 2) (zl := zl) (n := n) (kx_oO (kx_sg t L (kw_nx t L a))) 0 rfl rfl m3 (by rw [List.length_append]; omega)
      have ek : Int32.ofNat (kx_oO (kx_sg t L (kw_nx t L a))) = 11 := by rw [q1]; decide
      rw [ek, show Int32.ofNat 0 = (0 : Int32) from rfl] at r4
      have z04 : z4 0 = z3 0 := f4 0 (by omega) (by omega) (by omega)
      have road : kv_Rn (d + 3) 172 0 [some (.ref 0)] [] (kv_m z zl) = kv_Rn (d + 3) 172 0 [some (.ref 0)] [] (kv_m z4 zl) := by
        conv => lhs; rw [kv_e172_0]
        simp only [kv_e172_1, kv_e172_4, kv_e172_5, kv_e172_8, kv_e172_9, kv_e172_12, kv_e172_14, kv_e172_17, kv_e172_18, kv_e172_19, kv_e172_22, kv_e172_23, kv_e172_24, kv_e172_27, kv_e172_28, kv_e172_31, kv_e172_32, kv_e172_35, kv_e172_36, kv_e172_38, kv_e172_39, kv_e172_42, kv_o10, not_false_eq_true, not_true, if_true, if_false, kv_then_s, kv_then_v, kv_then_n, List.cons_append, List.nil_append, kv_Ci, kv_Cr, kv_Cn, kv_Cu, kv_C0, kv_catc, kv_gCi, kv_gCl, kv_gCr, kv_nb0, kv_nb1, kv_nbi, kv_nb01, Nat.reduceAdd, Nat.reduceLeDiff, hw, lk, q1, kx_a_at, kv_suc, kx_fd, kx_fa, r2, r3, r4]
      rw [road]
      by_cases qo : (u (kw_nx t L a + 1)).1 = true
      · rw [kx_loop_t q qo]
        rw [if_pos qo] at w3
        obtain ⟨c3, d3⟩ := c3 qo
        obtain ⟨z5, r5, f5, m5, w5, c5⟩ := ih (i + 1) (u (kw_nx t L a + 1)).2.1 _ z4 (by omega) (by omega) v2 (kx_ctM_fr c3 z04 (f4 1 (by omega) (by omega) (by omega))) m4 (by rw [List.length_append, List.length_append, List.length_cons, List.length_nil]; omega) (by rw [z04]; exact w3) (by rw [z04]; exact d3)
        exact ⟨z5, r5, kx_frM_tr kx_frM_a (kx_frM_tr f3 (kx_frM_tr g4 f5)), by rw [kx_app1]; exact m5, w5, c5⟩
      · rw [kx_loop_f q qo]
        rw [if_neg qo] at w3
        have w4 : z4 0 4 = Int32.ofNat (u (kw_nx t L a + 1)).2.1 := by rw [z04]; exact w3
        refine ⟨z4, kx_or0 (by rw [w4, kw_of_m1 (by omega)]; exact fun s => s), kx_frM_tr kx_frM_a (kx_frM_tr f3 g4), by rw [kx_app2]; exact m4, w4, fun s => absurd s (by simp)⟩
    · have q : kx_oO (kx_sg t L (kw_nx t L a)) = 0 := if_neg q1
      rw [kx_loop_n q]
      refine ⟨kx_a z (kw_nx t L a), ?_, kx_frM_a, by rw [List.append_nil]; exact kx_mc_a hm, (kx_a_ne z _ (by omega)).trans hw, fun _ => ⟨kx_ctM_a hc, (kx_a_ne z _ (by omega)).trans h5⟩⟩
      rw [kv_e172_0]
      simp only [kv_e172_1, kv_e172_4, kv_e172_5, kv_e172_8, kv_e172_9, kv_e172_12, kv_e172_14, kv_e172_45, kv_o10, not_false_eq_true, not_true, if_true, if_false, kv_then_s, kv_then_v, kv_then_n, List.cons_append, List.nil_append, kv_Ci, kv_Cr, kv_Cn, kv_Cu, kv_C0, kv_catc, kv_gCi, kv_gCl, kv_gCr, kv_nb0, kv_nb1, kv_nbi, kv_nb01, Nat.reduceAdd, Nat.reduceLeDiff, hw, lk, q1]
theorem kx_orM {dp : Nat} {u : Nat → kx_Q} (hW : kx_W L u) (hS : kx_2M t L zl n dp (d + 2) 170 [some (.ref 0), none] 171 u) : kx_SM t L zl n dp (d + 3) 172 [some (.ref 0)] (kx_loop t L kx_oO u 240) := fun a cs z ha hc hm hl hw h5 => kx_orL hW hS 240 0 a cs z (by omega) (by omega) ha hc hm hl hw h5
/-- three behind each other: a first, what goes on with and, with or -/
theorem kx_3M {dp j1 : Nat} {l1 : kv_L} {p u : Nat → kx_Q} (hW : kx_W L p) (hWu : kx_W L u) (hS : kx_SM t L zl n dp (d + 4) j1 l1 p) (hU : ∀ D, d ≤ D → kx_SM t L zl n dp D 170 [some (.ref 0), none] u) (a : Nat) (cs : List (Nat × Nat)) (z : Nat → Nat → Int32) (ha : a ≤ L) (hc : kx_ctM t L a z) (hm : kx_mc n cs z) (hl : cs.length ≤ a) (hw : z 0 4 = -1) (h5 : z 0 5 = Int32.ofNat dp) :
    ∃ z1 z2 z', kv_Rn (d + 4) j1 0 l1 [] (kv_m z zl) = some (none, kv_m z1 zl) ∧ kv_Rn (d + 4) 171 0 [some (.ref 0)] [] (kv_m z1 zl) = some (none, kv_m z2 zl) ∧ kv_Rn (d + 4) 172 0 [some (.ref 0)] [] (kv_m z2 zl) = some (none, kv_m z' zl) ∧ kx_frM n z z' ∧ kx_mc n (cs ++ (kx_sqf (kx_sqf p (kx_loop t L kx_oA u 240)) (kx_loop t L kx_oO (kx_tr t L u) 240) a).2.2) z' ∧ z' 0 4 = (if (kx_sqf (kx_sqf p (kx_loop t L kx_oA u 240)) (kx_loop t L kx_oO (kx_tr t L u) 240) a).1 = true then -1 else Int32.ofNat (kx_sqf (kx_sqf p (kx_loop t L kx_oA u 240)) (kx_loop t L kx_oO (kx_tr t L u) 240) a).2.1) ∧ ((kx_sqf (kx_sqf p (kx_loop t L kx_oA u 240)) (kx_loop t L kx_oO (kx_tr t L u) 240) a).1 = true → kx_ctM t L (kx_sqf (kx_sqf p (kx_loop t L kx_oA u 240)) (kx_loop t L kx_oO (kx_tr t L u) 240) a).2.1 z' ∧ z' 0 5 = Int32.ofNat dp) := by
  have hL := hc.1.2
  have and4 := kx_andM (d := d + 1) hWu (hU (d + 3) (by omega))
  have t2 : kx_2M t L zl n dp (d + 3) 170 [some (.ref 0), none] 171 (kx_tr t L u) := kx_seqM (fun w h => kx_and0 h) hWu (hU (d + 3) (by omega)) (kx_andM (d := d) hWu (hU (d + 2) (by omega)))
  have wt := kx_W_tr (t := t) hWu
  have or4 := kx_orM (d := d + 1) wt t2
  have first := kx_seqM (fun w h => kx_and0 h) hW hS and4
  obtain ⟨z1, z2, r1, r2, f2, m2, w2, c2⟩ := first a cs z ha hc hm hl hw h5
  have v : (a ≤ (kx_sqf p (kx_loop t L kx_oA u 240) a).2.1 ∧ (kx_sqf p (kx_loop t L kx_oA u 240) a).2.1 ≤ L) ∧ (kx_sqf p (kx_loop t L kx_oA u 240) a).2.2.length + a ≤ (kx_sqf p (kx_loop t L kx_oA u 240) a).2.1 := kx_W_seq (hW a ha) (kx_W_loop rfl hWu 240)
  generalize hR : kx_sqf p (kx_loop t L kx_oA u 240) a = R at *
  have eR : kx_sqf (kx_sqf p (kx_loop t L kx_oA u 240)) (kx_loop t L kx_oO (kx_tr t L u) 240) a = kx_seq R (kx_loop t L kx_oO (kx_tr t L u) 240) := by
    rw [← hR]
    rfl
  rw [eR]
  obtain ⟨⟨v1, v2⟩, v3⟩ := v
  by_cases qo : R.1 = true
  · rw [kx_seq_1 qo]
    rw [if_pos qo] at w2
    obtain ⟨c2, d2⟩ := c2 qo
    obtain ⟨z3, r3, f3, m3, w3, c3⟩ := or4 R.2.1 _ z2 v2 c2 m2 (by rw [List.length_append]; omega) w2 d2
    exact ⟨z1, z2, z3, r1, r2, r3, kx_frM_tr f2 f3, by dsimp only; rw [← List.append_assoc]; exact m3, w3, c3⟩
  · rw [kx_seq_0 qo]
    rw [if_neg qo] at w2
    exact ⟨z1, z2, z2, r1, r2, kx_or0 (by rw [w2, kw_of_m1 (by omega)]; exact fun s => s), f2, m2, by rw [w2, if_neg qo], fun s => absurd s qo⟩
theorem kx_condM {dp : Nat} {u : Nat → kx_Q} (hWu : kx_W L u) (hU : ∀ D, d ≤ D → kx_SM t L zl n dp D 170 [some (.ref 0), none] u) : kx_SM t L zl n dp (d + 5) 173 [some (.ref 0)] (kx_cd t L u) := by
  intro a cs z ha hc hm hl hw h5
  obtain ⟨z1, z2, z3, r1, r2, r3, f3, m3, w3, c3⟩ := kx_3M (d := d) hWu hWu (hU (d + 4) (by omega)) hU a cs z ha hc hm hl hw h5
  refine ⟨z3, ?_, f3, m3, w3, c3⟩
  simp only [kv_e173_0, kv_e173_1, kv_e173_4, kv_e173_5, kv_e173_8, kv_e173_9, kv_e173_12, kv_o10, not_false_eq_true, not_true, if_true, if_false, kv_then_s, kv_then_v, kv_then_n, List.cons_append, List.nil_append, kv_Ci, kv_Cr, kv_Cn, kv_Cu, kv_C0, kv_catc, kv_gCi, kv_gCl, kv_gCr, kv_nb0, kv_nb1, kv_nbi, kv_nb01, Nat.reduceAdd, Nat.reduceLeDiff, r1, r2, r3]
theorem kx_unitM {dp : Nat} (hd : dp ≤ 6) {s : Nat → kx_Q} {nest : Option ((Nat → kx_Q) × (Nat → kx_Q))} (hW : kx_W L s) (hS : kx_SM t L zl n dp (d + 4) 167 [some (.ref 0), none] s) (hS2 : kx_SM t L zl n dp (d + 3) 167 [some (.ref 0), none] s) (hb : (dp = 6 ∧ nest = none) ∨ (dp < 6 ∧ ∃ m, nest = some m ∧ (kx_W L m.1 ∧ kx_W L m.2) ∧ kx_SM t L zl n (dp + 1) (d + 4) 170 [some (.ref 0), none] m.1 ∧ kx_SM t L zl n (dp + 1) (d + 4) 173 [some (.ref 0)] m.2)) : kx_SM t L zl n dp (d + 5) 170 [some (.ref 0), none] (kx_unit t L nest s) := by
  intro a cs z ha hc hm hl hw h5
  have hL := hc.1.2
  have n1 := kw_nx_le t L a
  have n2 := kw_nx_L (t := t) ha
  have lk := kx_look (d := d + 3) (zl := zl) (show a ≤ 100000 by omega) hc
  have c1 := kx_ctM_a (b := kw_nx t L a) hc
  have w1 : kx_a z (kw_nx t L a) 0 4 = -1 := (kx_a_ne z _ (by omega)).trans hw
  have d1 : kx_a z (kw_nx t L a) 0 5 = Int32.ofNat dp := (kx_a_ne z _ (by omega)).trans h5
  have m1 : kx_mc n cs (kx_a z (kw_nx t L a)) := kx_mc_a hm
  by_cases q1 : kx_sg t L (kw_nx t L a) = 33
  · have hlt := kx_sg_ne (t := t) (L := L) (a := kw_nx t L a) (fun s => absurd (q1.symm.trans s) (by decide))
    obtain ⟨zo, ro, eo⟩ := kx_opens (d := d + 3) (zl := zl) w1 (kx_a_at z (kw_nx t L a)) d1 hd
    rcases hb with ⟨h6, hb⟩ | ⟨h6, m, hb, ⟨W1, W2⟩, S1, S2⟩
    · subst hb
      have eu : kx_unit t L none s a = (false, kw_nx t L a, []) := if_pos q1
      rw [eu]
      rw [if_pos h6] at eo
      have zw : zo 0 4 = Int32.ofNat (kw_nx t L a) := by rw [eo, kx_f_ne _ _ (by omega), kx_f_ne _ _ (by omega), kx_f_at]
      refine ⟨zo, ?_, ?_, ?_, zw, fun s => absurd s (by simp)⟩
      · simp only [kv_e170_0, kv_e170_1, kv_e170_4, kv_e170_5, kv_e170_6, kv_e170_8, kv_e170_11, kv_e170_12, kv_e170_15, kv_e170_16, kv_e170_19, kv_e170_20, kv_e170_94, kv_o10, not_false_eq_true, not_true, if_true, if_false, kv_then_s, kv_then_v, kv_then_n, List.cons_append, List.nil_append, kv_Ci, kv_Cr, kv_Cn, kv_Cu, kv_C0, kv_catc, kv_gCi, kv_gCl, kv_gCr, kv_nb0, kv_nb1, kv_nbi, kv_nb01, Nat.reduceAdd, Nat.reduceLeDiff, lk, q1, ro, zw, kw_of_m1 (show kw_nx t L a < 2147483648 by omega)]
      · rw [eo]
        exact kx_frM_tr kx_frM_a (kx_frM_tr (kx_frM_f (Or.inr (Or.inl rfl))) (kx_frM_tr (kx_frM_f (Or.inr (Or.inr rfl))) (kx_frM_f (Or.inl rfl))))
      · rw [eo, List.append_nil]
        exact kx_mc_f (kx_mc_f (kx_mc_f m1 (by omega)) (by omega)) (by omega)
    · subst hb
      have eu : kx_unit t L (some m) s a = ((m.1 (kw_nx t L a + 1)).1, (m.1 (kw_nx t L a + 1)).2.1, (m.1 (kw_nx t L a + 1)).2.2 ++ [(9, 0)]) := if_pos q1
      rw [eu]
      rw [if_neg (by omega)] at eo
      have zw : zo 0 4 = -1 := by rw [eo, kx_f_ne _ _ (by omega), kx_f_ne _ _ (by omega)]; exact w1
      have zd : zo 0 5 = Int32.ofNat (dp + 1) := by rw [eo, kx_f_ne _ _ (by omega), kx_f_at]
      have zc : kx_ctM t L (kw_nx t L a + 1) zo := by rw [eo]; exact kx_ctM_a (kx_ctM_j c1 (by omega))
      have zf : kx_frM n z zo := by rw [eo]; exact kx_frM_tr kx_frM_a (kx_frM_tr (kx_frM_f (Or.inr (Or.inr rfl))) (kx_frM_f (Or.inl rfl)))
      have zm : kx_mc n cs zo := by rw [eo]; exact kx_mc_f (kx_mc_f m1 (by omega)) (by omega)
      obtain ⟨z3, r3, f3, m3, w3, c3⟩ := S1 (kw_nx t L a + 1) cs zo (by omega) zc zm (by omega) zw zd
      obtain ⟨⟨v1, v2⟩, v3⟩ := W1 (kw_nx t L a + 1) (by omega)
      obtain ⟨z4, r4, f4, g4, m4⟩ := kx_put (d := d + 4) (zl := zl) (n := n) 9 0 rfl rfl m3 (by rw [List.length_append]; omega)
      rw [show Int32.ofNat 9 = (9 : Int32) from rfl, show Int32.ofNat 0 = (0 : Int32) from rfl] at r4
      have z04 : z4 0 = z3 0 := f4 0 (by omega) (by omega) (by omega)
      refine ⟨kx_f z4 5 (z4 0 5 - 1), ?_, kx_frM_tr zf (kx_frM_tr f3 (kx_frM_tr g4 (kx_frM_f (Or.inr (Or.inr rfl))))), by rw [kx_app2]; exact kx_mc_f m4 (by omega), by rw [kx_f_ne _ _ (by omega), z04]; exact w3, fun s => ⟨kx_ctM_j (kx_ctM_fr (c3 s).1 z04 (f4 1 (by omega) (by omega) (by omega))) (by omega), by rw [kx_f_at, z04, (c3 s).2, kv_pre]⟩⟩
      simp only [kv_e170_0, kv_e170_1, kv_e170_4, kv_e170_5, kv_e170_6, kv_e170_8, kv_e170_11, kv_e170_12, kv_e170_15, kv_e170_16, kv_e170_19, kv_e170_20, kv_e170_23, kv_e170_24, kv_e170_27, kv_e170_28, kv_e170_30, kv_e170_31, kv_e170_34, kv_e170_35, kv_e170_36, kv_e170_39, kv_e170_40, kv_e170_41, kv_e170_44, kv_e170_94, kv_o10, not_false_eq_true, not_true, if_true, if_false, kv_then_s, kv_then_v, kv_then_n, List.cons_append, List.nil_append, kv_Ci, kv_Cr, kv_Cn, kv_Cu, kv_C0, kv_catc, kv_gCi, kv_gCl, kv_gCr, kv_nb0, kv_nb1, kv_nbi, kv_nb01, Nat.reduceAdd, Nat.reduceLeDiff, lk, q1, ro, zw, r3, r4, kx_fd]
  · by_cases q2 : kx_sg t L (kw_nx t L a) = 40
    · have hlt := kx_sg_ne (t := t) (L := L) (a := kw_nx t L a) (fun s => absurd (q2.symm.trans s) (by decide))
      obtain ⟨zo, ro, eo⟩ := kx_opens (d := d + 3) (zl := zl) w1 (kx_a_at z (kw_nx t L a)) d1 hd
      rcases hb with ⟨h6, hb⟩ | ⟨h6, m, hb, ⟨W1, W2⟩, S1, S2⟩
      · subst hb
        have eu : kx_unit t L none s a = (false, kw_nx t L a, []) := (if_neg q1).trans (if_pos q2)
        rw [eu]
        rw [if_pos h6] at eo
        have zw : zo 0 4 = Int32.ofNat (kw_nx t L a) := by rw [eo, kx_f_ne _ _ (by omega), kx_f_ne _ _ (by omega), kx_f_at]
        refine ⟨zo, ?_, ?_, ?_, zw, fun s => absurd s (by simp)⟩
        · simp only [kv_e170_0, kv_e170_1, kv_e170_4, kv_e170_5, kv_e170_6, kv_e170_8, kv_e170_47, kv_e170_48, kv_e170_50, kv_e170_53, kv_e170_54, kv_e170_57, kv_e170_58, kv_e170_61, kv_e170_62, kv_e170_94, kv_o10, not_false_eq_true, not_true, if_true, if_false, kv_then_s, kv_then_v, kv_then_n, List.cons_append, List.nil_append, kv_Ci, kv_Cr, kv_Cn, kv_Cu, kv_C0, kv_catc, kv_gCi, kv_gCl, kv_gCr, kv_nb0, kv_nb1, kv_nbi, kv_nb01, Nat.reduceAdd, Nat.reduceLeDiff, lk, q2, show ((40 : Int32) = 33) = False from by decide, ro, zw, kw_of_m1 (show kw_nx t L a < 2147483648 by omega)]
        · rw [eo]
          exact kx_frM_tr kx_frM_a (kx_frM_tr (kx_frM_f (Or.inr (Or.inl rfl))) (kx_frM_tr (kx_frM_f (Or.inr (Or.inr rfl))) (kx_frM_f (Or.inl rfl))))
        · rw [eo, List.append_nil]
          exact kx_mc_f (kx_mc_f (kx_mc_f m1 (by omega)) (by omega)) (by omega)
      · subst hb
        have eu : kx_unit t L (some m) s a = kx_close t L 41 (m.2 (kw_nx t L a + 1)) := (if_neg q1).trans (if_pos q2)
        rw [eu]
        rw [if_neg (by omega)] at eo
        have zw : zo 0 4 = -1 := by rw [eo, kx_f_ne _ _ (by omega), kx_f_ne _ _ (by omega)]; exact w1
        have zd : zo 0 5 = Int32.ofNat (dp + 1) := by rw [eo, kx_f_ne _ _ (by omega), kx_f_at]
        have zc : kx_ctM t L (kw_nx t L a + 1) zo := by rw [eo]; exact kx_ctM_a (kx_ctM_j c1 (by omega))
        have zf : kx_frM n z zo := by rw [eo]; exact kx_frM_tr kx_frM_a (kx_frM_tr (kx_frM_f (Or.inr (Or.inr rfl))) (kx_frM_f (Or.inl rfl)))
        have zm : kx_mc n cs zo := by rw [eo]; exact kx_mc_f (kx_mc_f m1 (by omega)) (by omega)
        obtain ⟨z3, r3, f3, m3, w3, c3⟩ := S2 (kw_nx t L a + 1) cs zo (by omega) zc zm (by omega) zw zd
        obtain ⟨⟨v1, v2⟩, v3⟩ := W2 (kw_nx t L a + 1) (by omega)
        by_cases qo : (m.2 (kw_nx t L a + 1)).1 = true
        · rw [if_pos qo] at w3
          obtain ⟨c3, d3⟩ := c3 qo
          obtain ⟨z4, r4, e4⟩ := kx_closes (d := d + 2) (zl := zl) 41 w3 (show (m.2 (kw_nx t L a + 1)).2.1 ≤ 100000 by omega) c3 d3
          by_cases qc : kx_sg t L (kw_nx t L (m.2 (kw_nx t L a + 1)).2.1) = 41
          · rw [if_pos qc] at e4
            rw [kx_close_1 qo qc]
            refine ⟨z4, ?_, ?_, ?_, ?_, fun _ => ⟨?_, ?_⟩⟩
            · simp only [kv_e170_0, kv_e170_1, kv_e170_4, kv_e170_5, kv_e170_6, kv_e170_8, kv_e170_47, kv_e170_48, kv_e170_50, kv_e170_53, kv_e170_54, kv_e170_57, kv_e170_58, kv_e170_61, kv_e170_62, kv_e170_65, kv_e170_66, kv_e170_69, kv_e170_70, kv_e170_72, kv_e170_75, kv_e170_94, kv_o10, not_false_eq_true, not_true, if_true, if_false, kv_then_s, kv_then_v, kv_then_n, List.cons_append, List.nil_append, kv_Ci, kv_Cr, kv_Cn, kv_Cu, kv_C0, kv_catc, kv_gCi, kv_gCl, kv_gCr, kv_nb0, kv_nb1, kv_nbi, kv_nb01, Nat.reduceAdd, Nat.reduceLeDiff, lk, q2, show ((40 : Int32) = 33) = False from by decide, ro, zw, r3, r4]
            · rw [e4]
              exact kx_frM_tr zf (kx_frM_tr f3 (kx_frM_tr kx_frM_a (kx_frM_f (Or.inr (Or.inr rfl)))))
            · rw [e4]
              exact kx_mc_f (kx_mc_a m3) (by omega)
            · rw [e4, kx_f_ne _ _ (by omega), kx_a_ne _ _ (by omega), w3]
              rfl
            · rw [e4]
              exact kx_ctM_j (kx_ctM_a c3) (by omega)
            · rw [e4, kx_f_at]
          · rw [if_neg qc] at e4
            rw [kx_close_2 qo qc]
            refine ⟨z4, ?_, ?_, ?_, ?_, fun s => absurd s (by simp)⟩
            · simp only [kv_e170_0, kv_e170_1, kv_e170_4, kv_e170_5, kv_e170_6, kv_e170_8, kv_e170_47, kv_e170_48, kv_e170_50, kv_e170_53, kv_e170_54, kv_e170_57, kv_e170_58, kv_e170_61, kv_e170_62, kv_e170_65, kv_e170_66, kv_e170_69, kv_e170_70, kv_e170_72, kv_e170_75, kv_e170_94, kv_o10, not_false_eq_true, not_true, if_true, if_false, kv_then_s, kv_then_v, kv_then_n, List.cons_append, List.nil_append, kv_Ci, kv_Cr, kv_Cn, kv_Cu, kv_C0, kv_catc, kv_gCi, kv_gCl, kv_gCr, kv_nb0, kv_nb1, kv_nbi, kv_nb01, Nat.reduceAdd, Nat.reduceLeDiff, lk, q2, show ((40 : Int32) = 33) = False from by decide, ro, zw, r3, r4]
            · rw [e4]
              exact kx_frM_tr zf (kx_frM_tr f3 (kx_frM_tr kx_frM_a (kx_frM_tr (kx_frM_f (Or.inr (Or.inl rfl))) (kx_frM_tr (kx_frM_f (Or.inl rfl)) (kx_frM_f (Or.inr (Or.inr rfl)))))))
            · rw [e4]
              exact kx_mc_f (kx_mc_f (kx_mc_f (kx_mc_a m3) (by omega)) (by omega)) (by omega)
            · rw [e4, kx_f_ne _ _ (by omega), kx_f_ne _ _ (by omega), kx_f_at]
              rfl
        · rw [if_neg qo] at w3
          have w3' : ¬ z3 0 4 = -1 := by rw [w3, kw_of_m1 (by omega)]; exact fun s => s
          obtain ⟨z4, r4, f4, g4, k4⟩ := kx_closes_f (d := d + 2) (zl := zl) (n := n) 41 w3'
          rw [kx_close_0 qo]
          refine ⟨z4, ?_, kx_frM_tr zf (kx_frM_tr f3 f4), ⟨⟨(g4 14 (by omega) (by omega)).trans m3.1.1, m3.1.2⟩, by rw [k4 4 (by omega)]; exact m3.2.1, by rw [k4 2 (by omega), k4 3 (by omega)]; exact m3.2.2⟩, ?_, fun s => absurd s qo⟩
          · simp only [kv_e170_0, kv_e170_1, kv_e170_4, kv_e170_5, kv_e170_6, kv_e170_8, kv_e170_47, kv_e170_48, kv_e170_50, kv_e170_53, kv_e170_54, kv_e170_57, kv_e170_58, kv_e170_61, kv_e170_62, kv_e170_65, kv_e170_66, kv_e170_69, kv_e170_70, kv_e170_72, kv_e170_75, kv_e170_94, kv_o10, not_false_eq_true, not_true, if_true, if_false, kv_then_s, kv_then_v, kv_then_n, List.cons_append, List.nil_append, kv_Ci, kv_Cr, kv_Cn, kv_Cu, kv_C0, kv_catc, kv_gCi, kv_gCl, kv_gCr, kv_nb0, kv_nb1, kv_nbi, kv_nb01, Nat.reduceAdd, Nat.reduceLeDiff, lk, q2, show ((40 : Int32) = 33) = False from by decide, ro, zw, r3, r4]
          · rw [g4 4 (by omega) (by omega), w3, if_neg qo]
    · have eu : kx_unit t L nest s a = kx_seq (s (kw_nx t L a)) (kx_cmp t L s) := (if_neg q1).trans (if_neg q2)
      rw [eu]
      obtain ⟨z3, r3, f3, m3, w3, c3⟩ := hS (kw_nx t L a) cs (kx_a z (kw_nx t L a)) n2 c1 m1 (by omega) w1 d1
      obtain ⟨⟨v1, v2⟩, v3⟩ := hW (kw_nx t L a) n2
      by_cases qo : (s (kw_nx t L a)).1 = true
      · rw [kx_seq_1 qo]
        rw [if_pos qo] at w3
        obtain ⟨c3, d3⟩ := c3 qo
        obtain ⟨z4, r4, f4, m4, w4, c4⟩ := kx_compM (d := d + 1) hW hS2 (s (kw_nx t L a)).2.1 _ z3 v2 c3 m3 (by rw [List.length_append]; omega) w3 d3
        refine ⟨z4, ?_, kx_frM_tr kx_frM_a (kx_frM_tr f3 f4), by dsimp only; rw [← List.append_assoc]; exact m4, w4, c4⟩
        simp only [kv_e170_0, kv_e170_1, kv_e170_4, kv_e170_5, kv_e170_6, kv_e170_8, kv_e170_47, kv_e170_48, kv_e170_50, kv_e170_78, kv_e170_79, kv_e170_82, kv_e170_83, kv_e170_86, kv_e170_87, kv_e170_90, kv_e170_91, kv_e170_94, kv_o10, not_false_eq_true, not_true, if_true, if_false, kv_then_s, kv_then_v, kv_then_n, List.cons_append, List.nil_append, kv_Ci, kv_Cr, kv_Cn, kv_Cu, kv_C0, kv_catc, kv_gCi, kv_gCl, kv_gCr, kv_nb0, kv_nb1, kv_nbi, kv_nb01, Nat.reduceAdd, Nat.reduceLeDiff, lk, q1, q2, r3, w3, r4]
      · rw [kx_seq_0 qo]
        rw [if_neg qo] at w3
        refine ⟨z3, ?_, kx_frM_tr kx_frM_a f3, m3, by rw [w3, if_neg qo], fun s => absurd s qo⟩
        simp only [kv_e170_0, kv_e170_1, kv_e170_4, kv_e170_5, kv_e170_6, kv_e170_8, kv_e170_47, kv_e170_48, kv_e170_50, kv_e170_78, kv_e170_79, kv_e170_82, kv_e170_83, kv_e170_86, kv_e170_87, kv_e170_94, kv_o10, not_false_eq_true, not_true, if_true, if_false, kv_then_s, kv_then_v, kv_then_n, List.cons_append, List.nil_append, kv_Ci, kv_Cr, kv_Cn, kv_Cu, kv_C0, kv_catc, kv_gCi, kv_gCl, kv_gCr, kv_nb0, kv_nb1, kv_nbi, kv_nb01, Nat.reduceAdd, Nat.reduceLeDiff, lk, q1, q2, r3, w3, kw_of_m1 (show (s (kw_nx t L a)).2.1 < 2147483648 by omega)]
theorem kx_UnitM : ∀ r D, r ≤ 6 → 30 + 9 * r ≤ D → kx_SM t L zl n (6 - r) D 170 [some (.ref 0), none] (kx_U t L r) := by
  intro r
  induction r with
  | zero =>
    intro D _ hD
    obtain ⟨d, rfl⟩ : ∃ d, D = d + 5 := ⟨D - 5, by omega⟩
    exact kx_unitM (d := d) (dp := 6) (by omega) (kx_W_S 0) (kx_SumM 0 (d + 4) (by omega) (by omega)) (kx_SumM 0 (d + 3) (by omega) (by omega)) (Or.inl ⟨rfl, rfl⟩)
  | succ r ih =>
    intro D hr hD
    obtain ⟨d, rfl⟩ : ∃ d, D = d + 6 := ⟨D - 6, by omega⟩
    have e6 : 6 - r = 6 - (r + 1) + 1 := by omega
    have wu := kx_W_U (t := t) (L := L) r
    have hu : ∀ D, d ≤ D → kx_SM t L zl n (6 - (r + 1) + 1) D 170 [some (.ref 0), none] (kx_U t L r) := fun D hD => by
      rw [← e6]
      exact ih D (by omega) (by omega)
    have cd := kx_condM (d := d) wu hu
    exact kx_unitM (d := d + 1) (dp := 6 - (r + 1)) (by omega) (kx_W_S (r + 1)) (kx_SumM (r + 1) (d + 1 + 4) (by omega) (by omega)) (kx_SumM (r + 1) (d + 1 + 3) (by omega) (by omega)) (Or.inr ⟨by omega, (kx_U t L r, kx_cd t L (kx_U t L r)), rfl, ⟨wu, kx_W_cd wu⟩, hu (d + 1 + 4) (by omega), cd⟩)
end
