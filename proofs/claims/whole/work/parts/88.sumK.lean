/-! laws as texts: the class's sums and terms -/
section
variable {d L a : Nat} {e : List kv_E} {t : Nat → Int32} {z z' : Nat → Nat → Int32} {zl : Nat → Nat → Int64}
theorem kx_loop_n {op : Int32 → Nat} {p : Nat → kx_Q} {f : Nat} (h : op (kx_sg t L (kw_nx t L a)) = 0) : kx_loop t L op p (f + 1) a = (true, kw_nx t L a, []) := if_pos h
theorem kx_loop_t {op : Int32 → Nat} {p : Nat → kx_Q} {f : Nat} (h : ¬ op (kx_sg t L (kw_nx t L a)) = 0) (g : (p (kw_nx t L a + 1)).1 = true) : kx_loop t L op p (f + 1) a = ((kx_loop t L op p f (p (kw_nx t L a + 1)).2.1).1, (kx_loop t L op p f (p (kw_nx t L a + 1)).2.1).2.1, (p (kw_nx t L a + 1)).2.2 ++ (op (kx_sg t L (kw_nx t L a)), 0) :: (kx_loop t L op p f (p (kw_nx t L a + 1)).2.1).2.2) := (if_neg h).trans (if_pos g)
theorem kx_loop_f {op : Int32 → Nat} {p : Nat → kx_Q} {f : Nat} (h : ¬ op (kx_sg t L (kw_nx t L a)) = 0) (g : ¬ (p (kw_nx t L a + 1)).1 = true) : kx_loop t L op p (f + 1) a = (false, (p (kw_nx t L a + 1)).2.1, (p (kw_nx t L a + 1)).2.2 ++ [(op (kx_sg t L (kw_nx t L a)), 0)]) := (if_neg h).trans (if_neg g)
theorem kx_seq_1 {r : kx_Q} {k : Nat → kx_Q} (h : r.1 = true) : kx_seq r k = ((k r.2.1).1, (k r.2.1).2.1, r.2.2 ++ (k r.2.1).2.2) := if_pos h
theorem kx_seq_0 {r : kx_Q} {k : Nat → kx_Q} (h : ¬ r.1 = true) : kx_seq r k = r := if_neg h
theorem kx_ge240 {i : Nat} (h : i < 240) : ((240 : Int32) ≤ Int32.ofNat i) = False := kv_ln_ (m := 240) h (by omega)
theorem kx_map1 (ps : List Int32) (c d : List (Nat × Nat)) (k : Nat) : ps ++ (c ++ (k, 0) :: d).map kx_pk = ((ps ++ c.map kx_pk) ++ [kx_p2 (Int32.ofNat (kx_kd k)) 0]) ++ d.map kx_pk := by
  rw [List.map_append, List.map_cons, List.append_assoc, List.append_assoc]
  rfl
theorem kx_termL {dp : Nat} {p : Nat → kx_Q} (hW : kx_W L p) (hS : kx_SK t L e zl d 48 [some (.ref 30), some (.int (Int32.ofNat dp)), none, none] p) : ∀ f i a ps z u3, i + f = 240 → i ≤ a → a ≤ L → kw_ctK t L a z → kx_pr ps z → ps.length ≤ a → ∃ z', kv_Rn (d + 1) 47 12 [some (.ref 30), some (.int (Int32.ofNat dp)), some (.int (Int32.ofNat i)), u3] [] (kv_h e z zl) = some (some (.int (if (kx_loop t L kx_oT p f a).1 = true then 1 else 0)), kv_h e z' zl) ∧ kx_frK z z' ∧ kw_ctK t L (kx_loop t L kx_oT p f a).2.1 z' ∧ ((kx_loop t L kx_oT p f a).1 = true → kx_pr (ps ++ (kx_loop t L kx_oT p f a).2.2.map kx_pk) z') := by
  intro f
  induction f with
  | zero =>
    intro i a ps z u3 hi hia ha hc hp hl
    refine ⟨z, ?_, kx_frK_rf z, hc, fun _ => by rw [show (kx_loop t L kx_oT p 0 a).2.2 = [] from rfl, List.map_nil, List.append_nil]; exact hp⟩
    rw [show i = 240 from by omega, kv_e47_12]
    simp only [kv_e47_13, kv_e47_16, kv_e47_89, kv_e47_90, kv_o10, not_false_eq_true, not_true, if_true, if_false, kv_then_s, kv_then_v, kv_then_n, List.cons_append, List.nil_append, kv_Ci, kv_Cr, kv_Cn, kv_Cu, kv_C0, kv_catc, kv_gCi, kv_gCl, kv_gCr, kv_nb0, kv_nb1, kv_nbi, kv_nb01, Nat.reduceAdd, Nat.reduceLeDiff, show ((240 : Int32) ≤ Int32.ofNat 240) = True from by decide]
    rfl
  | succ f ih =>
    intro i a ps z u3 hi hia ha hc hp hl
    have hL := hc.1.2
    have n1 := kw_nx_le t L a
    have n2 := kw_nx_L (t := t) ha
    have sg := kw_signK (d := d) (e := e) (zl := zl) (show a ≤ 100000 by omega) hc
    have g240 := kx_ge240 (i := i) (by omega)
    by_cases q : kx_oT (kx_sg t L (kw_nx t L a)) = 0
    · rw [kx_loop_n q]
      refine ⟨kw_aK z (kw_nx t L a), ?_, kx_frK_1, kw_ctK_a hc, fun _ => by rw [List.map_nil, List.append_nil]; exact kx_pr_1 hp⟩
      have q1 : ¬ kx_sg t L (kw_nx t L a) = 42 := fun s => by rw [s] at q; exact absurd q (by decide)
      have q2 : ¬ kx_sg t L (kw_nx t L a) = 47 := fun s => by rw [s] at q; exact absurd q (by decide)
      rw [kv_e47_12]
      simp only [kv_e47_13, kv_e47_16, kv_e47_19, kv_e47_20, kv_e47_23, kv_e47_26, kv_e47_27, kv_e47_28, kv_e47_30, kv_e47_33, kv_e47_34, kv_e47_36, kv_e47_39, kv_e47_40, kv_o10, not_false_eq_true, not_true, if_true, if_false, kv_then_s, kv_then_v, kv_then_n, List.cons_append, List.nil_append, kv_Ci, kv_Cr, kv_Cn, kv_Cu, kv_C0, kv_catc, kv_gCi, kv_gCl, kv_gCr, kv_nb0, kv_nb1, kv_nbi, kv_nb01, Nat.reduceAdd, Nat.reduceLeDiff, g240, sg, q1, q2]
    · have hlt := kx_sg_ne (t := t) (L := L) (a := kw_nx t L a) (fun s => q (by rw [s]; decide))
      have c2 := kw_ctK_a (b := kw_nx t L a + 1) hc
      obtain ⟨z3, r3, f3, c3, p3⟩ := hS (kw_nx t L a + 1) ps (kw_aK z (kw_nx t L a + 1)) (by omega) c2 (kx_pr_1 hp) (by omega)
      obtain ⟨⟨w1, w2⟩, w3⟩ := hW (kw_nx t L a + 1) (by omega)
      have e2 : kv_z (kw_aK z (kw_nx t L a)) 1 (upd (kw_aK z (kw_nx t L a) 1) 2 (Int32.ofNat (kw_nx t L a + 1))) = kw_aK z (kw_nx t L a + 1) := kw_aK_aK z _ _
      have e1 : kw_aK z (kw_nx t L a) 1 2 = Int32.ofNat (kw_nx t L a) := rfl
      -- to the sub-reader
      have road : kv_Rn (d + 1) 47 12 [some (.ref 30), some (.int (Int32.ofNat dp)), some (.int (Int32.ofNat i)), u3] [] (kv_h e z zl) = kv_Rn (d + 1) 47 59 [some (.ref 30), some (.int (Int32.ofNat dp)), some (.int (Int32.ofNat i)), some (.int (kx_sg t L (kw_nx t L a)))] [.int (if (p (kw_nx t L a + 1)).1 = true then 1 else 0)] (kv_h e z3 zl) := by
        rw [kv_e47_12]
        by_cases q1 : kx_sg t L (kw_nx t L a) = 42
        · simp only [kv_e47_13, kv_e47_16, kv_e47_19, kv_e47_20, kv_e47_23, kv_e47_26, kv_e47_27, kv_e47_28, kv_e47_30, kv_e47_41, kv_e47_42, kv_e47_45, kv_e47_46, kv_e47_49, kv_e47_50, kv_e47_51, kv_e47_54, kv_e47_55, kv_e47_56, kv_o10, not_false_eq_true, not_true, if_true, if_false, kv_then_s, kv_then_v, kv_then_n, List.cons_append, List.nil_append, kv_Ci, kv_Cr, kv_Cn, kv_Cu, kv_C0, kv_catc, kv_gCi, kv_gCl, kv_gCr, kv_nb0, kv_nb1, kv_nbi, kv_nb01, Nat.reduceAdd, Nat.reduceLeDiff, g240, sg, q1, e1, kv_suc, e2, r3]
        · have q2 : kx_sg t L (kw_nx t L a) = 47 := by
            unfold kx_oT at q
            rw [if_neg q1] at q
            by_cases q2 : kx_sg t L (kw_nx t L a) = 47
            · exact q2
            · rw [if_neg q2] at q
              exact absurd rfl q
          simp only [kv_e47_13, kv_e47_16, kv_e47_19, kv_e47_20, kv_e47_23, kv_e47_26, kv_e47_27, kv_e47_28, kv_e47_30, kv_e47_33, kv_e47_34, kv_e47_36, kv_e47_41, kv_e47_42, kv_e47_45, kv_e47_46, kv_e47_49, kv_e47_50, kv_e47_51, kv_e47_54, kv_e47_55, kv_e47_56, kv_o10, not_false_eq_true, not_true, if_true, if_false, kv_then_s, kv_then_v, kv_then_n, List.cons_append, List.nil_append, kv_Ci, kv_Cr, kv_Cn, kv_Cu, kv_C0, kv_catc, kv_gCi, kv_gCl, kv_gCr, kv_nb0, kv_nb1, kv_nbi, kv_nb01, Nat.reduceAdd, Nat.reduceLeDiff, g240, sg, q2, show ((47 : Int32) = 42) = False from by decide, e1, kv_suc, e2, r3]
      rw [road]
      by_cases qo : (p (kw_nx t L a + 1)).1 = true
      · rw [kx_loop_t q qo]
        obtain ⟨z4, r4, f4, p4⟩ := kx_addK (d := d) (e := e) (zl := zl) (Int32.ofNat (kx_kd (kx_oT (kx_sg t L (kw_nx t L a))))) 0 (p3 qo) (by rw [List.length_append, List.length_map]; omega)
        have c4 := kx_ct_fr c3 (f4 1 (by omega) (by omega)) (f4 2 (by omega) (by omega))
        obtain ⟨z5, r5, f5, c5, p5⟩ := ih (i + 1) (p (kw_nx t L a + 1)).2.1 _ z4 (some (.int (kx_sg t L (kw_nx t L a)))) (by omega) (by omega) w2 c4 p4 (by rw [List.length_append, List.length_append, List.length_map, List.length_cons, List.length_nil]; omega)
        refine ⟨z5, ?_, kx_frK_tr (kx_frK_tr kx_frK_1 f3) (kx_frK_tr (fun c a1 a2 a3 => f4 c a2 a3) f5), c5, fun s => by
          dsimp only
          rw [kx_map1]
          exact p5 s⟩
        rw [← r5]
        by_cases q1 : kx_sg t L (kw_nx t L a) = 42
        · have ek : Int32.ofNat (kx_kd (kx_oT (kx_sg t L (kw_nx t L a)))) = 4 := by rw [q1]; decide
          rw [ek] at r4
          simp only [kv_e47_59, kv_e47_64, kv_e47_65, kv_e47_68, kv_e47_69, kv_e47_71, kv_e47_74, kv_e47_75, kv_e47_79, kv_e47_80, kv_e47_83, kv_e47_86, kv_o10, not_false_eq_true, not_true, if_true, if_false, kv_then_s, kv_then_v, kv_then_n, List.cons_append, List.nil_append, kv_Ci, kv_Cr, kv_Cn, kv_Cu, kv_C0, kv_catc, kv_gCi, kv_gCl, kv_gCr, kv_nb0, kv_nb1, kv_nbi, kv_nb01, Nat.reduceAdd, Nat.reduceLeDiff, qo, q1, kv_isL31, r4, kv_suc]
        · have q2 : kx_sg t L (kw_nx t L a) = 47 := by
            unfold kx_oT at q
            rw [if_neg q1] at q
            by_cases q2 : kx_sg t L (kw_nx t L a) = 47
            · exact q2
            · rw [if_neg q2] at q
              exact absurd rfl q
          have ek : Int32.ofNat (kx_kd (kx_oT (kx_sg t L (kw_nx t L a)))) = 5 := by rw [q2]; decide
          rw [ek] at r4
          simp only [kv_e47_59, kv_e47_64, kv_e47_65, kv_e47_68, kv_e47_69, kv_e47_71, kv_e47_78, kv_e47_79, kv_e47_80, kv_e47_83, kv_e47_86, kv_o10, not_false_eq_true, not_true, if_true, if_false, kv_then_s, kv_then_v, kv_then_n, List.cons_append, List.nil_append, kv_Ci, kv_Cr, kv_Cn, kv_Cu, kv_C0, kv_catc, kv_gCi, kv_gCl, kv_gCr, kv_nb0, kv_nb1, kv_nbi, kv_nb01, Nat.reduceAdd, Nat.reduceLeDiff, qo, q2, show ((47 : Int32) = 42) = False from by decide, kv_isL31, r4, kv_suc]
      · rw [kx_loop_f q qo]
        refine ⟨z3, ?_, kx_frK_tr kx_frK_1 f3, c3, fun s => absurd s (by simp)⟩
        simp only [kv_e47_59, kv_e47_62, kv_e47_63, kv_o10, not_false_eq_true, not_true, if_true, if_false, kv_then_s, kv_then_v, kv_then_n, List.cons_append, List.nil_append, kv_Ci, kv_Cr, kv_Cn, kv_Cu, kv_C0, kv_catc, kv_gCi, kv_gCl, kv_gCr, kv_nb0, kv_nb1, kv_nbi, kv_nb01, Nat.reduceAdd, Nat.reduceLeDiff, qo, Bool.false_eq_true, eq_self]
theorem kx_termK {dp : Nat} {p : Nat → kx_Q} (hW : kx_W L p) (hS : kx_SK t L e zl d 48 [some (.ref 30), some (.int (Int32.ofNat dp)), none, none] p) : kx_SK t L e zl (d + 1) 47 [some (.ref 30), some (.int (Int32.ofNat dp)), none, none] (kx_chain t L kx_oT p) := by
  intro a ps z ha hc hp hl
  obtain ⟨z1, r1, f1, c1, p1⟩ := hS a ps z ha hc hp hl
  obtain ⟨⟨w1, w2⟩, w3⟩ := hW a ha
  have hL := hc.1.2
  unfold kx_chain
  by_cases qo : (p a).1 = true
  · rw [kx_seq_1 qo]
    obtain ⟨z2, r2, f2, c2, p2⟩ := kx_termL (d := d) hW hS 240 0 (p a).2.1 _ z1 none (by omega) (by omega) w2 c1 (p1 qo) (by rw [List.length_append, List.length_map]; omega)
    refine ⟨z2, ?_, kx_frK_tr f1 f2, c2, fun s => by
      dsimp only
      rw [List.map_append, ← List.append_assoc]
      exact p2 s⟩
    rw [← r2]
    simp only [kv_e47_0, kv_e47_1, kv_e47_2, kv_e47_5, kv_e47_10, kv_e47_11, kv_o10, not_false_eq_true, not_true, if_true, if_false, kv_then_s, kv_then_v, kv_then_n, List.cons_append, List.nil_append, kv_Ci, kv_Cr, kv_Cn, kv_Cu, kv_C0, kv_catc, kv_gCi, kv_gCl, kv_gCr, kv_nb0, kv_nb1, kv_nbi, kv_nb01, Nat.reduceAdd, Nat.reduceLeDiff, r1, qo]
    rfl
  · rw [kx_seq_0 qo]
    refine ⟨z1, ?_, f1, c1, fun s => absurd s qo⟩
    simp only [kv_e47_0, kv_e47_1, kv_e47_2, kv_e47_5, kv_e47_8, kv_e47_9, kv_o10, not_false_eq_true, not_true, if_true, if_false, kv_then_s, kv_then_v, kv_then_n, List.cons_append, List.nil_append, kv_Ci, kv_Cr, kv_Cn, kv_Cu, kv_C0, kv_catc, kv_gCi, kv_gCl, kv_gCr, kv_nb0, kv_nb1, kv_nbi, kv_nb01, Nat.reduceAdd, Nat.reduceLeDiff, r1, qo, Bool.false_eq_true, eq_self]
theorem kx_sumL {dp : Nat} {p : Nat → kx_Q} (hW : kx_W L p) (hS : kx_SK t L e zl d 47 [some (.ref 30), some (.int (Int32.ofNat dp)), none, none] p) : ∀ f i a ps z u3, i + f = 240 → i ≤ a → a ≤ L → kw_ctK t L a z → kx_pr ps z → ps.length ≤ a → ∃ z', kv_Rn (d + 1) 46 12 [some (.ref 30), some (.int (Int32.ofNat dp)), some (.int (Int32.ofNat i)), u3] [] (kv_h e z zl) = some (some (.int (if (kx_loop t L kx_oS p f a).1 = true then 1 else 0)), kv_h e z' zl) ∧ kx_frK z z' ∧ kw_ctK t L (kx_loop t L kx_oS p f a).2.1 z' ∧ ((kx_loop t L kx_oS p f a).1 = true → kx_pr (ps ++ (kx_loop t L kx_oS p f a).2.2.map kx_pk) z') := by
  intro f
  induction f with
  | zero =>
    intro i a ps z u3 hi hia ha hc hp hl
    refine ⟨z, ?_, kx_frK_rf z, hc, fun _ => by rw [show (kx_loop t L kx_oS p 0 a).2.2 = [] from rfl, List.map_nil, List.append_nil]; exact hp⟩
    rw [show i = 240 from by omega, kv_e46_12]
    simp only [kv_e46_13, kv_e46_16, kv_e46_89, kv_e46_90, kv_o10, not_false_eq_true, not_true, if_true, if_false, kv_then_s, kv_then_v, kv_then_n, List.cons_append, List.nil_append, kv_Ci, kv_Cr, kv_Cn, kv_Cu, kv_C0, kv_catc, kv_gCi, kv_gCl, kv_gCr, kv_nb0, kv_nb1, kv_nbi, kv_nb01, Nat.reduceAdd, Nat.reduceLeDiff, show ((240 : Int32) ≤ Int32.ofNat 240) = True from by decide]
    rfl
  | succ f ih =>
    intro i a ps z u3 hi hia ha hc hp hl
    have hL := hc.1.2
    have n1 := kw_nx_le t L a
    have n2 := kw_nx_L (t := t) ha
    have sg := kw_signK (d := d) (e := e) (zl := zl) (show a ≤ 100000 by omega) hc
    have g240 := kx_ge240 (i := i) (by omega)
    by_cases q : kx_oS (kx_sg t L (kw_nx t L a)) = 0
    · rw [kx_loop_n q]
      refine ⟨kw_aK z (kw_nx t L a), ?_, kx_frK_1, kw_ctK_a hc, fun _ => by rw [List.map_nil, List.append_nil]; exact kx_pr_1 hp⟩
      have q1 : ¬ kx_sg t L (kw_nx t L a) = 43 := fun s => by rw [s] at q; exact absurd q (by decide)
      have q2 : ¬ kx_sg t L (kw_nx t L a) = 45 := fun s => by rw [s] at q; exact absurd q (by decide)
      rw [kv_e46_12]
      simp only [kv_e46_13, kv_e46_16, kv_e46_19, kv_e46_20, kv_e46_23, kv_e46_26, kv_e46_27, kv_e46_28, kv_e46_30, kv_e46_33, kv_e46_34, kv_e46_36, kv_e46_39, kv_e46_40, kv_o10, not_false_eq_true, not_true, if_true, if_false, kv_then_s, kv_then_v, kv_then_n, List.cons_append, List.nil_append, kv_Ci, kv_Cr, kv_Cn, kv_Cu, kv_C0, kv_catc, kv_gCi, kv_gCl, kv_gCr, kv_nb0, kv_nb1, kv_nbi, kv_nb01, Nat.reduceAdd, Nat.reduceLeDiff, g240, sg, q1, q2]
    · have hlt := kx_sg_ne (t := t) (L := L) (a := kw_nx t L a) (fun s => q (by rw [s]; decide))
      have c2 := kw_ctK_a (b := kw_nx t L a + 1) hc
      obtain ⟨z3, r3, f3, c3, p3⟩ := hS (kw_nx t L a + 1) ps (kw_aK z (kw_nx t L a + 1)) (by omega) c2 (kx_pr_1 hp) (by omega)
      obtain ⟨⟨w1, w2⟩, w3⟩ := hW (kw_nx t L a + 1) (by omega)
      have e2 : kv_z (kw_aK z (kw_nx t L a)) 1 (upd (kw_aK z (kw_nx t L a) 1) 2 (Int32.ofNat (kw_nx t L a + 1))) = kw_aK z (kw_nx t L a + 1) := kw_aK_aK z _ _
      have e1 : kw_aK z (kw_nx t L a) 1 2 = Int32.ofNat (kw_nx t L a) := rfl
      -- to the sub-reader
      have road : kv_Rn (d + 1) 46 12 [some (.ref 30), some (.int (Int32.ofNat dp)), some (.int (Int32.ofNat i)), u3] [] (kv_h e z zl) = kv_Rn (d + 1) 46 59 [some (.ref 30), some (.int (Int32.ofNat dp)), some (.int (Int32.ofNat i)), some (.int (kx_sg t L (kw_nx t L a)))] [.int (if (p (kw_nx t L a + 1)).1 = true then 1 else 0)] (kv_h e z3 zl) := by
        rw [kv_e46_12]
        by_cases q1 : kx_sg t L (kw_nx t L a) = 43
        · simp only [kv_e46_13, kv_e46_16, kv_e46_19, kv_e46_20, kv_e46_23, kv_e46_26, kv_e46_27, kv_e46_28, kv_e46_30, kv_e46_41, kv_e46_42, kv_e46_45, kv_e46_46, kv_e46_49, kv_e46_50, kv_e46_51, kv_e46_54, kv_e46_55, kv_e46_56, kv_o10, not_false_eq_true, not_true, if_true, if_false, kv_then_s, kv_then_v, kv_then_n, List.cons_append, List.nil_append, kv_Ci, kv_Cr, kv_Cn, kv_Cu, kv_C0, kv_catc, kv_gCi, kv_gCl, kv_gCr, kv_nb0, kv_nb1, kv_nbi, kv_nb01, Nat.reduceAdd, Nat.reduceLeDiff, g240, sg, q1, e1, kv_suc, e2, r3]
        · have q2 : kx_sg t L (kw_nx t L a) = 45 := by
            unfold kx_oS at q
            rw [if_neg q1] at q
            by_cases q2 : kx_sg t L (kw_nx t L a) = 45
            · exact q2
            · rw [if_neg q2] at q
              exact absurd rfl q
          simp only [kv_e46_13, kv_e46_16, kv_e46_19, kv_e46_20, kv_e46_23, kv_e46_26, kv_e46_27, kv_e46_28, kv_e46_30, kv_e46_33, kv_e46_34, kv_e46_36, kv_e46_41, kv_e46_42, kv_e46_45, kv_e46_46, kv_e46_49, kv_e46_50, kv_e46_51, kv_e46_54, kv_e46_55, kv_e46_56, kv_o10, not_false_eq_true, not_true, if_true, if_false, kv_then_s, kv_then_v, kv_then_n, List.cons_append, List.nil_append, kv_Ci, kv_Cr, kv_Cn, kv_Cu, kv_C0, kv_catc, kv_gCi, kv_gCl, kv_gCr, kv_nb0, kv_nb1, kv_nbi, kv_nb01, Nat.reduceAdd, Nat.reduceLeDiff, g240, sg, q2, show ((45 : Int32) = 43) = False from by decide, e1, kv_suc, e2, r3]
      rw [road]
      by_cases qo : (p (kw_nx t L a + 1)).1 = true
      · rw [kx_loop_t q qo]
        obtain ⟨z4, r4, f4, p4⟩ := kx_addK (d := d) (e := e) (zl := zl) (Int32.ofNat (kx_kd (kx_oS (kx_sg t L (kw_nx t L a))))) 0 (p3 qo) (by rw [List.length_append, List.length_map]; omega)
        have c4 := kx_ct_fr c3 (f4 1 (by omega) (by omega)) (f4 2 (by omega) (by omega))
        obtain ⟨z5, r5, f5, c5, p5⟩ := ih (i + 1) (p (kw_nx t L a + 1)).2.1 _ z4 (some (.int (kx_sg t L (kw_nx t L a)))) (by omega) (by omega) w2 c4 p4 (by rw [List.length_append, List.length_append, List.length_map, List.length_cons, List.length_nil]; omega)
        refine ⟨z5, ?_, kx_frK_tr (kx_frK_tr kx_frK_1 f3) (kx_frK_tr (fun c a1 a2 a3 => f4 c a2 a3) f5), c5, fun s => by
          dsimp only
          rw [kx_map1]
          exact p5 s⟩
        rw [← r5]
        by_cases q1 : kx_sg t L (kw_nx t L a) = 43
        · have ek : Int32.ofNat (kx_kd (kx_oS (kx_sg t L (kw_nx t L a)))) = 2 := by rw [q1]; decide
          rw [ek] at r4
          simp only [kv_e46_59, kv_e46_64, kv_e46_65, kv_e46_68, kv_e46_69, kv_e46_71, kv_e46_74, kv_e46_75, kv_e46_79, kv_e46_80, kv_e46_83, kv_e46_86, kv_o10, not_false_eq_true, not_true, if_true, if_false, kv_then_s, kv_then_v, kv_then_n, List.cons_append, List.nil_append, kv_Ci, kv_Cr, kv_Cn, kv_Cu, kv_C0, kv_catc, kv_gCi, kv_gCl, kv_gCr, kv_nb0, kv_nb1, kv_nbi, kv_nb01, Nat.reduceAdd, Nat.reduceLeDiff, qo, q1, kv_isL31, r4, kv_suc]
        · have q2 : kx_sg t L (kw_nx t L a) = 45 := by
            unfold kx_oS at q
            rw [if_neg q1] at q
            by_cases q2 : kx_sg t L (kw_nx t L a) = 45
            · exact q2
            · rw [if_neg q2] at q
              exact absurd rfl q
          have ek : Int32.ofNat (kx_kd (kx_oS (kx_sg t L (kw_nx t L a)))) = 3 := by rw [q2]; decide
          rw [ek] at r4
          simp only [kv_e46_59, kv_e46_64, kv_e46_65, kv_e46_68, kv_e46_69, kv_e46_71, kv_e46_78, kv_e46_79, kv_e46_80, kv_e46_83, kv_e46_86, kv_o10, not_false_eq_true, not_true, if_true, if_false, kv_then_s, kv_then_v, kv_then_n, List.cons_append, List.nil_append, kv_Ci, kv_Cr, kv_Cn, kv_Cu, kv_C0, kv_catc, kv_gCi, kv_gCl, kv_gCr, kv_nb0, kv_nb1, kv_nbi, kv_nb01, Nat.reduceAdd, Nat.reduceLeDiff, qo, q2, show ((45 : Int32) = 43) = False from by decide, kv_isL31, r4, kv_suc]
      · rw [kx_loop_f q qo]
        refine ⟨z3, ?_, kx_frK_tr kx_frK_1 f3, c3, fun s => absurd s (by simp)⟩
        simp only [kv_e46_59, kv_e46_62, kv_e46_63, kv_o10, not_false_eq_true, not_true, if_true, if_false, kv_then_s, kv_then_v, kv_then_n, List.cons_append, List.nil_append, kv_Ci, kv_Cr, kv_Cn, kv_Cu, kv_C0, kv_catc, kv_gCi, kv_gCl, kv_gCr, kv_nb0, kv_nb1, kv_nbi, kv_nb01, Nat.reduceAdd, Nat.reduceLeDiff, qo, Bool.false_eq_true, eq_self]
theorem kx_sumK {dp : Nat} {p : Nat → kx_Q} (hW : kx_W L p) (hS : kx_SK t L e zl d 47 [some (.ref 30), some (.int (Int32.ofNat dp)), none, none] p) : kx_SK t L e zl (d + 1) 46 [some (.ref 30), some (.int (Int32.ofNat dp)), none, none] (kx_chain t L kx_oS p) := by
  intro a ps z ha hc hp hl
  obtain ⟨z1, r1, f1, c1, p1⟩ := hS a ps z ha hc hp hl
  obtain ⟨⟨w1, w2⟩, w3⟩ := hW a ha
  have hL := hc.1.2
  unfold kx_chain
  by_cases qo : (p a).1 = true
  · rw [kx_seq_1 qo]
    obtain ⟨z2, r2, f2, c2, p2⟩ := kx_sumL (d := d) hW hS 240 0 (p a).2.1 _ z1 none (by omega) (by omega) w2 c1 (p1 qo) (by rw [List.length_append, List.length_map]; omega)
    refine ⟨z2, ?_, kx_frK_tr f1 f2, c2, fun s => by
      dsimp only
      rw [List.map_append, ← List.append_assoc]
      exact p2 s⟩
    rw [← r2]
    simp only [kv_e46_0, kv_e46_1, kv_e46_2, kv_e46_5, kv_e46_10, kv_e46_11, kv_o10, not_false_eq_true, not_true, if_true, if_false, kv_then_s, kv_then_v, kv_then_n, List.cons_append, List.nil_append, kv_Ci, kv_Cr, kv_Cn, kv_Cu, kv_C0, kv_catc, kv_gCi, kv_gCl, kv_gCr, kv_nb0, kv_nb1, kv_nbi, kv_nb01, Nat.reduceAdd, Nat.reduceLeDiff, r1, qo]
    rfl
  · rw [kx_seq_0 qo]
    refine ⟨z1, ?_, f1, c1, fun s => absurd s qo⟩
    simp only [kv_e46_0, kv_e46_1, kv_e46_2, kv_e46_5, kv_e46_8, kv_e46_9, kv_o10, not_false_eq_true, not_true, if_true, if_false, kv_then_s, kv_then_v, kv_then_n, List.cons_append, List.nil_append, kv_Ci, kv_Cr, kv_Cn, kv_Cu, kv_C0, kv_catc, kv_gCi, kv_gCl, kv_gCr, kv_nb0, kv_nb1, kv_nbi, kv_nb01, Nat.reduceAdd, Nat.reduceLeDiff, r1, qo, Bool.false_eq_true, eq_self]
/-- sums with room for r more nestings -/
theorem kx_SumK (ht : ∀ i, i < L → kw_rg (t i) 1 255) : ∀ r D, r ≤ 6 → 7 + 3 * r ≤ D → kx_SK t L e zl D 46 [some (.ref 30), some (.int (Int32.ofNat (6 - r))), none, none] (kx_S t L r) := by
  intro r
  induction r with
  | zero =>
    intro D _ hD
    obtain ⟨d, rfl⟩ : ∃ d, D = d + 7 := ⟨D - 7, by omega⟩
    have h1 := kx_atomK (d := d) (e := e) (zl := zl) (br := none) (dp := 6) ht (by omega) (Or.inl ⟨rfl, rfl⟩)
    have w1 : kx_W L (kx_atom t L none) := kx_W_atom (fun p hp => by cases hp)
    have h2 := kx_termK (d := d + 5) w1 h1
    exact kx_sumK (d := d + 6) (kx_W_chain rfl w1) h2
  | succ r ih =>
    intro D hr hD
    obtain ⟨d, rfl⟩ : ∃ d, D = d + 7 := ⟨D - 7, by omega⟩
    have hs := ih (d + 4) (by omega) (by omega)
    rw [show 6 - r = 6 - (r + 1) + 1 from by omega] at hs
    have h1 := kx_atomK (d := d) (e := e) (zl := zl) (br := some (kx_S t L r)) (dp := 6 - (r + 1)) ht (by omega) (Or.inr ⟨by omega, kx_S t L r, rfl, kx_W_S r, hs⟩)
    have w1 : kx_W L (kx_atom t L (some (kx_S t L r))) := kx_W_atom (fun p hp => by cases hp; exact kx_W_S r)
    have h2 := kx_termK (d := d + 5) w1 h1
    exact kx_sumK (d := d + 6) (kx_W_chain rfl w1) h2
end
