/-! laws as texts: the class's units, truths, conditions -/
section
variable {d L a : Nat} {e : List kv_E} {t : Nat → Int32} {z z' : Nat → Nat → Int32} {zl : Nat → Nat → Int64}
def kx_sqf (p0 k : Nat → kx_Q) (a : Nat) : kx_Q := kx_seq (p0 a) k
def kx_cv (c : Int32) : Int32 := if kx_oC c = 0 then -1 else Int32.ofNat (kx_oC c)
theorem kx_comparison (ha : a ≤ 100000) (hc : kw_ctK t L a z) : kv_Rn (d + 1) 45 0 [some (.ref 30)] [] (kv_h e z zl) = some (some (.int (kx_cv (kx_sg t L (kw_nx t L a)))), kv_h e (kw_aK z (kw_nx t L a)) zl) := by
  have sg := kw_signK (d := d) (e := e) (zl := zl) ha hc
  generalize kx_sg t L (kw_nx t L a) = c at sg
  unfold kx_cv kx_oC
  by_cases q1 : c = 61
  · subst q1
    simp only [kv_e45_0, kv_e45_1, kv_e45_4, kv_e45_7, kv_e45_32, kv_e45_34, kv_o10, not_false_eq_true, not_true, if_true, if_false, kv_then_s, kv_then_v, kv_then_n, List.cons_append, List.nil_append, kv_Ci, kv_Cr, kv_Cn, kv_Cu, kv_C0, kv_catc, kv_gCi, kv_gCl, kv_gCr, kv_nb0, kv_nb1, kv_nbi, kv_nb01, Nat.reduceAdd, Nat.reduceLeDiff, sg, show ((61 : Int32) = 60) = False from by decide, eq_self, show ((6 : Nat) = 0) = False from by decide]
    rfl
  · by_cases q2 : c = 60
    · subst q2
      simp only [kv_e45_0, kv_e45_1, kv_e45_4, kv_e45_7, kv_e45_35, kv_e45_37, kv_o10, not_false_eq_true, not_true, if_true, if_false, kv_then_s, kv_then_v, kv_then_n, List.cons_append, List.nil_append, kv_Ci, kv_Cr, kv_Cn, kv_Cu, kv_C0, kv_catc, kv_gCi, kv_gCl, kv_gCr, kv_nb0, kv_nb1, kv_nbi, kv_nb01, Nat.reduceAdd, Nat.reduceLeDiff, sg, q1, eq_self, show ((7 : Nat) = 0) = False from by decide]
      rfl
    · by_cases q3 : c = 62
      · subst q3
        simp only [kv_e45_0, kv_e45_1, kv_e45_4, kv_e45_7, kv_e45_38, kv_e45_40, kv_o10, not_false_eq_true, not_true, if_true, if_false, kv_then_s, kv_then_v, kv_then_n, List.cons_append, List.nil_append, kv_Ci, kv_Cr, kv_Cn, kv_Cu, kv_C0, kv_catc, kv_gCi, kv_gCl, kv_gCr, kv_nb0, kv_nb1, kv_nbi, kv_nb01, Nat.reduceAdd, Nat.reduceLeDiff, sg, q1, q2, eq_self, show ((8 : Nat) = 0) = False from by decide]
        rfl
      · simp only [kv_e45_0, kv_e45_1, kv_e45_4, kv_e45_7, kv_e45_41, kv_e45_42, kv_o10, not_false_eq_true, not_true, if_true, if_false, kv_then_s, kv_then_v, kv_then_n, List.cons_append, List.nil_append, kv_Ci, kv_Cr, kv_Cn, kv_Cu, kv_C0, kv_catc, kv_gCi, kv_gCl, kv_gCr, kv_nb0, kv_nb1, kv_nbi, kv_nb01, Nat.reduceAdd, Nat.reduceLeDiff, sg, q1, q2, q3, eq_self]
theorem kx_oC_lt (c : Int32) : kx_oC c ≤ 8 := by
  unfold kx_oC
  split
  · omega
  · split
    · omega
    · split <;> omega
theorem kx_kd_C (c : Int32) : kx_kd (kx_oC c) = kx_oC c := by
  unfold kx_kd
  have := kx_oC_lt c
  rw [if_neg (by omega), if_neg (by omega), if_neg (by omega)]
theorem kx_map2 (ps : List Int32) (c : List (Nat × Nat)) (k : Nat) : ps ++ (c ++ [(k, 0)]).map kx_pk = (ps ++ c.map kx_pk) ++ [kx_p2 (Int32.ofNat (kx_kd k)) 0] := by
  rw [List.map_append, List.append_assoc]
  rfl
/-- from the sign of a comparison on -/
theorem kx_cmpK {dp : Nat} {s : Nat → kx_Q} (hW : kx_W L s) (hS : kx_SK t L e zl (d + 1) 46 [some (.ref 30), some (.int (Int32.ofNat dp)), none, none] s) {ps : List Int32} (ha : a ≤ L) (hc : kw_ctK t L a z) (hp : kx_pr ps z) (hl : ps.length ≤ a) (beg : Int32) (u3 u4 : Option Value) (q3 : kv_c2 u3 = false) : ∃ z', kv_Rn (d + 2) 43 45 [some (.ref 30), some (.int (Int32.ofNat dp)), some (.int beg), u3, u4] [] (kv_h e z zl) = some (some (.int (if (kx_cmp t L s a).1 = true then 1 else 0)), kv_h e z' zl) ∧ kx_frK z z' ∧ kw_ctK t L (kx_cmp t L s a).2.1 z' ∧ ((kx_cmp t L s a).1 = true → kx_pr (ps ++ (kx_cmp t L s a).2.2.map kx_pk) z') := by
  have hL := hc.1.2
  have n1 := kw_nx_le t L a
  have n2 := kw_nx_L (t := t) ha
  have cp := kx_comparison (d := d) (e := e) (zl := zl) (show a ≤ 100000 by omega) hc
  unfold kx_cmp
  by_cases q : kx_oC (kx_sg t L (kw_nx t L a)) = 0
  · rw [if_pos q]
    refine ⟨kw_aK z (kw_nx t L a), ?_, kx_frK_1, kw_ctK_a hc, fun s => absurd s (by simp)⟩
    have cv : kx_cv (kx_sg t L (kw_nx t L a)) = -1 := if_pos q
    rw [cv] at cp
    simp only [kv_e43_45, kv_e43_46, kv_e43_49, kv_e43_51, kv_e43_53, kv_e43_54, kv_e43_57, kv_e43_58, kv_o10, not_false_eq_true, not_true, if_true, if_false, kv_then_s, kv_then_v, kv_then_n, List.cons_append, List.nil_append, kv_Ci, kv_Cr, kv_Cn, kv_Cu, kv_C0, kv_catc, kv_gCi, kv_gCl, kv_gCr, kv_nb0, kv_nb1, kv_nbi, kv_nb01, Nat.reduceAdd, Nat.reduceLeDiff, q3, cp, Bool.false_eq_true]
  · rw [if_neg q]
    have cv : kx_cv (kx_sg t L (kw_nx t L a)) = Int32.ofNat (kx_oC (kx_sg t L (kw_nx t L a))) := if_neg q
    rw [cv] at cp
    have c8 := kx_oC_lt (kx_sg t L (kw_nx t L a))
    have hlt := kx_sg_ne (t := t) (L := L) (a := kw_nx t L a) (fun s => q (by rw [s]; decide))
    have c2 := kw_ctK_a (b := kw_nx t L a + 1) hc
    obtain ⟨z3, r3, f3, c3, p3⟩ := hS (kw_nx t L a + 1) ps (kw_aK z (kw_nx t L a + 1)) (by omega) c2 (kx_pr_1 hp) (by omega)
    obtain ⟨⟨w1, w2⟩, w3⟩ := hW (kw_nx t L a + 1) (by omega)
    have e2 : kv_z (kw_aK z (kw_nx t L a)) 1 (upd (kw_aK z (kw_nx t L a) 1) 2 (Int32.ofNat (kw_nx t L a + 1))) = kw_aK z (kw_nx t L a + 1) := kw_aK_aK z _ _
    have e1 : kw_aK z (kw_nx t L a) 1 2 = Int32.ofNat (kw_nx t L a) := rfl
    by_cases qo : (s (kw_nx t L a + 1)).1 = true
    · obtain ⟨z4, r4, f4, p4⟩ := kx_addK (d := d + 1) (e := e) (zl := zl) (Int32.ofNat (kx_kd (kx_oC (kx_sg t L (kw_nx t L a))))) 0 (p3 qo) (by rw [List.length_append, List.length_map]; omega)
      refine ⟨z4, ?_, kx_frK_tr (kx_frK_tr kx_frK_1 f3) (fun c a1 a2 a3 => f4 c a2 a3), kx_ct_fr c3 (f4 1 (by omega) (by omega)) (f4 2 (by omega) (by omega)), fun _ => by
        dsimp only
        rw [kx_map2]
        exact p4⟩
      rw [kx_kd_C] at r4
      simp only [kv_e43_45, kv_e43_46, kv_e43_49, kv_e43_51, kv_e43_53, kv_e43_54, kv_e43_59, kv_e43_60, kv_e43_63, kv_e43_64, kv_e43_67, kv_e43_68, kv_e43_69, kv_e43_72, kv_e43_73, kv_e43_74, kv_e43_77, kv_e43_82, kv_e43_83, kv_e43_86, kv_e43_88, kv_e43_89, kv_e43_92, kv_e43_93, kv_o10, not_false_eq_true, not_true, if_true, if_false, kv_then_s, kv_then_v, kv_then_n, List.cons_append, List.nil_append, kv_Ci, kv_Cr, kv_Cn, kv_Cu, kv_C0, kv_catc, kv_gCi, kv_gCl, kv_gCr, kv_nb0, kv_nb1, kv_nbi, kv_nb01, Nat.reduceAdd, Nat.reduceLeDiff, q3, cp, kw_of_m1 (show kx_oC (kx_sg t L (kw_nx t L a)) < 2147483648 by omega), e1, kv_suc, e2, r3, qo, kv_isL31, r4]
    · refine ⟨z3, ?_, kx_frK_tr kx_frK_1 f3, c3, fun s => absurd s qo⟩
      simp only [kv_e43_45, kv_e43_46, kv_e43_49, kv_e43_51, kv_e43_53, kv_e43_54, kv_e43_59, kv_e43_60, kv_e43_63, kv_e43_64, kv_e43_67, kv_e43_68, kv_e43_69, kv_e43_72, kv_e43_73, kv_e43_74, kv_e43_77, kv_e43_80, kv_e43_81, kv_o10, not_false_eq_true, not_true, if_true, if_false, kv_then_s, kv_then_v, kv_then_n, List.cons_append, List.nil_append, kv_Ci, kv_Cr, kv_Cn, kv_Cu, kv_C0, kv_catc, kv_gCi, kv_gCl, kv_gCr, kv_nb0, kv_nb1, kv_nbi, kv_nb01, Nat.reduceAdd, Nat.reduceLeDiff, q3, cp, kw_of_m1 (show kx_oC (kx_sg t L (kw_nx t L a)) < 2147483648 by omega), e1, kv_suc, e2, r3, qo, eq_self, Bool.false_eq_true]
theorem kx_cmp_nx (s : Nat → kx_Q) (a : Nat) : kx_cmp t L s (kw_nx t L a) = kx_cmp t L s a := by
  unfold kx_cmp
  rw [kw_nx_nx]
/-- begun -/
theorem kx_unitBK {dp : Nat} {s : Nat → kx_Q} (hW : kx_W L s) (hS : kx_SK t L e zl (d + 1) 46 [some (.ref 30), some (.int (Int32.ofNat dp)), none, none] s) : kx_SK t L e zl (d + 2) 43 [some (.ref 30), some (.int (Int32.ofNat dp)), some (.int 1), none, none] (kx_cmp t L s) := by
  intro a ps z ha hc hp hl
  have hL := hc.1.2
  have n1 := kw_nx_le t L a
  have sg := kw_signK (d := d + 1) (e := e) (zl := zl) (show a ≤ 100000 by omega) hc
  obtain ⟨z2, r2, f2, c2, p2⟩ := kx_cmpK (d := d) (a := kw_nx t L a) hW hS (kw_nx_L ha) (kw_ctK_a hc) (kx_pr_1 (f := upd (z 1) 2 (Int32.ofNat (kw_nx t L a))) hp) (by omega) 1 (some (.int (kx_sg t L (kw_nx t L a)))) none rfl
  rw [kx_cmp_nx] at r2 c2 p2
  refine ⟨z2, ?_, kx_frK_tr kx_frK_1 f2, c2, p2⟩
  rw [← r2]
  simp only [kv_e43_0, kv_e43_1, kv_e43_4, kv_e43_7, kv_e43_8, kv_e43_9, kv_e43_31, kv_e43_32, kv_o10, not_false_eq_true, not_true, if_true, if_false, kv_then_s, kv_then_v, kv_then_n, List.cons_append, List.nil_append, kv_Ci, kv_Cr, kv_Cn, kv_Cu, kv_C0, kv_catc, kv_gCi, kv_gCl, kv_gCr, kv_nb0, kv_nb1, kv_nbi, kv_nb01, Nat.reduceAdd, Nat.reduceLeDiff, sg]
theorem kx_unitK {dp : Nat} (hd : dp ≤ 6) {s : Nat → kx_Q} {nest : Option ((Nat → kx_Q) × (Nat → kx_Q))} (hW : kx_W L s) (hS : kx_SK t L e zl (d + 3) 46 [some (.ref 30), some (.int (Int32.ofNat dp)), none, none] s) (hb : (dp = 6 ∧ nest = none) ∨ (dp < 6 ∧ ∃ n, nest = some n ∧ (kx_W L n.1 ∧ kx_W L n.2) ∧ kx_SK t L e zl (d + 2) 43 [some (.ref 30), some (.int (Int32.ofNat (dp + 1))), some (.int 0), none, none] n.1 ∧ kx_SK t L e zl (d + 2) 41 [some (.ref 30), some (.int (Int32.ofNat (dp + 1))), some (.int 0), none] n.2)) : kx_SK t L e zl (d + 4) 43 [some (.ref 30), some (.int (Int32.ofNat dp)), some (.int 0), none, none] (kx_unit t L nest s) := by
  intro a ps z ha hc hp hl
  have hL := hc.1.2
  have n1 := kw_nx_le t L a
  have n2 := kw_nx_L (t := t) ha
  have sg := kw_signK (d := d + 3) (e := e) (zl := zl) (show a ≤ 100000 by omega) hc
  have c1 := kw_ctK_a (b := kw_nx t L a) hc
  have p1 : kx_pr ps (kw_aK z (kw_nx t L a)) := kx_pr_1 hp
  have e2 : kv_z (kw_aK z (kw_nx t L a)) 1 (upd (kw_aK z (kw_nx t L a) 1) 2 (Int32.ofNat (kw_nx t L a + 1))) = kw_aK z (kw_nx t L a + 1) := kw_aK_aK z _ _
  have e1 : kw_aK z (kw_nx t L a) 1 2 = Int32.ofNat (kw_nx t L a) := rfl
  have c2 := kw_ctK_a (b := kw_nx t L a + 1) hc
  have l6 : (Int32.ofNat dp < 6) = (dp < 6) := kv_nlt (b := 6) (by omega) (by omega)
  by_cases q1 : kx_sg t L (kw_nx t L a) = 33
  · have hlt := kx_sg_ne (t := t) (L := L) (a := kw_nx t L a) (fun s => absurd (q1.symm.trans s) (by decide))
    rcases hb with ⟨h6, hb⟩ | ⟨h6, n, hb, ⟨W1, W2⟩, S1, S2⟩
    · subst hb
      have eu : kx_unit t L none s a = (false, kw_nx t L a, []) := if_pos q1
      rw [eu]
      refine ⟨kw_aK z (kw_nx t L a), ?_, kx_frK_1, c1, fun r => absurd r (by simp)⟩
      simp only [kv_e43_0, kv_e43_1, kv_e43_4, kv_e43_7, kv_e43_8, kv_e43_9, kv_e43_12, kv_e43_13, kv_e43_15, kv_e43_24, kv_e43_25, kv_e43_26, kv_e43_27, kv_e43_30, kv_e44_0, kv_e44_1, kv_e44_3, kv_e44_6, kv_e44_7, kv_o10, not_false_eq_true, not_true, if_true, if_false, kv_then_s, kv_then_v, kv_then_n, List.cons_append, List.nil_append, kv_Ci, kv_Cr, kv_Cn, kv_Cu, kv_C0, kv_catc, kv_gCi, kv_gCl, kv_gCr, kv_nb0, kv_nb1, kv_nbi, kv_nb01, Nat.reduceAdd, Nat.reduceLeDiff, sg, q1, l6, eq_false (show ¬ dp < 6 by omega), Bool.false_eq_true]
    · subst hb
      have eu : kx_unit t L (some n) s a = ((n.1 (kw_nx t L a + 1)).1, (n.1 (kw_nx t L a + 1)).2.1, (n.1 (kw_nx t L a + 1)).2.2 ++ [(9, 0)]) := if_pos q1
      rw [eu]
      obtain ⟨z3, r3, f3, c3, p3⟩ := S1 (kw_nx t L a + 1) ps (kw_aK z (kw_nx t L a + 1)) (by omega) c2 (kx_pr_1 hp) (by omega)
      obtain ⟨⟨w1, w2⟩, w3⟩ := W1 (kw_nx t L a + 1) (by omega)
      by_cases qo : (n.1 (kw_nx t L a + 1)).1 = true
      · obtain ⟨z4, r4, f4, p4⟩ := kx_addK (d := d + 2) (e := e) (zl := zl) 11 0 (p3 qo) (by rw [List.length_append, List.length_map]; omega)
        refine ⟨z4, ?_, kx_frK_tr (kx_frK_tr kx_frK_1 f3) (fun c a1 a2 a3 => f4 c a2 a3), kx_ct_fr c3 (f4 1 (by omega) (by omega)) (f4 2 (by omega) (by omega)), fun _ => by
          dsimp only
          rw [kx_map2]
          exact p4⟩
        simp only [kv_e43_0, kv_e43_1, kv_e43_4, kv_e43_7, kv_e43_8, kv_e43_9, kv_e43_12, kv_e43_13, kv_e43_15, kv_e43_24, kv_e43_25, kv_e43_26, kv_e43_27, kv_e43_30, kv_e44_0, kv_e44_1, kv_e44_3, kv_e44_8, kv_e44_9, kv_e44_12, kv_e44_13, kv_e44_16, kv_e44_17, kv_e44_18, kv_e44_21, kv_e44_22, kv_e44_24, kv_e44_56, kv_e44_57, kv_e44_58, kv_e44_59, kv_e44_60, kv_e44_61, kv_e44_64, kv_e44_69, kv_e44_70, kv_e44_73, kv_e44_75, kv_e44_76, kv_e44_79, kv_e44_80, kv_o10, not_false_eq_true, not_true, if_true, if_false, kv_then_s, kv_then_v, kv_then_n, List.cons_append, List.nil_append, kv_Ci, kv_Cr, kv_Cn, kv_Cu, kv_C0, kv_catc, kv_gCi, kv_gCl, kv_gCr, kv_nb0, kv_nb1, kv_nbi, kv_nb01, Nat.reduceAdd, Nat.reduceLeDiff, sg, q1, l6, eq_true h6, e1, kv_suc, e2, show ((33 : Int32) = 40) = False from by decide, r3, qo, kv_isL31, r4]
      · refine ⟨z3, ?_, kx_frK_tr kx_frK_1 f3, c3, fun s => absurd s qo⟩
        simp only [kv_e43_0, kv_e43_1, kv_e43_4, kv_e43_7, kv_e43_8, kv_e43_9, kv_e43_12, kv_e43_13, kv_e43_15, kv_e43_24, kv_e43_25, kv_e43_26, kv_e43_27, kv_e43_30, kv_e44_0, kv_e44_1, kv_e44_3, kv_e44_8, kv_e44_9, kv_e44_12, kv_e44_13, kv_e44_16, kv_e44_17, kv_e44_18, kv_e44_21, kv_e44_22, kv_e44_24, kv_e44_56, kv_e44_57, kv_e44_58, kv_e44_59, kv_e44_60, kv_e44_61, kv_e44_64, kv_e44_67, kv_e44_68, kv_o10, not_false_eq_true, not_true, if_true, if_false, kv_then_s, kv_then_v, kv_then_n, List.cons_append, List.nil_append, kv_Ci, kv_Cr, kv_Cn, kv_Cu, kv_C0, kv_catc, kv_gCi, kv_gCl, kv_gCr, kv_nb0, kv_nb1, kv_nbi, kv_nb01, Nat.reduceAdd, Nat.reduceLeDiff, sg, q1, l6, eq_true h6, e1, kv_suc, e2, show ((33 : Int32) = 40) = False from by decide, r3, qo, eq_self, Bool.false_eq_true]
  · by_cases q2 : kx_sg t L (kw_nx t L a) = 40
    · have hlt := kx_sg_ne (t := t) (L := L) (a := kw_nx t L a) (fun s => absurd (q2.symm.trans s) (by decide))
      rcases hb with ⟨h6, hb⟩ | ⟨h6, n, hb, ⟨W1, W2⟩, S1, S2⟩
      · subst hb
        have eu : kx_unit t L none s a = (false, kw_nx t L a, []) := (if_neg q1).trans (if_pos q2)
        rw [eu]
        refine ⟨kw_aK z (kw_nx t L a), ?_, kx_frK_1, c1, fun r => absurd r (by simp)⟩
        simp only [kv_e43_0, kv_e43_1, kv_e43_4, kv_e43_7, kv_e43_8, kv_e43_9, kv_e43_12, kv_e43_13, kv_e43_15, kv_e43_18, kv_e43_19, kv_e43_21, kv_e43_24, kv_e43_25, kv_e43_26, kv_e43_27, kv_e43_30, kv_e44_0, kv_e44_1, kv_e44_3, kv_e44_6, kv_e44_7, kv_o10, not_false_eq_true, not_true, if_true, if_false, kv_then_s, kv_then_v, kv_then_n, List.cons_append, List.nil_append, kv_Ci, kv_Cr, kv_Cn, kv_Cu, kv_C0, kv_catc, kv_gCi, kv_gCl, kv_gCr, kv_nb0, kv_nb1, kv_nbi, kv_nb01, Nat.reduceAdd, Nat.reduceLeDiff, sg, q2, show ((40 : Int32) = 33) = False from by decide, l6, eq_false (show ¬ dp < 6 by omega), Bool.false_eq_true]
      · subst hb
        have eu : kx_unit t L (some n) s a = kx_close t L 41 (n.2 (kw_nx t L a + 1)) := (if_neg q1).trans (if_pos q2)
        rw [eu]
        obtain ⟨z3, r3, f3, c3, p3⟩ := S2 (kw_nx t L a + 1) ps (kw_aK z (kw_nx t L a + 1)) (by omega) c2 (kx_pr_1 hp) (by omega)
        obtain ⟨⟨w1, w2⟩, w3⟩ := W2 (kw_nx t L a + 1) (by omega)
        by_cases qo : (n.2 (kw_nx t L a + 1)).1 = true
        · have tk := kw_takeK (d := d + 1) (e := e) (zl := zl) 41 (show (n.2 (kw_nx t L a + 1)).2.1 ≤ 100000 by omega) c3
          by_cases qc : kx_sg t L (kw_nx t L (n.2 (kw_nx t L a + 1)).2.1) = 41
          · rw [if_pos qc] at tk
            rw [kx_close_1 qo qc]
            refine ⟨kw_aK z3 (kw_nx t L (n.2 (kw_nx t L a + 1)).2.1 + 1), ?_, kx_frK_tr (kx_frK_tr kx_frK_1 f3) kx_frK_1, kw_ctK_a c3, fun _ => kx_pr_1 (p3 qo)⟩
            simp only [kv_e43_0, kv_e43_1, kv_e43_4, kv_e43_7, kv_e43_8, kv_e43_9, kv_e43_12, kv_e43_13, kv_e43_15, kv_e43_18, kv_e43_19, kv_e43_21, kv_e43_24, kv_e43_25, kv_e43_26, kv_e43_27, kv_e43_30, kv_e44_0, kv_e44_1, kv_e44_3, kv_e44_8, kv_e44_9, kv_e44_12, kv_e44_13, kv_e44_16, kv_e44_17, kv_e44_18, kv_e44_21, kv_e44_22, kv_e44_24, kv_e44_27, kv_e44_28, kv_e44_29, kv_e44_30, kv_e44_31, kv_e44_32, kv_e44_35, kv_e44_38, kv_e44_39, kv_e44_42, kv_e44_44, kv_e44_47, kv_e44_50, kv_e44_51, kv_e44_55, kv_o10, not_false_eq_true, not_true, if_true, if_false, kv_then_s, kv_then_v, kv_then_n, List.cons_append, List.nil_append, kv_Ci, kv_Cr, kv_Cn, kv_Cu, kv_C0, kv_catc, kv_gCi, kv_gCl, kv_gCr, kv_nb0, kv_nb1, kv_nbi, kv_nb01, Nat.reduceAdd, Nat.reduceLeDiff, sg, q2, show ((40 : Int32) = 33) = False from by decide, l6, eq_true h6, e1, kv_suc, e2, r3, qo, tk]
          · rw [if_neg qc] at tk
            rw [kx_close_2 qo qc]
            refine ⟨kw_aK z3 (kw_nx t L (n.2 (kw_nx t L a + 1)).2.1), ?_, kx_frK_tr (kx_frK_tr kx_frK_1 f3) kx_frK_1, kw_ctK_a c3, fun s => absurd s (by simp)⟩
            simp only [kv_e43_0, kv_e43_1, kv_e43_4, kv_e43_7, kv_e43_8, kv_e43_9, kv_e43_12, kv_e43_13, kv_e43_15, kv_e43_18, kv_e43_19, kv_e43_21, kv_e43_24, kv_e43_25, kv_e43_26, kv_e43_27, kv_e43_30, kv_e44_0, kv_e44_1, kv_e44_3, kv_e44_8, kv_e44_9, kv_e44_12, kv_e44_13, kv_e44_16, kv_e44_17, kv_e44_18, kv_e44_21, kv_e44_22, kv_e44_24, kv_e44_27, kv_e44_28, kv_e44_29, kv_e44_30, kv_e44_31, kv_e44_32, kv_e44_35, kv_e44_38, kv_e44_39, kv_e44_42, kv_e44_44, kv_e44_47, kv_e44_54, kv_e44_55, kv_o10, not_false_eq_true, not_true, if_true, if_false, kv_then_s, kv_then_v, kv_then_n, List.cons_append, List.nil_append, kv_Ci, kv_Cr, kv_Cn, kv_Cu, kv_C0, kv_catc, kv_gCi, kv_gCl, kv_gCr, kv_nb0, kv_nb1, kv_nbi, kv_nb01, Nat.reduceAdd, Nat.reduceLeDiff, sg, q2, show ((40 : Int32) = 33) = False from by decide, l6, eq_true h6, e1, kv_suc, e2, r3, qo, tk, Bool.false_eq_true]
        · rw [kx_close_0 qo]
          refine ⟨z3, ?_, kx_frK_tr kx_frK_1 f3, c3, fun s => absurd s qo⟩
          simp only [kv_e43_0, kv_e43_1, kv_e43_4, kv_e43_7, kv_e43_8, kv_e43_9, kv_e43_12, kv_e43_13, kv_e43_15, kv_e43_18, kv_e43_19, kv_e43_21, kv_e43_24, kv_e43_25, kv_e43_26, kv_e43_27, kv_e43_30, kv_e44_0, kv_e44_1, kv_e44_3, kv_e44_8, kv_e44_9, kv_e44_12, kv_e44_13, kv_e44_16, kv_e44_17, kv_e44_18, kv_e44_21, kv_e44_22, kv_e44_24, kv_e44_27, kv_e44_28, kv_e44_29, kv_e44_30, kv_e44_31, kv_e44_32, kv_e44_35, kv_e44_54, kv_e44_55, kv_o10, not_false_eq_true, not_true, if_true, if_false, kv_then_s, kv_then_v, kv_then_n, List.cons_append, List.nil_append, kv_Ci, kv_Cr, kv_Cn, kv_Cu, kv_C0, kv_catc, kv_gCi, kv_gCl, kv_gCr, kv_nb0, kv_nb1, kv_nbi, kv_nb01, Nat.reduceAdd, Nat.reduceLeDiff, sg, q2, show ((40 : Int32) = 33) = False from by decide, l6, eq_true h6, e1, kv_suc, e2, r3, qo, eq_self, Bool.false_eq_true]
    · have eu : kx_unit t L nest s a = kx_seq (s (kw_nx t L a)) (kx_cmp t L s) := (if_neg q1).trans (if_neg q2)
      rw [eu]
      obtain ⟨z3, r3, f3, c3, p3⟩ := hS (kw_nx t L a) ps (kw_aK z (kw_nx t L a)) n2 c1 p1 (by omega)
      obtain ⟨⟨w1, w2⟩, w3⟩ := hW (kw_nx t L a) n2
      by_cases qo : (s (kw_nx t L a)).1 = true
      · rw [kx_seq_1 qo]
        obtain ⟨z4, r4, f4, c4, p4⟩ := kx_cmpK (d := d + 2) (a := (s (kw_nx t L a)).2.1) hW hS w2 c3 (p3 qo) (by rw [List.length_append, List.length_map]; omega) 0 (some (.int (kx_sg t L (kw_nx t L a)))) none rfl
        refine ⟨z4, ?_, kx_frK_tr (kx_frK_tr kx_frK_1 f3) f4, c4, fun s => by
          dsimp only
          rw [List.map_append, ← List.append_assoc]
          exact p4 s⟩
        rw [← r4]
        simp only [kv_e43_0, kv_e43_1, kv_e43_4, kv_e43_7, kv_e43_8, kv_e43_9, kv_e43_12, kv_e43_13, kv_e43_15, kv_e43_18, kv_e43_19, kv_e43_21, kv_e43_31, kv_e43_32, kv_e43_35, kv_e43_36, kv_e43_37, kv_e43_40, kv_o10, not_false_eq_true, not_true, if_true, if_false, kv_then_s, kv_then_v, kv_then_n, List.cons_append, List.nil_append, kv_Ci, kv_Cr, kv_Cn, kv_Cu, kv_C0, kv_catc, kv_gCi, kv_gCl, kv_gCr, kv_nb0, kv_nb1, kv_nbi, kv_nb01, Nat.reduceAdd, Nat.reduceLeDiff, sg, q1, q2, r3, qo, eq_self]
      · rw [kx_seq_0 qo]
        refine ⟨z3, ?_, kx_frK_tr kx_frK_1 f3, c3, fun s => absurd s qo⟩
        simp only [kv_e43_0, kv_e43_1, kv_e43_4, kv_e43_7, kv_e43_8, kv_e43_9, kv_e43_12, kv_e43_13, kv_e43_15, kv_e43_18, kv_e43_19, kv_e43_21, kv_e43_31, kv_e43_32, kv_e43_35, kv_e43_36, kv_e43_37, kv_e43_40, kv_e43_43, kv_e43_44, kv_o10, not_false_eq_true, not_true, if_true, if_false, kv_then_s, kv_then_v, kv_then_n, List.cons_append, List.nil_append, kv_Ci, kv_Cr, kv_Cn, kv_Cu, kv_C0, kv_catc, kv_gCi, kv_gCl, kv_gCr, kv_nb0, kv_nb1, kv_nbi, kv_nb01, Nat.reduceAdd, Nat.reduceLeDiff, sg, q1, q2, r3, qo, eq_self, Bool.false_eq_true]
theorem kx_truthL {dp : Nat} (beg : Int32) {p : Nat → kx_Q} (hW : kx_W L p) (hS : kx_SK t L e zl (d + 1) 43 [some (.ref 30), some (.int (Int32.ofNat dp)), some (.int 0), none, none] p) : ∀ f i a ps z, i + f = 240 → i ≤ a → a ≤ L → kw_ctK t L a z → kx_pr ps z → ps.length ≤ a → ∃ z', kv_Rn (d + 2) 42 13 [some (.ref 30), some (.int (Int32.ofNat dp)), some (.int beg), some (.int (Int32.ofNat i))] [] (kv_h e z zl) = some (some (.int (if (kx_loop t L kx_oA p f a).1 = true then 1 else 0)), kv_h e z' zl) ∧ kx_frK z z' ∧ kw_ctK t L (kx_loop t L kx_oA p f a).2.1 z' ∧ ((kx_loop t L kx_oA p f a).1 = true → kx_pr (ps ++ (kx_loop t L kx_oA p f a).2.2.map kx_pk) z') := by
  intro f
  induction f with
  | zero =>
    intro i a ps z hi hia ha hc hp hl
    refine ⟨z, ?_, kx_frK_rf z, hc, fun _ => by rw [show (kx_loop t L kx_oA p 0 a).2.2 = [] from rfl, List.map_nil, List.append_nil]; exact hp⟩
    rw [show i = 240 from by omega, kv_e42_13]
    simp only [kv_e42_14, kv_e42_17, kv_e42_59, kv_e42_60, kv_o10, not_false_eq_true, not_true, if_true, if_false, kv_then_s, kv_then_v, kv_then_n, List.cons_append, List.nil_append, kv_Ci, kv_Cr, kv_Cn, kv_Cu, kv_C0, kv_catc, kv_gCi, kv_gCl, kv_gCr, kv_nb0, kv_nb1, kv_nbi, kv_nb01, Nat.reduceAdd, Nat.reduceLeDiff, show ((240 : Int32) ≤ Int32.ofNat 240) = True from by decide]
    rfl
  | succ f ih =>
    intro i a ps z hi hia ha hc hp hl
    have hL := hc.1.2
    have n1 := kw_nx_le t L a
    have n2 := kw_nx_L (t := t) ha
    have tk := kw_takeK (d := d) (e := e) (zl := zl) 38 (show a ≤ 100000 by omega) hc
    have g240 := kx_ge240 (i := i) (by omega)
    by_cases q1 : kx_sg t L (kw_nx t L a) = 38
    · have q : ¬ kx_oA (kx_sg t L (kw_nx t L a)) = 0 := by rw [q1]; decide
      rw [if_pos q1] at tk
      have hlt := kx_sg_ne (t := t) (L := L) (a := kw_nx t L a) (fun s => absurd (q1.symm.trans s) (by decide))
      have c2 := kw_ctK_a (b := kw_nx t L a + 1) hc
      obtain ⟨z3, r3, f3, c3, p3⟩ := hS (kw_nx t L a + 1) ps (kw_aK z (kw_nx t L a + 1)) (by omega) c2 (kx_pr_1 hp) (by omega)
      obtain ⟨⟨w1, w2⟩, w3⟩ := hW (kw_nx t L a + 1) (by omega)
      by_cases qo : (p (kw_nx t L a + 1)).1 = true
      · rw [kx_loop_t q qo]
        obtain ⟨z4, r4, f4, p4⟩ := kx_addK (d := d + 1) (e := e) (zl := zl) (Int32.ofNat (kx_kd (kx_oA (kx_sg t L (kw_nx t L a))))) 0 (p3 qo) (by rw [List.length_append, List.length_map]; omega)
        have c4 := kx_ct_fr c3 (f4 1 (by omega) (by omega)) (f4 2 (by omega) (by omega))
        obtain ⟨z5, r5, f5, c5, p5⟩ := ih (i + 1) (p (kw_nx t L a + 1)).2.1 _ z4 (by omega) (by omega) w2 c4 p4 (by rw [List.length_append, List.length_append, List.length_map, List.length_cons, List.length_nil]; omega)
        refine ⟨z5, ?_, kx_frK_tr (kx_frK_tr kx_frK_1 f3) (kx_frK_tr (fun c a1 a2 a3 => f4 c a2 a3) f5), c5, fun s => by
          dsimp only
          rw [kx_map1]
          exact p5 s⟩
        have ek : Int32.ofNat (kx_kd (kx_oA (kx_sg t L (kw_nx t L a)))) = 9 := by rw [q1]; decide
        rw [ek] at r4
        rw [← r5, kv_e42_13]
        simp only [kv_e42_14, kv_e42_17, kv_e42_20, kv_e42_21, kv_e42_24, kv_e42_26, kv_e42_29, kv_e42_32, kv_e42_33, kv_e42_34, kv_e42_35, kv_e42_38, kv_e42_43, kv_e42_44, kv_e42_47, kv_e42_49, kv_e42_50, kv_e42_53, kv_e42_56, kv_o10, not_false_eq_true, not_true, if_true, if_false, kv_then_s, kv_then_v, kv_then_n, List.cons_append, List.nil_append, kv_Ci, kv_Cr, kv_Cn, kv_Cu, kv_C0, kv_catc, kv_gCi, kv_gCl, kv_gCr, kv_nb0, kv_nb1, kv_nbi, kv_nb01, Nat.reduceAdd, Nat.reduceLeDiff, g240, tk, r3, qo, kv_isL31, r4, kv_suc]
      · rw [kx_loop_f q qo]
        refine ⟨z3, ?_, kx_frK_tr kx_frK_1 f3, c3, fun s => absurd s (by simp)⟩
        rw [kv_e42_13]
        simp only [kv_e42_14, kv_e42_17, kv_e42_20, kv_e42_21, kv_e42_24, kv_e42_26, kv_e42_29, kv_e42_32, kv_e42_33, kv_e42_34, kv_e42_35, kv_e42_38, kv_e42_41, kv_e42_42, kv_o10, not_false_eq_true, not_true, if_true, if_false, kv_then_s, kv_then_v, kv_then_n, List.cons_append, List.nil_append, kv_Ci, kv_Cr, kv_Cn, kv_Cu, kv_C0, kv_catc, kv_gCi, kv_gCl, kv_gCr, kv_nb0, kv_nb1, kv_nbi, kv_nb01, Nat.reduceAdd, Nat.reduceLeDiff, g240, tk, r3, qo, Bool.false_eq_true, eq_self]
    · have q : kx_oA (kx_sg t L (kw_nx t L a)) = 0 := if_neg q1
      rw [if_neg q1] at tk
      rw [kx_loop_n q]
      refine ⟨kw_aK z (kw_nx t L a), ?_, kx_frK_1, kw_ctK_a hc, fun _ => by rw [List.map_nil, List.append_nil]; exact kx_pr_1 hp⟩
      rw [kv_e42_13]
      simp only [kv_e42_14, kv_e42_17, kv_e42_20, kv_e42_21, kv_e42_24, kv_e42_26, kv_e42_29, kv_e42_59, kv_e42_60, kv_o10, not_false_eq_true, not_true, if_true, if_false, kv_then_s, kv_then_v, kv_then_n, List.cons_append, List.nil_append, kv_Ci, kv_Cr, kv_Cn, kv_Cu, kv_C0, kv_catc, kv_gCi, kv_gCl, kv_gCr, kv_nb0, kv_nb1, kv_nbi, kv_nb01, Nat.reduceAdd, Nat.reduceLeDiff, g240, tk, eq_self]
theorem kx_truthK {dp : Nat} {beg : Int32} {p0 p : Nat → kx_Q} (hW0 : kx_W L p0) (hW : kx_W L p) (hS0 : kx_SK t L e zl (d + 1) 43 [some (.ref 30), some (.int (Int32.ofNat dp)), some (.int beg), none, none] p0) (hS : kx_SK t L e zl (d + 1) 43 [some (.ref 30), some (.int (Int32.ofNat dp)), some (.int 0), none, none] p) : kx_SK t L e zl (d + 2) 42 [some (.ref 30), some (.int (Int32.ofNat dp)), some (.int beg), none] (kx_sqf p0 (kx_loop t L kx_oA p 240)) := by
  intro a ps z ha hc hp hl
  obtain ⟨z1, r1, f1, c1, p1⟩ := hS0 a ps z ha hc hp hl
  obtain ⟨⟨w1, w2⟩, w3⟩ := hW0 a ha
  have hL := hc.1.2
  unfold kx_sqf
  by_cases qo : (p0 a).1 = true
  · rw [kx_seq_1 qo]
    obtain ⟨z2, r2, f2, c2, p2⟩ := kx_truthL (d := d) beg hW hS 240 0 (p0 a).2.1 _ z1 (by omega) (by omega) w2 c1 (p1 qo) (by rw [List.length_append, List.length_map]; omega)
    refine ⟨z2, ?_, kx_frK_tr f1 f2, c2, fun s => by
      dsimp only
      rw [List.map_append, ← List.append_assoc]
      exact p2 s⟩
    rw [← r2]
    simp only [kv_e42_0, kv_e42_1, kv_e42_2, kv_e42_3, kv_e42_6, kv_e42_11, kv_e42_12, kv_o10, not_false_eq_true, not_true, if_true, if_false, kv_then_s, kv_then_v, kv_then_n, List.cons_append, List.nil_append, kv_Ci, kv_Cr, kv_Cn, kv_Cu, kv_C0, kv_catc, kv_gCi, kv_gCl, kv_gCr, kv_nb0, kv_nb1, kv_nbi, kv_nb01, Nat.reduceAdd, Nat.reduceLeDiff, r1, qo]
    rfl
  · rw [kx_seq_0 qo]
    refine ⟨z1, ?_, f1, c1, fun s => absurd s qo⟩
    simp only [kv_e42_0, kv_e42_1, kv_e42_2, kv_e42_3, kv_e42_6, kv_e42_9, kv_e42_10, kv_o10, not_false_eq_true, not_true, if_true, if_false, kv_then_s, kv_then_v, kv_then_n, List.cons_append, List.nil_append, kv_Ci, kv_Cr, kv_Cn, kv_Cu, kv_C0, kv_catc, kv_gCi, kv_gCl, kv_gCr, kv_nb0, kv_nb1, kv_nbi, kv_nb01, Nat.reduceAdd, Nat.reduceLeDiff, r1, qo, Bool.false_eq_true, eq_self]
theorem kx_condL {dp : Nat} (beg : Int32) {p : Nat → kx_Q} (hW : kx_W L p) (hS : kx_SK t L e zl (d + 1) 42 [some (.ref 30), some (.int (Int32.ofNat dp)), some (.int 0), none] p) : ∀ f i a ps z, i + f = 240 → i ≤ a → a ≤ L → kw_ctK t L a z → kx_pr ps z → ps.length ≤ a → ∃ z', kv_Rn (d + 2) 41 13 [some (.ref 30), some (.int (Int32.ofNat dp)), some (.int beg), some (.int (Int32.ofNat i))] [] (kv_h e z zl) = some (some (.int (if (kx_loop t L kx_oO p f a).1 = true then 1 else 0)), kv_h e z' zl) ∧ kx_frK z z' ∧ kw_ctK t L (kx_loop t L kx_oO p f a).2.1 z' ∧ ((kx_loop t L kx_oO p f a).1 = true → kx_pr (ps ++ (kx_loop t L kx_oO p f a).2.2.map kx_pk) z') := by
  intro f
  induction f with
  | zero =>
    intro i a ps z hi hia ha hc hp hl
    refine ⟨z, ?_, kx_frK_rf z, hc, fun _ => by rw [show (kx_loop t L kx_oO p 0 a).2.2 = [] from rfl, List.map_nil, List.append_nil]; exact hp⟩
    rw [show i = 240 from by omega, kv_e41_13]
    simp only [kv_e41_14, kv_e41_17, kv_e41_59, kv_e41_60, kv_o10, not_false_eq_true, not_true, if_true, if_false, kv_then_s, kv_then_v, kv_then_n, List.cons_append, List.nil_append, kv_Ci, kv_Cr, kv_Cn, kv_Cu, kv_C0, kv_catc, kv_gCi, kv_gCl, kv_gCr, kv_nb0, kv_nb1, kv_nbi, kv_nb01, Nat.reduceAdd, Nat.reduceLeDiff, show ((240 : Int32) ≤ Int32.ofNat 240) = True from by decide]
    rfl
  | succ f ih =>
    intro i a ps z hi hia ha hc hp hl
    have hL := hc.1.2
    have n1 := kw_nx_le t L a
    have n2 := kw_nx_L (t := t) ha
    have tk := kw_takeK (d := d) (e := e) (zl := zl) 124 (show a ≤ 100000 by omega) hc
    have g240 := kx_ge240 (i := i) (by omega)
    by_cases q1 : kx_sg t L (kw_nx t L a) = 124
    · have q : ¬ kx_oO (kx_sg t L (kw_nx t L a)) = 0 := by rw [q1]; decide
      rw [if_pos q1] at tk
      have hlt := kx_sg_ne (t := t) (L := L) (a := kw_nx t L a) (fun s => absurd (q1.symm.trans s) (by decide))
      have c2 := kw_ctK_a (b := kw_nx t L a + 1) hc
      obtain ⟨z3, r3, f3, c3, p3⟩ := hS (kw_nx t L a + 1) ps (kw_aK z (kw_nx t L a + 1)) (by omega) c2 (kx_pr_1 hp) (by omega)
      obtain ⟨⟨w1, w2⟩, w3⟩ := hW (kw_nx t L a + 1) (by omega)
      by_cases qo : (p (kw_nx t L a + 1)).1 = true
      · rw [kx_loop_t q qo]
        obtain ⟨z4, r4, f4, p4⟩ := kx_addK (d := d + 1) (e := e) (zl := zl) (Int32.ofNat (kx_kd (kx_oO (kx_sg t L (kw_nx t L a))))) 0 (p3 qo) (by rw [List.length_append, List.length_map]; omega)
        have c4 := kx_ct_fr c3 (f4 1 (by omega) (by omega)) (f4 2 (by omega) (by omega))
        obtain ⟨z5, r5, f5, c5, p5⟩ := ih (i + 1) (p (kw_nx t L a + 1)).2.1 _ z4 (by omega) (by omega) w2 c4 p4 (by rw [List.length_append, List.length_append, List.length_map, List.length_cons, List.length_nil]; omega)
        refine ⟨z5, ?_, kx_frK_tr (kx_frK_tr kx_frK_1 f3) (kx_frK_tr (fun c a1 a2 a3 => f4 c a2 a3) f5), c5, fun s => by
          dsimp only
          rw [kx_map1]
          exact p5 s⟩
        have ek : Int32.ofNat (kx_kd (kx_oO (kx_sg t L (kw_nx t L a)))) = 10 := by rw [q1]; decide
        rw [ek] at r4
        rw [← r5, kv_e41_13]
        simp only [kv_e41_14, kv_e41_17, kv_e41_20, kv_e41_21, kv_e41_24, kv_e41_26, kv_e41_29, kv_e41_32, kv_e41_33, kv_e41_34, kv_e41_35, kv_e41_38, kv_e41_43, kv_e41_44, kv_e41_47, kv_e41_49, kv_e41_50, kv_e41_53, kv_e41_56, kv_o10, not_false_eq_true, not_true, if_true, if_false, kv_then_s, kv_then_v, kv_then_n, List.cons_append, List.nil_append, kv_Ci, kv_Cr, kv_Cn, kv_Cu, kv_C0, kv_catc, kv_gCi, kv_gCl, kv_gCr, kv_nb0, kv_nb1, kv_nbi, kv_nb01, Nat.reduceAdd, Nat.reduceLeDiff, g240, tk, r3, qo, kv_isL31, r4, kv_suc]
      · rw [kx_loop_f q qo]
        refine ⟨z3, ?_, kx_frK_tr kx_frK_1 f3, c3, fun s => absurd s (by simp)⟩
        rw [kv_e41_13]
        simp only [kv_e41_14, kv_e41_17, kv_e41_20, kv_e41_21, kv_e41_24, kv_e41_26, kv_e41_29, kv_e41_32, kv_e41_33, kv_e41_34, kv_e41_35, kv_e41_38, kv_e41_41, kv_e41_42, kv_o10, not_false_eq_true, not_true, if_true, if_false, kv_then_s, kv_then_v, kv_then_n, List.cons_append, List.nil_append, kv_Ci, kv_Cr, kv_Cn, kv_Cu, kv_C0, kv_catc, kv_gCi, kv_gCl, kv_gCr, kv_nb0, kv_nb1, kv_nbi, kv_nb01, Nat.reduceAdd, Nat.reduceLeDiff, g240, tk, r3, qo, Bool.false_eq_true, eq_self]
    · have q : kx_oO (kx_sg t L (kw_nx t L a)) = 0 := if_neg q1
      rw [if_neg q1] at tk
      rw [kx_loop_n q]
      refine ⟨kw_aK z (kw_nx t L a), ?_, kx_frK_1, kw_ctK_a hc, fun _ => by rw [List.map_nil, List.append_nil]; exact kx_pr_1 hp⟩
      rw [kv_e41_13]
      simp only [kv_e41_14, kv_e41_17, kv_e41_20, kv_e41_21, kv_e41_24, kv_e41_26, kv_e41_29, kv_e41_59, kv_e41_60, kv_o10, not_false_eq_true, not_true, if_true, if_false, kv_then_s, kv_then_v, kv_then_n, List.cons_append, List.nil_append, kv_Ci, kv_Cr, kv_Cn, kv_Cu, kv_C0, kv_catc, kv_gCi, kv_gCl, kv_gCr, kv_nb0, kv_nb1, kv_nbi, kv_nb01, Nat.reduceAdd, Nat.reduceLeDiff, g240, tk, eq_self]
theorem kx_condK {dp : Nat} {beg : Int32} {p0 p : Nat → kx_Q} (hW0 : kx_W L p0) (hW : kx_W L p) (hS0 : kx_SK t L e zl (d + 1) 42 [some (.ref 30), some (.int (Int32.ofNat dp)), some (.int beg), none] p0) (hS : kx_SK t L e zl (d + 1) 42 [some (.ref 30), some (.int (Int32.ofNat dp)), some (.int 0), none] p) : kx_SK t L e zl (d + 2) 41 [some (.ref 30), some (.int (Int32.ofNat dp)), some (.int beg), none] (kx_sqf p0 (kx_loop t L kx_oO p 240)) := by
  intro a ps z ha hc hp hl
  obtain ⟨z1, r1, f1, c1, p1⟩ := hS0 a ps z ha hc hp hl
  obtain ⟨⟨w1, w2⟩, w3⟩ := hW0 a ha
  have hL := hc.1.2
  unfold kx_sqf
  by_cases qo : (p0 a).1 = true
  · rw [kx_seq_1 qo]
    obtain ⟨z2, r2, f2, c2, p2⟩ := kx_condL (d := d) beg hW hS 240 0 (p0 a).2.1 _ z1 (by omega) (by omega) w2 c1 (p1 qo) (by rw [List.length_append, List.length_map]; omega)
    refine ⟨z2, ?_, kx_frK_tr f1 f2, c2, fun s => by
      dsimp only
      rw [List.map_append, ← List.append_assoc]
      exact p2 s⟩
    rw [← r2]
    simp only [kv_e41_0, kv_e41_1, kv_e41_2, kv_e41_3, kv_e41_6, kv_e41_11, kv_e41_12, kv_o10, not_false_eq_true, not_true, if_true, if_false, kv_then_s, kv_then_v, kv_then_n, List.cons_append, List.nil_append, kv_Ci, kv_Cr, kv_Cn, kv_Cu, kv_C0, kv_catc, kv_gCi, kv_gCl, kv_gCr, kv_nb0, kv_nb1, kv_nbi, kv_nb01, Nat.reduceAdd, Nat.reduceLeDiff, r1, qo]
    rfl
  · rw [kx_seq_0 qo]
    refine ⟨z1, ?_, f1, c1, fun s => absurd s qo⟩
    simp only [kv_e41_0, kv_e41_1, kv_e41_2, kv_e41_3, kv_e41_6, kv_e41_9, kv_e41_10, kv_o10, not_false_eq_true, not_true, if_true, if_false, kv_then_s, kv_then_v, kv_then_n, List.cons_append, List.nil_append, kv_Ci, kv_Cr, kv_Cn, kv_Cu, kv_C0, kv_catc, kv_gCi, kv_gCl, kv_gCr, kv_nb0, kv_nb1, kv_nbi, kv_nb01, Nat.reduceAdd, Nat.reduceLeDiff, r1, qo, Bool.false_eq_true, eq_self]
theorem kx_UnitK (ht : ∀ i, i < L → kw_rg (t i) 1 255) : ∀ r D, r ≤ 6 → 20 + 7 * r ≤ D → kx_SK t L e zl D 43 [some (.ref 30), some (.int (Int32.ofNat (6 - r))), some (.int 0), none, none] (kx_U t L r) := by
  intro r
  induction r with
  | zero =>
    intro D _ hD
    obtain ⟨d, rfl⟩ : ∃ d, D = d + 4 := ⟨D - 4, by omega⟩
    exact kx_unitK (d := d) (dp := 6) (by omega) (kx_W_S 0) (kx_SumK ht 0 (d + 3) (by omega) (by omega)) (Or.inl ⟨rfl, rfl⟩)
  | succ r ih =>
    intro D hr hD
    obtain ⟨d, rfl⟩ : ∃ d, D = d + 4 := ⟨D - 4, by omega⟩
    obtain ⟨d', rfl⟩ : ∃ d', d = d' + 4 := ⟨d - 4, by omega⟩
    have e6 : 6 - r = 6 - (r + 1) + 1 := by omega
    have u1 := ih (d' + 4 + 2) (by omega) (by omega)
    have u2 := ih (d' + 4) (by omega) (by omega)
    rw [e6] at u1 u2
    have wu := kx_W_U (t := t) (L := L) r
    have tr := kx_truthK (d := d' + 3) (beg := 0) wu wu u2 u2
    have wt := kx_W_tr (t := t) wu
    have cd := kx_condK (d := d' + 4) (beg := 0) wt wt tr tr
    exact kx_unitK (d := d' + 4) (dp := 6 - (r + 1)) (by omega) (kx_W_S (r + 1)) (kx_SumK ht (r + 1) (d' + 4 + 3) (by omega) (by omega)) (Or.inr ⟨by omega, (kx_U t L r, kx_cd t L (kx_U t L r)), rfl, ⟨wu, kx_W_cd wu⟩, u1, cd⟩)
theorem kx_CondK (ht : ∀ i, i < L → kw_rg (t i) 1 255) {D : Nat} (hD : 70 ≤ D) : kx_SK t L e zl D 41 [some (.ref 30), some (.int 0), some (.int 0), none] (kx_cd t L (kx_U t L 6)) := by
  obtain ⟨d, rfl⟩ : ∃ d, D = d + 4 := ⟨D - 4, by omega⟩
  have u2 := kx_UnitK (e := e) (zl := zl) ht 6 (d + 2) (by omega) (by omega)
  have wu := kx_W_U (t := t) (L := L) 6
  have tr := kx_truthK (d := d + 1) (beg := 0) wu wu u2 u2
  have wt := kx_W_tr (t := t) wu
  exact kx_condK (d := d + 2) (beg := 0) wt wt tr tr
theorem kx_CondBK (ht : ∀ i, i < L → kw_rg (t i) 1 255) {D : Nat} (hD : 70 ≤ D) : kx_SK t L e zl D 41 [some (.ref 30), some (.int 0), some (.int 1), none] (kx_cdB t L (kx_S t L 6) (kx_U t L 6)) := by
  obtain ⟨d, rfl⟩ : ∃ d, D = d + 4 := ⟨D - 4, by omega⟩
  have u2 := kx_UnitK (e := e) (zl := zl) ht 6 (d + 2) (by omega) (by omega)
  have ws := kx_W_S (t := t) (L := L) 6
  have b2 := kx_unitBK (d := d) (dp := 6 - 6) ws (kx_SumK (e := e) (zl := zl) ht 6 (d + 1) (by omega) (by omega))
  have wu := kx_W_U (t := t) (L := L) 6
  have trB := kx_truthK (d := d + 1) (beg := 1) (kx_W_cmp ws) wu b2 u2
  have tr := kx_truthK (d := d + 1) (beg := 0) wu wu u2 u2
  have wt := kx_W_tr (t := t) wu
  exact kx_condK (d := d + 2) (beg := 1) (kx_W_trB ws wu) wt trB tr
end
