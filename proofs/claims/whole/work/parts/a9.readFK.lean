/-! fields as texts: the class's whole reader -/
section
variable {d L a : Nat} {e : List kv_E} {t : Nat → Int32} {z : Nat → Nat → Int32} {zl : Nat → Nat → Int64}
/-- well?, where, what -/
noncomputable def kx_fl (t : Nat → Int32) (L : Nat) : Nat → Nat → kx_fs → Bool × Nat × kx_fs
  | 0, a, q => (false, a, q)
  | f + 1, a, q => if (kx_fc t L a q).1 = 0 then (if kx_sg t L (kw_nx t L (kx_fc t L a q).2.1) = 59 then kx_fl t L f (kw_nx t L (kx_fc t L a q).2.1 + 1) (kx_fc t L a q).2.2 else (@decide (kx_sg t L (kw_nx t L (kx_fc t L a q).2.1) = -1 ∧ kx_st (kx_fc t L a q).2.2) (Classical.propDecidable _), kw_nx t L (kx_fc t L a q).2.1, (kx_fc t L a q).2.2)) else (false, (kx_fc t L a q).2.1, q)
theorem kx_fl_1 {f : Nat} {q : kx_fs} (h : (kx_fc t L a q).1 = 0) (g : kx_sg t L (kw_nx t L (kx_fc t L a q).2.1) = 59) : kx_fl t L (f + 1) a q = kx_fl t L f (kw_nx t L (kx_fc t L a q).2.1 + 1) (kx_fc t L a q).2.2 := (if_pos h).trans (if_pos g)
theorem kx_fl_2 {f : Nat} {q : kx_fs} (h : (kx_fc t L a q).1 = 0) (g : ¬ kx_sg t L (kw_nx t L (kx_fc t L a q).2.1) = 59) : kx_fl t L (f + 1) a q = (@decide (kx_sg t L (kw_nx t L (kx_fc t L a q).2.1) = -1 ∧ kx_st (kx_fc t L a q).2.2) (Classical.propDecidable _), kw_nx t L (kx_fc t L a q).2.1, (kx_fc t L a q).2.2) := (if_pos h).trans (if_neg g)
theorem kx_fl_3 {f : Nat} {q : kx_fs} (h : ¬ (kx_fc t L a q).1 = 0) : kx_fl t L (f + 1) a q = (false, (kx_fc t L a q).2.1, q) := if_neg h
theorem kx_fl_W : ∀ f a q, a ≤ L → (kx_fl t L f a q).2.1 ≤ L := by
  intro f
  induction f with
  | zero => intro a q ha; exact ha
  | succ f ih =>
    intro a q ha
    obtain ⟨⟨w1, w2⟩, w3⟩ := kx_fc_W (t := t) (q := q) ha
    have n2 := kw_nx_L (t := t) w2
    by_cases h : (kx_fc t L a q).1 = 0
    · by_cases g : kx_sg t L (kw_nx t L (kx_fc t L a q).2.1) = 59
      · have hlt := kx_sg_ne (t := t) (L := L) (a := kw_nx t L (kx_fc t L a q).2.1) (fun s => absurd (g.symm.trans s) (by decide))
        rw [kx_fl_1 h g]
        exact ih _ _ (by omega)
      · rw [kx_fl_2 h g]
        exact n2
    · rw [kx_fl_3 h]
      exact w2
theorem kx_flK (ht : ∀ i, i < L → kw_rg (t i) 1 255) : ∀ f i a q z, i + f = 240 → 2 * i ≤ a → a ≤ L → kw_ctK t L a z → kx_fK q z → kx_rq q → ∃ z', kv_Rn (d + 7) 13 31 [some (.ref 21), some (.int 1), some (.int (Int32.ofNat i))] [] (kv_h e z zl) = some (some (.int (if (kx_fl t L f a q).1 = true then 1 else 0)), kv_h e z' zl) ∧ kx_frF z z' ∧ kw_ctK t L (kx_fl t L f a q).2.1 z' ∧ ((kx_fl t L f a q).1 = true → kx_fK (kx_fl t L f a q).2.2 z' ∧ kx_rq (kx_fl t L f a q).2.2 ∧ kx_st (kx_fl t L f a q).2.2) := by
  intro f
  induction f with
  | zero => intro i a q z hi h2 ha hc; have := hc.1.2; omega
  | succ f ih =>
    intro i a q z hi h2i ha hc hq hr
    have hL := hc.1.2
    obtain ⟨z1, r1, f1, c1, k1⟩ := kx_clauseFK (d := d) (e := e) (zl := zl) ht ha hc hq
    obtain ⟨⟨w1, w2⟩, w3⟩ := kx_fc_W (t := t) (q := q) ha
    have hr1 : kx_rq (kx_fc t L a q).2.2 := kx_fc_rq hr
    have g240 := kx_ge240 (i := i) (by omega)
    by_cases h : (kx_fc t L a q).1 = 0
    · have k1 := k1 h
      have w3 := w3 h
      rw [if_pos h] at r1
      have tk := kw_takeK (d := d + 5) (e := e) (zl := zl) 59 (show (kx_fc t L a q).2.1 ≤ 100000 by omega) c1
      have m1 := kw_nx_le t L (kx_fc t L a q).2.1
      have m2 := kw_nx_L (t := t) w2
      have fz : ∀ b c, c ≠ 1 → kw_aK z1 b c = z1 c := fun b c h => kw_aK_fr _ _ h
      by_cases g : kx_sg t L (kw_nx t L (kx_fc t L a q).2.1) = 59
      · have hlt := kx_sg_ne (t := t) (L := L) (a := kw_nx t L (kx_fc t L a q).2.1) (fun s => absurd (g.symm.trans s) (by decide))
        rw [if_pos g] at tk
        rw [kx_fl_1 h g]
        obtain ⟨z2, r2, f2, c2, k2⟩ := ih (i + 1) (kw_nx t L (kx_fc t L a q).2.1 + 1) (kx_fc t L a q).2.2 (kw_aK z1 (kw_nx t L (kx_fc t L a q).2.1 + 1)) (by omega) (by omega) (by omega) (kw_ctK_a c1) (kx_fK_fr k1 (fun c a1 _ => fz _ c a1)) hr1
        refine ⟨z2, ?_, kx_frF_tr f1 (kx_frF_tr (fun c a1 _ => fz _ c a1) f2), c2, k2⟩
        rw [← r2]
        conv => lhs; rw [kv_e13_31]
        simp only [kv_e13_32, kv_e13_35, kv_e13_36, kv_e13_39, kv_e13_42, kv_e13_43, kv_e13_46, kv_e13_49, kv_e13_50, kv_e13_51, kv_e13_52, kv_e13_55, kv_e13_57, kv_e13_60, kv_e13_61, kv_e13_64, kv_o10, not_false_eq_true, not_true, if_true, if_false, kv_then_s, kv_then_v, kv_then_n, List.cons_append, List.nil_append, kv_Ci, kv_Cr, kv_Cn, kv_Cu, kv_C0, kv_catc, kv_gCi, kv_gCl, kv_gCr, kv_nb0, kv_nb1, kv_nbi, kv_nb01, Nat.reduceAdd, Nat.reduceLeDiff, g240, r1, tk, kv_suc, show ((1 : Int32) = 0) = False from by decide]
      · rw [if_neg g] at tk
        rw [kx_fl_2 h g]
        have c2 := kw_ctK_a (b := kw_nx t L (kx_fc t L a q).2.1) c1
        have sg := kw_signK (d := d + 6) (e := e) (zl := zl) (show kw_nx t L (kx_fc t L a q).2.1 ≤ 100000 by omega) c2
        rw [kw_nx_nx, kw_aK_aK] at sg
        have k2 : kx_fK (kx_fc t L a q).2.2 (kw_aK z1 (kw_nx t L (kx_fc t L a q).2.1)) := kx_fK_fr k1 (fun c a1 _ => fz _ c a1)
        have st := kx_standK (d := d + 5) (e := e) (zl := zl) k2 hr1
        have road : kv_Rn (d + 7) 13 31 [some (.ref 21), some (.int 1), some (.int (Int32.ofNat i))] [] (kv_h e z zl) = kv_Rn (d + 7) 13 74 [some (.ref 21), some (.int 0), some (.int (Int32.ofNat (i + 1)))] [.int (kx_sg t L (kw_nx t L (kx_fc t L a q).2.1))] (kv_h e (kw_aK z1 (kw_nx t L (kx_fc t L a q).2.1)) zl) := by
          rw [kv_e13_31]
          simp only [kv_e13_32, kv_e13_35, kv_e13_36, kv_e13_39, kv_e13_42, kv_e13_43, kv_e13_46, kv_e13_49, kv_e13_50, kv_e13_51, kv_e13_52, kv_e13_55, kv_e13_57, kv_e13_60, kv_e13_61, kv_e13_64, kv_o10, not_false_eq_true, not_true, if_true, if_false, kv_then_s, kv_then_v, kv_then_n, List.cons_append, List.nil_append, kv_Ci, kv_Cr, kv_Cn, kv_Cu, kv_C0, kv_catc, kv_gCi, kv_gCl, kv_gCr, kv_nb0, kv_nb1, kv_nbi, kv_nb01, Nat.reduceAdd, Nat.reduceLeDiff, g240, r1, tk, kv_suc, show ((1 : Int32) = 0) = False from by decide]
          rw [kv_e13_31]
          simp only [kv_e13_32, kv_e13_35, kv_e13_36, kv_e13_39, kv_e13_42, kv_e13_43, kv_e13_46, kv_e13_49, kv_e13_50, kv_e13_51, kv_e13_52, kv_e13_55, kv_e13_57, kv_e13_60, kv_e13_61, kv_e13_64, kv_e13_67, kv_e13_68, kv_e13_71, kv_o10, not_false_eq_true, not_true, if_true, if_false, kv_then_s, kv_then_v, kv_then_n, List.cons_append, List.nil_append, kv_Ci, kv_Cr, kv_Cn, kv_Cu, kv_C0, kv_catc, kv_gCi, kv_gCl, kv_gCr, kv_nb0, kv_nb1, kv_nbi, kv_nb01, Nat.reduceAdd, Nat.reduceLeDiff, eq_self, sg]
        rw [road]
        refine ⟨kw_aK z1 (kw_nx t L (kx_fc t L a q).2.1), ?_, kx_frF_tr f1 (fun c a1 _ => fz _ c a1), c2, fun s => ?_⟩
        · by_cases g1 : kx_sg t L (kw_nx t L (kx_fc t L a q).2.1) = -1
          · by_cases g2 : kx_st (kx_fc t L a q).2.2
            · rw [if_pos g2] at st
              rw [@decide_eq_true _ (Classical.propDecidable _) (show kx_sg t L (kw_nx t L (kx_fc t L a q).2.1) = -1 ∧ kx_st (kx_fc t L a q).2.2 from ⟨g1, g2⟩), if_pos rfl]
              simp only [kv_e13_74, kv_e13_75, kv_e13_78, kv_e13_79, kv_e13_82, kv_e13_85, kv_e13_86, kv_e13_89, kv_e13_90, kv_o10, not_false_eq_true, not_true, if_true, if_false, kv_then_s, kv_then_v, kv_then_n, List.cons_append, List.nil_append, kv_Ci, kv_Cr, kv_Cn, kv_Cu, kv_C0, kv_catc, kv_gCi, kv_gCl, kv_gCr, kv_nb0, kv_nb1, kv_nbi, kv_nb01, Nat.reduceAdd, Nat.reduceLeDiff, g1, st, show ((1 : Int32) = 0) = False from by decide]
            · rw [if_neg g2] at st
              rw [@decide_eq_false _ (Classical.propDecidable _) (show ¬ (kx_sg t L (kw_nx t L (kx_fc t L a q).2.1) = -1 ∧ kx_st (kx_fc t L a q).2.2) from fun s => g2 s.2)]
              simp only [kv_e13_74, kv_e13_75, kv_e13_78, kv_e13_79, kv_e13_82, kv_e13_85, kv_e13_86, kv_e13_89, kv_e13_90, kv_o10, not_false_eq_true, not_true, if_true, if_false, kv_then_s, kv_then_v, kv_then_n, List.cons_append, List.nil_append, kv_Ci, kv_Cr, kv_Cn, kv_Cu, kv_C0, kv_catc, kv_gCi, kv_gCl, kv_gCr, kv_nb0, kv_nb1, kv_nbi, kv_nb01, Nat.reduceAdd, Nat.reduceLeDiff, g1, st, Bool.false_eq_true]
          · rw [@decide_eq_false _ (Classical.propDecidable _) (show ¬ (kx_sg t L (kw_nx t L (kx_fc t L a q).2.1) = -1 ∧ kx_st (kx_fc t L a q).2.2) from fun s => g1 s.1)]
            simp only [kv_e13_74, kv_e13_75, kv_e13_78, kv_e13_79, kv_e13_82, kv_e13_85, kv_e13_86, kv_e13_89, kv_e13_90, kv_o10, not_false_eq_true, not_true, if_true, if_false, kv_then_s, kv_then_v, kv_then_n, List.cons_append, List.nil_append, kv_Ci, kv_Cr, kv_Cn, kv_Cu, kv_C0, kv_catc, kv_gCi, kv_gCl, kv_gCr, kv_nb0, kv_nb1, kv_nbi, kv_nb01, Nat.reduceAdd, Nat.reduceLeDiff, g1, Bool.false_eq_true]
        · have s := @of_decide_eq_true _ (Classical.propDecidable _) s
          exact ⟨k2, hr1, s.2⟩
    · rw [if_neg h] at r1
      rw [kx_fl_3 h]
      refine ⟨z1, ?_, f1, c1, fun s => absurd s (by simp)⟩
      rw [kv_e13_31]
      simp only [kv_e13_32, kv_e13_35, kv_e13_36, kv_e13_39, kv_e13_42, kv_e13_43, kv_e13_46, kv_e13_49, kv_e13_50, kv_e13_51, kv_e13_52, kv_e13_55, kv_e13_57, kv_e13_60, kv_e13_61, kv_e13_64, kv_o10, not_false_eq_true, not_true, if_true, if_false, kv_then_s, kv_then_v, kv_then_n, List.cons_append, List.nil_append, kv_Ci, kv_Cr, kv_Cn, kv_Cu, kv_C0, kv_catc, kv_gCi, kv_gCl, kv_gCr, kv_nb0, kv_nb1, kv_nbi, kv_nb01, Nat.reduceAdd, Nat.reduceLeDiff, g240, r1, Bool.false_eq_true, show ((1 : Int32) = 0) = False from by decide]
/-- as long as nothing is told -/
def kx_q0 : kx_fs := (false, 0, 0, kx_us 0 0, fun _ _ => 0, fun _ _ => 0)
theorem kx_rq0 : kx_rq kx_q0 := ⟨fun j hj => kx_us_in0 ⟨j, hj⟩, fun k hk => absurd hk (Nat.not_lt_zero _), fun j hj => absurd hj (Nat.not_lt_zero _)⟩
noncomputable def kx_FL (t : Nat → Int32) (L : Nat) : Bool × Nat × kx_fs := kx_fl t L 240 0 kx_q0
theorem kx_clearF (hF : kv_isF e 23) : kv_Rn d 7 0 [some (.ref 23)] [] (kv_h e z zl) = some (none, kv_h e (kv_z z 23 (upd (upd (upd (upd (upd (upd (z 23) 0 20) 1 20) 2 50) 3 5) 4 0) 5 0)) zl) := by
  simp only [kv_e7_0, kv_e7_1, kv_e7_3, kv_e7_6, kv_e7_7, kv_e7_9, kv_e7_12, kv_e7_13, kv_e7_15, kv_e7_18, kv_e7_19, kv_e7_20, kv_e7_23, kv_e7_24, kv_e7_25, kv_e7_28, kv_e7_29, kv_e7_30, kv_e7_33, kv_o10, not_false_eq_true, not_true, if_true, if_false, kv_then_s, kv_then_v, kv_then_n, List.cons_append, List.nil_append, kv_Ci, kv_Cr, kv_Cn, kv_Cu, kv_C0, kv_catc, kv_gCi, kv_gCl, kv_gCr, kv_nb0, kv_nb1, kv_nbi, kv_nb01, Nat.reduceAdd, Nat.reduceLeDiff, hF, kv_zs, kw_zz]
theorem kx_sz_kc (w : Nat → Nat → Int32) (a : Nat) (k v : Nat) : kc (kv_sz w a) a k v = 0 := by
  unfold kc
  by_cases h : k < 8 ∧ v < 13
  · rw [if_pos h]
    unfold kv_sz kv_f3 kv_z0
    rw [kv_zne _ _ (show a + 1 ≠ a by omega), kv_zne _ _ (show a + 1 ≠ a by omega), kv_zne _ _ (show a + 1 ≠ a by omega), kv_zs]
    exact if_pos (by omega)
  · rw [if_neg h]
theorem kx_sz_fr (w : Nat → Nat → Int32) {a c : Nat} (h1 : c ≠ a) (h2 : c ≠ a + 1) : kv_sz w a c = w c := by
  unfold kv_sz kv_f3 kv_z0
  rw [kv_zne _ _ h1, kv_zne _ _ h1, kv_zne _ _ h1, kv_zne _ _ h2]
theorem kx_sz_0 (w : Nat → Nat → Int32) (a : Nat) : kv_sz w a a 2 = 0 ∧ kv_sz w a a 3 = 0 ∧ kv_sz w a a 4 = 0 := by
  unfold kv_sz kv_f3
  rw [kv_zs, kv_zs, kv_zs]
  exact ⟨rfl, rfl, rfl⟩
theorem kx_readFK (ht : ∀ i, i < L → kw_rg (t i) 1 255) (h1 : z 1 1 = Int32.ofNat L) (hL : L ≤ 240) (h2 : ∀ i, i < L → z 2 i = t i) : ∃ z', kv_Rn (d + 7) 13 0 [some (.ref 21), none, none] [] (kv_h e z zl) = some (some (.int (if (kx_FL t L).1 = true then 1 else 0)), kv_h e z' zl) ∧ kx_frF z z' ∧ kw_ctK t L (kx_FL t L).2.1 z' ∧ ((kx_FL t L).1 = true → kx_fK (kx_FL t L).2.2 z' ∧ kx_rq (kx_FL t L).2.2 ∧ kx_st (kx_FL t L).2.2) := by
  obtain ⟨y1, e1⟩ : ∃ y, y = kw_aK z 0 := ⟨_, rfl⟩
  obtain ⟨y2, e2⟩ : ∃ y, y = kv_z y1 23 (upd (upd (upd (upd (upd (upd (y1 23) 0 20) 1 20) 2 50) 3 5) 4 0) 5 0) := ⟨_, rfl⟩
  obtain ⟨y3, e3⟩ : ∃ y, y = kv_sz y2 27 := ⟨_, rfl⟩
  obtain ⟨y4, e4⟩ : ∃ y, y = kv_z y3 21 (upd (y3 21) 4 0) := ⟨_, rfl⟩
  have g1 : ∀ c, c ≠ 1 → y1 c = z c := fun c h => by rw [e1]; exact kw_aK_fr _ _ h
  have g2 : ∀ c, c ≠ 23 → y2 c = y1 c := fun c h => by rw [e2]; exact kv_zne _ _ h
  have g3 : ∀ c, c ≠ 27 → c ≠ 28 → y3 c = y2 c := fun c h h' => by rw [e3]; exact kx_sz_fr _ h h'
  have g4 : ∀ c, c ≠ 21 → y4 c = y3 c := fun c h => by rw [e4]; exact kv_zne _ _ h
  have y41 : y4 1 = y1 1 := (g4 1 (by omega)).trans ((g3 1 (by omega) (by omega)).trans (g2 1 (by omega)))
  have y42 : y4 2 = z 2 := (g4 2 (by omega)).trans ((g3 2 (by omega) (by omega)).trans ((g2 2 (by omega)).trans (g1 2 (by omega))))
  have y423 : y4 23 = upd (upd (upd (upd (upd (upd (y1 23) 0 20) 1 20) 2 50) 3 5) 4 0) 5 0 := (g4 23 (by omega)).trans ((g3 23 (by omega) (by omega)).trans (by rw [e2]; exact kv_zs _ _ _))
  have c4 : kw_ctK t L 0 y4 := ⟨⟨by rw [y41, e1]; exact h1, hL⟩, by rw [y41, e1]; rfl, by rw [y42]; exact h2⟩
  have k4 : kx_fK kx_q0 y4 := by
    refine ⟨⟨by rw [e4, kv_zs]; rfl, ?_⟩, ⟨by rw [y423]; rfl, by decide⟩, ⟨by rw [y423]; rfl, by decide⟩, fun j hj => ?_, fun k w => ?_, fun j hj => absurd hj (Nat.not_lt_zero _)⟩
    · rw [g4 27 (by omega), e3]
      exact kx_sz_0 _ _
    · rw [y423]
      rcases (show j = 0 ∨ j = 1 ∨ j = 2 ∨ j = 3 by omega) with rfl | rfl | rfl | rfl <;> rfl
    · rw [show kc y4 27 = kc y3 27 from by unfold kc; rw [g4 28 (by omega)], e3, kx_sz_kc]
      exact (if_neg (Nat.not_lt_zero _)).symm
  obtain ⟨z', r, f, c, k⟩ := kx_flK (d := d) (e := e) (zl := zl) ht 240 0 0 kx_q0 y4 (by omega) (by omega) (by omega) c4 k4 kx_rq0
  refine ⟨z', ?_, kx_frF_tr (fun c a1 a2 => (g4 c (by omega)).trans ((g3 c (by omega) (by omega)).trans ((g2 c (by omega)).trans (g1 c a1)))) f, c, k⟩
  unfold kx_FL
  rw [← r]
  have ea : kv_z z 1 (upd (z 1) 2 0) = y1 := e1.symm
  have cf := kx_clearF (d := d + 6) (e := e) (z := y1) (zl := zl) (kv_isF23 e)
  have cs := kv_clearS (d := d + 6) (e := e) (z := y2) (zl := zl) (kv_isS27 e)
  rw [← e2] at cf
  rw [← e3] at cs
  simp only [kv_e13_0, kv_e13_1, kv_e13_4, kv_e13_5, kv_e13_8, kv_e13_9, kv_e13_12, kv_e13_15, kv_e13_16, kv_e13_19, kv_e13_22, kv_e13_23, kv_e13_24_0, kv_e13_24_1, kv_e13_27, kv_e13_28, kv_e13_29, kv_e13_30, kv_o10, not_false_eq_true, not_true, if_true, if_false, kv_then_s, kv_then_v, kv_then_n, List.cons_append, List.nil_append, kv_Ci, kv_Cr, kv_Cn, kv_Cu, kv_C0, kv_catc, kv_gCi, kv_gCl, kv_gCr, kv_nb0, kv_nb1, kv_nbi, kv_nb01, Nat.reduceAdd, Nat.reduceLeDiff, ea, kv_isF23, kv_isS27, cf, cs, ← e4]
  rfl
end
