/-! fields as texts: the model's clauses -/
section
variable {d L a : Nat} {t : Nat → Int32} {z : Nat → Nat → Int32} {zl : Nat → Nat → Int64}
def kx_frR (z z' : Nat → Nat → Int32) : Prop := (∀ c, c ≠ 0 → c ≠ 11 → c ≠ 12 → c ≠ 13 → z' c = z c) ∧ ∀ j, j ≠ 3 → j ≠ 4 → j ≠ 20 → j ≠ 21 → z' 0 j = z 0 j
theorem kx_frR_tr {z z1 z2 : Nat → Nat → Int32} (h : kx_frR z z1) (g : kx_frR z1 z2) : kx_frR z z2 := ⟨fun c a1 a2 a3 a4 => (g.1 c a1 a2 a3 a4).trans (h.1 c a1 a2 a3 a4), fun j a1 a2 a3 a4 => (g.2 j a1 a2 a3 a4).trans (h.2 j a1 a2 a3 a4)⟩
theorem kx_frR_f {j : Nat} {x : Int32} (hj : j = 3 ∨ j = 4 ∨ j = 20 ∨ j = 21) : kx_frR z (kx_f z j x) := ⟨fun c a1 _ _ _ => kx_f_fr _ _ _ a1, fun i _ _ _ _ => kx_f_ne _ _ (by omega)⟩
theorem kx_frR_a {b : Nat} : kx_frR z (kx_a z b) := kx_frR_f (Or.inl rfl)
theorem kx_frR_I {A F m : Nat} {z' : Nat → Nat → Int32} (hA : A = 11 ∨ A = 12 ∨ A = 13) (h : kx_frI A F m z z') : kx_frR z z' := ⟨fun c a1 a2 a3 a4 => h.1 c a1 (by omega), fun j a1 a2 _ _ => h.2.1 j a1 a2⟩
/-- what a clause does, there -/
def kx_RM (t : Nat → Int32) (L : Nat) (r : Nat × Nat × kx_fs) (l : Int32) (z z' : Nat → Nat → Int32) : Prop := kx_frR z z' ∧ z' 0 4 = (if r.1 = 2 then Int32.ofNat r.2.1 else -1) ∧ (¬ r.1 = 2 → kx_ctM t L r.2.1 z') ∧ (r.1 = 0 → kx_fM r.2.2 z' ∧ l = (if r.2.2.1 = true then 1 else 0))
theorem kx_clauseFM {q : kx_fs} (ha : a ≤ L) (hc : kx_ctM t L a z) (hw : z 0 4 = -1) (hq : kx_fM q z) (u : Option Value) : ∃ z' l c, kv_Rn (d + 4) 189 50 [some (.ref 0), some (.int (if q.1 = true then 1 else 0)), some (.int 1), u] [] (kv_m z zl) = kv_Rn (d + 4) 189 223 [some (.ref 0), some (.int l), some (.int 1), some (.int c)] [] (kv_m z' zl) ∧ kx_RM t L (kx_fc t L a q) l z z' := by
  have hL := hc.1.2
  have lk := kx_look (d := d + 2) (zl := zl) (show a ≤ 100000 by omega) hc
  have n1 := kw_nx_le t L a
  have n2 := kw_nx_L (t := t) ha
  have wa : ∀ b, kx_a z b 0 4 = -1 := fun b => (kx_a_ne _ _ (by omega)).trans hw
  have a20 : ∀ b, kx_a z b 0 20 = Int32.ofNat q.2.1 := fun b => (kx_a_ne _ _ (by omega)).trans hq.1.1
  have a21 : ∀ b, kx_a z b 0 21 = Int32.ofNat q.2.2.1 := fun b => (kx_a_ne _ _ (by omega)).trans hq.2.1.1
  have n8 := hq.1.2
  have m6 := hq.2.1.2
  have l8 : ((8 : Int32) ≤ Int32.ofNat q.2.1) = (8 ≤ q.2.1) := kv_nle (a := 8) (by omega) (by omega)
  have l6 : ((6 : Int32) ≤ Int32.ofNat q.2.2.1) = (6 ≤ q.2.2.1) := kv_nle (a := 6) (by omega) (by omega)
  obtain ⟨⟨h20, -⟩, ⟨h21, -⟩, hF, hK, hA⟩ := hq
  unfold kx_fc
  by_cases h1 : kx_sg t L (kw_nx t L a) = 102 ∧ q.1 = false
  · have hlt := kx_sg_ne (t := t) (L := L) (a := kw_nx t L a) (fun s => absurd (h1.1.symm.trans s) (by decide))
    rw [if_pos h1]
    obtain ⟨z2, r2, f2, w2, c2, v2⟩ := kx_itemsM (d := d) (zl := zl) (t := t) (L := L) (g := 0) (A := 11) (F := 0) (k := 0) (by omega) ⟨by omega, by omega⟩ (by rw [kv_am11]; decide) (by omega) (Or.inl rfl) (show kw_nx t L a + 1 ≤ L by omega) (kx_ctM_a (b := kw_nx t L a + 1) hc) (wa _)
    have r2 : kv_Rn (d + 3) 187 0 [some (.ref 0), some (.int 102), some (.ref 11), some (.int 0), some (.int 4), some (.int 0), none, none] [] (kv_m (kx_a z (kw_nx t L a + 1)) zl) = some (none, kv_m z2 zl) := r2
    rw [show kx_ct 0 + 1 = 5 from rfl] at w2 c2 v2
    have fr := kx_frR_tr (kx_frR_a (z := z) (b := kw_nx t L a + 1)) (kx_frR_I (Or.inl rfl) f2)
    refine ⟨z2, 1, 102, ?_, fr, w2, c2, fun s => ⟨⟨⟨?_, n8⟩, ⟨?_, m6⟩, fun j hj => ?_, ?_, ?_⟩, rfl⟩⟩
    · rw [kv_e189_50, h1.2]
      simp only [kv_e189_51, kv_e189_54, kv_e189_55, kv_e189_58, kv_e189_59, kv_e189_62, kv_e189_63, kv_e189_66, kv_e189_67, kv_e189_68, kv_e189_70, kv_e189_73, kv_e189_74, kv_e189_77, kv_e189_78, kv_e189_79, kv_e189_80, kv_e189_81, kv_e189_84, kv_e189_85, kv_e189_86, kv_e189_89, kv_e189_90, kv_e189_91, kv_e189_92, kv_e189_95, kv_e189_96, kv_e189_97, kv_e189_98, kv_e189_101, kv_o10, not_false_eq_true, not_true, if_true, if_false, kv_then_s, kv_then_v, kv_then_n, List.cons_append, List.nil_append, kv_Ci, kv_Cr, kv_Cn, kv_Cu, kv_C0, kv_catc, kv_gCi, kv_gCl, kv_gCr, kv_nb0, kv_nb1, kv_nbi, kv_nb01, Nat.reduceAdd, Nat.reduceLeDiff, hw, lk, h1.1, show ((1 : Int32) = 0) = False from by decide, Bool.false_eq_true, kx_a_at, kv_suc, kx_fd, kx_fa, r2]
    · exact (f2.2.1 20 (by omega) (by omega)).trans (a20 _)
    · exact (f2.2.1 21 (by omega) (by omega)).trans (a21 _)
    · have := v2 s j hj
      rw [Nat.zero_add] at this
      exact this
    · rw [f2.1 12 (by omega) (by omega), kx_a_fr _ _ (by omega)]
      exact hK
    · rw [f2.1 13 (by omega) (by omega), kx_a_fr _ _ (by omega)]
      exact hA
  · rw [if_neg h1]
    by_cases h2 : kx_sg t L (kw_nx t L a) = 107 ∧ q.2.1 < 8
    · have hlt := kx_sg_ne (t := t) (L := L) (a := kw_nx t L a) (fun s => absurd (h2.1.symm.trans s) (by decide))
      rw [if_pos h2]
      obtain ⟨z2, r2, f2, w2, c2, v2⟩ := kx_itemsM (d := d) (zl := zl) (t := t) (L := L) (g := 1) (A := 12) (F := 8 * q.2.1) (k := q.2.1) (by omega) ⟨by omega, by omega⟩ (by rw [kv_am12, show kx_ct 1 = 8 from rfl]; omega) (by omega) (Or.inr rfl) (show kw_nx t L a + 1 ≤ L by omega) (kx_ctM_a (b := kw_nx t L a + 1) hc) (wa _)
      have r2 : kv_Rn (d + 3) 187 0 [some (.ref 0), some (.int 107), some (.ref 12), some (.int (Int32.ofNat (8 * q.2.1))), some (.int 8), some (.int (Int32.ofNat q.2.1)), none, none] [] (kv_m (kx_a z (kw_nx t L a + 1)) zl) = some (none, kv_m z2 zl) := r2
      rw [show kx_ct 1 + 1 = 9 from rfl] at w2 c2 v2
      generalize kx_it t L 1 9 (kw_nx t L a + 1) 0 (kx_us 1 q.2.1) = R at *
      have e8 : (8 : Int32) * Int32.ofNat q.2.1 = Int32.ofNat (8 * q.2.1) := by rw [show (8 : Int32) = Int32.ofNat 8 from rfl, kw_mulN]
      have y20 : z2 0 20 = Int32.ofNat q.2.1 := (f2.2.1 20 (by omega) (by omega)).trans (a20 _)
      have fr := kx_frR_tr (kx_frR_tr (kx_frR_a (z := z) (b := kw_nx t L a + 1)) (kx_frR_I (Or.inr (Or.inl rfl)) f2)) (kx_frR_f (j := 20) (x := Int32.ofNat (q.2.1 + 1)) (by omega))
      refine ⟨kx_f z2 20 (Int32.ofNat (q.2.1 + 1)), if q.1 = true then 1 else 0, 107, ?_, fr, by rw [kx_f_ne _ _ (by omega)]; exact w2, fun s => kx_ctM_j (c2 s) (by omega), fun s => ⟨⟨⟨kx_f_at _ _ _, by dsimp only; omega⟩, ⟨?_, m6⟩, ?_, fun k hk i hi => ?_, ?_⟩, rfl⟩⟩
      · rw [kv_e189_50]
        simp only [kv_e189_51, kv_e189_54, kv_e189_55, kv_e189_58, kv_e189_59, kv_e189_62, kv_e189_63, kv_e189_66, kv_e189_67, kv_e189_68, kv_e189_70, kv_e189_104, kv_e189_105, kv_e189_107, kv_e189_110, kv_e189_111, kv_e189_114, kv_e189_116, kv_e189_119, kv_e189_120, kv_e189_121, kv_e189_124, kv_e189_125, kv_e189_126, kv_e189_129, kv_e189_130, kv_e189_131, kv_e189_132, kv_e189_135, kv_e189_137, kv_e189_138, kv_e189_141, kv_e189_142, kv_e189_144, kv_e189_145, kv_e189_148, kv_e189_151, kv_e189_152, kv_e189_153, kv_e189_156, kv_e189_157, kv_e189_158, kv_e189_161, kv_o10, not_false_eq_true, not_true, if_true, if_false, kv_then_s, kv_then_v, kv_then_n, List.cons_append, List.nil_append, kv_Ci, kv_Cr, kv_Cn, kv_Cu, kv_C0, kv_catc, kv_gCi, kv_gCl, kv_gCr, kv_nb0, kv_nb1, kv_nbi, kv_nb01, Nat.reduceAdd, Nat.reduceLeDiff, hw, lk, h2.1, show ((107 : Int32) = 102) = False from by decide, show ((102 : Int32) = 107) = False from by decide, show ((1 : Int32) = 0) = False from by decide, kx_a_at, kv_suc, kx_fd, kx_fa, a20, l8, eq_false (show ¬ 8 ≤ q.2.1 by omega), e8, r2, y20]
      · exact (kx_f_ne _ _ (by omega)).trans ((f2.2.1 21 (by omega) (by omega)).trans (a21 _))
      · rw [kx_f_fr _ _ _ (by omega), f2.1 11 (by omega) (by omega), kx_a_fr _ _ (by omega)]
        exact hF
      · dsimp only at hk ⊢
        rw [kx_f_fr _ _ _ (by omega)]
        unfold kx_up
        by_cases qk : k = q.2.1
        · rw [if_pos qk, qk]
          exact v2 s i hi
        · rw [if_neg qk, f2.2.2 (8 * k + i) (by omega), kx_a_fr _ _ (by omega)]
          exact hK k (by omega) i hi
      · rw [kx_f_fr _ _ _ (by omega), f2.1 13 (by omega) (by omega), kx_a_fr _ _ (by omega)]
        exact hA
    · rw [if_neg h2]
      by_cases h3 : kx_sg t L (kw_nx t L a) = 97 ∧ q.2.2.1 < 6
      · have hlt := kx_sg_ne (t := t) (L := L) (a := kw_nx t L a) (fun s => absurd (h3.1.symm.trans s) (by decide))
        rw [if_pos h3]
        obtain ⟨z2, r2, f2, w2, c2, v2⟩ := kx_itemsM (d := d) (zl := zl) (t := t) (L := L) (g := 2) (A := 13) (F := 3 * q.2.2.1) (k := 0) (by omega) ⟨by omega, by omega⟩ (by rw [kv_am13, show kx_ct 2 = 3 from rfl]; omega) (by omega) (Or.inl rfl) (show kw_nx t L a + 1 ≤ L by omega) (kx_ctM_a (b := kw_nx t L a + 1) hc) (wa _)
        have r2 : kv_Rn (d + 3) 187 0 [some (.ref 0), some (.int 97), some (.ref 13), some (.int (Int32.ofNat (3 * q.2.2.1))), some (.int 3), some (.int 0), none, none] [] (kv_m (kx_a z (kw_nx t L a + 1)) zl) = some (none, kv_m z2 zl) := r2
        rw [show kx_ct 2 + 1 = 4 from rfl] at w2 c2 v2
        generalize kx_it t L 2 4 (kw_nx t L a + 1) 0 (kx_us 2 0) = R at *
        have e3 : (3 : Int32) * Int32.ofNat q.2.2.1 = Int32.ofNat (3 * q.2.2.1) := by rw [show (3 : Int32) = Int32.ofNat 3 from rfl, kw_mulN]
        have y21 : z2 0 21 = Int32.ofNat q.2.2.1 := (f2.2.1 21 (by omega) (by omega)).trans (a21 _)
        have fr := kx_frR_tr (kx_frR_tr (kx_frR_a (z := z) (b := kw_nx t L a + 1)) (kx_frR_I (Or.inr (Or.inr rfl)) f2)) (kx_frR_f (j := 21) (x := Int32.ofNat (q.2.2.1 + 1)) (by omega))
        refine ⟨kx_f z2 21 (Int32.ofNat (q.2.2.1 + 1)), if q.1 = true then 1 else 0, 97, ?_, fr, by rw [kx_f_ne _ _ (by omega)]; exact w2, fun s => kx_ctM_j (c2 s) (by omega), fun s => ⟨⟨⟨?_, n8⟩, ⟨kx_f_at _ _ _, by dsimp only; omega⟩, ?_, ?_, fun k hk i hi => ?_⟩, rfl⟩⟩
        · rw [kv_e189_50]
          simp only [kv_e189_51, kv_e189_54, kv_e189_55, kv_e189_58, kv_e189_59, kv_e189_62, kv_e189_63, kv_e189_66, kv_e189_67, kv_e189_68, kv_e189_70, kv_e189_104, kv_e189_105, kv_e189_107, kv_e189_164, kv_e189_165, kv_e189_167, kv_e189_170, kv_e189_171, kv_e189_174, kv_e189_176, kv_e189_179, kv_e189_180, kv_e189_181, kv_e189_184, kv_e189_185, kv_e189_186, kv_e189_189, kv_e189_190, kv_e189_191, kv_e189_192, kv_e189_195, kv_e189_196, kv_e189_197, kv_e189_200, kv_e189_201, kv_e189_202, kv_e189_203, kv_e189_206, kv_e189_207, kv_e189_208, kv_e189_211, kv_e189_212, kv_e189_213, kv_e189_216, kv_o10, not_false_eq_true, not_true, if_true, if_false, kv_then_s, kv_then_v, kv_then_n, List.cons_append, List.nil_append, kv_Ci, kv_Cr, kv_Cn, kv_Cu, kv_C0, kv_catc, kv_gCi, kv_gCl, kv_gCr, kv_nb0, kv_nb1, kv_nbi, kv_nb01, Nat.reduceAdd, Nat.reduceLeDiff, hw, lk, h3.1, show ((97 : Int32) = 107) = False from by decide, show ((97 : Int32) = 102) = False from by decide, show ((107 : Int32) = 97) = False from by decide, show ((107 : Int32) = 102) = False from by decide, show ((102 : Int32) = 97) = False from by decide, show ((102 : Int32) = 107) = False from by decide, show ((1 : Int32) = 0) = False from by decide, kx_a_at, kv_suc, kx_fd, kx_fa, a21, l6, eq_false (show ¬ 6 ≤ q.2.2.1 by omega), e3, r2, y21]
        · exact (kx_f_ne _ _ (by omega)).trans ((f2.2.1 20 (by omega) (by omega)).trans (a20 _))
        · rw [kx_f_fr _ _ _ (by omega), f2.1 11 (by omega) (by omega), kx_a_fr _ _ (by omega)]
          exact hF
        · rw [kx_f_fr _ _ _ (by omega), f2.1 12 (by omega) (by omega), kx_a_fr _ _ (by omega)]
          exact hK
        · dsimp only at hk ⊢
          rw [kx_f_fr _ _ _ (by omega)]
          unfold kx_up
          by_cases qk : k = q.2.2.1
          · rw [if_pos qk, qk]
            exact v2 s i hi
          · rw [if_neg qk, f2.2.2 (3 * k + i) (by omega), kx_a_fr _ _ (by omega)]
            exact hA k (by omega) i hi
      · rw [if_neg h3]
        refine ⟨kx_f (kx_a z (kw_nx t L a)) 4 (Int32.ofNat (kw_nx t L a)), if q.1 = true then 1 else 0, kx_sg t L (kw_nx t L a), ?_, kx_frR_tr kx_frR_a (kx_frR_f (by omega)), kx_f_at _ _ _, fun s => absurd rfl s, fun s => absurd s (by simp)⟩
        rw [kv_e189_50]
        by_cases s1 : kx_sg t L (kw_nx t L a) = 102
        · have ql : q.1 = true := by
            cases hb : q.1 with
            | true => rfl
            | false => exact absurd ⟨s1, hb⟩ h1
          simp only [kv_e189_51, kv_e189_54, kv_e189_55, kv_e189_58, kv_e189_59, kv_e189_62, kv_e189_63, kv_e189_66, kv_e189_67, kv_e189_68, kv_e189_70, kv_e189_73, kv_e189_74, kv_e189_104, kv_e189_105, kv_e189_107, kv_e189_164, kv_e189_165, kv_e189_167, kv_e189_219, kv_e189_220, kv_o10, not_false_eq_true, not_true, if_true, if_false, kv_then_s, kv_then_v, kv_then_n, List.cons_append, List.nil_append, kv_Ci, kv_Cr, kv_Cn, kv_Cu, kv_C0, kv_catc, kv_gCi, kv_gCl, kv_gCr, kv_nb0, kv_nb1, kv_nbi, kv_nb01, Nat.reduceAdd, Nat.reduceLeDiff, hw, lk, s1, ql, show ((102 : Int32) = 107) = False from by decide, show ((102 : Int32) = 97) = False from by decide, show ((107 : Int32) = 102) = False from by decide, show ((107 : Int32) = 97) = False from by decide, show ((97 : Int32) = 102) = False from by decide, show ((97 : Int32) = 107) = False from by decide, show ((1 : Int32) = 0) = False from by decide, kx_bad (wa _), kx_a_at]
        · by_cases s2 : kx_sg t L (kw_nx t L a) = 107
          · have := (show ¬ q.2.1 < 8 from fun s => h2 ⟨s2, s⟩)
            simp only [kv_e189_51, kv_e189_54, kv_e189_55, kv_e189_58, kv_e189_59, kv_e189_62, kv_e189_63, kv_e189_66, kv_e189_67, kv_e189_68, kv_e189_70, kv_e189_73, kv_e189_74, kv_e189_104, kv_e189_105, kv_e189_107, kv_e189_110, kv_e189_111, kv_e189_114, kv_e189_116, kv_e189_164, kv_e189_165, kv_e189_167, kv_e189_219, kv_e189_220, kv_o10, not_false_eq_true, not_true, if_true, if_false, kv_then_s, kv_then_v, kv_then_n, List.cons_append, List.nil_append, kv_Ci, kv_Cr, kv_Cn, kv_Cu, kv_C0, kv_catc, kv_gCi, kv_gCl, kv_gCr, kv_nb0, kv_nb1, kv_nbi, kv_nb01, Nat.reduceAdd, Nat.reduceLeDiff, hw, lk, s2, show ((102 : Int32) = 107) = False from by decide, show ((102 : Int32) = 97) = False from by decide, show ((107 : Int32) = 102) = False from by decide, show ((107 : Int32) = 97) = False from by decide, show ((97 : Int32) = 102) = False from by decide, show ((97 : Int32) = 107) = False from by decide, show ((1 : Int32) = 0) = False from by decide, a20, l8, eq_true (show 8 ≤ q.2.1 by omega), kx_bad (wa _), kx_a_at]
          · by_cases s3 : kx_sg t L (kw_nx t L a) = 97
            · have := (show ¬ q.2.2.1 < 6 from fun s => h3 ⟨s3, s⟩)
              simp only [kv_e189_51, kv_e189_54, kv_e189_55, kv_e189_58, kv_e189_59, kv_e189_62, kv_e189_63, kv_e189_66, kv_e189_67, kv_e189_68, kv_e189_70, kv_e189_73, kv_e189_74, kv_e189_104, kv_e189_105, kv_e189_107, kv_e189_164, kv_e189_165, kv_e189_167, kv_e189_170, kv_e189_171, kv_e189_174, kv_e189_176, kv_e189_219, kv_e189_220, kv_o10, not_false_eq_true, not_true, if_true, if_false, kv_then_s, kv_then_v, kv_then_n, List.cons_append, List.nil_append, kv_Ci, kv_Cr, kv_Cn, kv_Cu, kv_C0, kv_catc, kv_gCi, kv_gCl, kv_gCr, kv_nb0, kv_nb1, kv_nbi, kv_nb01, Nat.reduceAdd, Nat.reduceLeDiff, hw, lk, s3, show ((102 : Int32) = 107) = False from by decide, show ((102 : Int32) = 97) = False from by decide, show ((107 : Int32) = 102) = False from by decide, show ((107 : Int32) = 97) = False from by decide, show ((97 : Int32) = 102) = False from by decide, show ((97 : Int32) = 107) = False from by decide, show ((1 : Int32) = 0) = False from by decide, a21, l6, eq_true (show 6 ≤ q.2.2.1 by omega), kx_bad (wa _), kx_a_at]
            · simp only [kv_e189_51, kv_e189_54, kv_e189_55, kv_e189_58, kv_e189_59, kv_e189_62, kv_e189_63, kv_e189_66, kv_e189_67, kv_e189_68, kv_e189_70, kv_e189_73, kv_e189_74, kv_e189_104, kv_e189_105, kv_e189_107, kv_e189_164, kv_e189_165, kv_e189_167, kv_e189_219, kv_e189_220, kv_o10, not_false_eq_true, not_true, if_true, if_false, kv_then_s, kv_then_v, kv_then_n, List.cons_append, List.nil_append, kv_Ci, kv_Cr, kv_Cn, kv_Cu, kv_C0, kv_catc, kv_gCi, kv_gCl, kv_gCr, kv_nb0, kv_nb1, kv_nbi, kv_nb01, Nat.reduceAdd, Nat.reduceLeDiff, hw, lk, s1, s2, s3, show ((1 : Int32) = 0) = False from by decide, kx_bad (wa _), kx_a_at]
end
