/-! fields as texts: the class's kites, airs, clauses -/
section
variable {d L a : Nat} {e : List kv_E} {t : Nat → Int32} {z : Nat → Nat → Int32} {zl : Nat → Nat → Int64}
theorem kx_fKiteK (ht : ∀ i, i < L → kw_rg (t i) 1 255) {q : kx_fs} (ha : a < L) (hc : kw_ctK t L a z) (hq : kx_fK q z) (hn : q.2.1 < 8) : ∃ z', kv_Rn (d + 5) 16 0 [some (.ref 21), none] [] (kv_h e z zl) = some (some (.int (if (kx_it t L 1 9 (a + 1) 0 (kx_us 1 q.2.1)).1 = 0 then 1 else 0)), kv_h e z' zl) ∧ kx_RK t L ((kx_it t L 1 9 (a + 1) 0 (kx_us 1 q.2.1)).1, (kx_it t L 1 9 (a + 1) 0 (kx_us 1 q.2.1)).2.1, (q.1, q.2.1 + 1, q.2.2.1, q.2.2.2.1, kx_up q.2.2.2.2.1 q.2.1 (kx_it t L 1 9 (a + 1) 0 (kx_us 1 q.2.1)).2.2, q.2.2.2.2.2)) z z' := by
  obtain ⟨⟨q0, q1⟩, ⟨q2, q2'⟩, ⟨q3, q3'⟩, q4, q5, q6⟩ := hq
  generalize q.2.1 = n at *
  obtain ⟨f, rp, fp, fp4⟩ := kx_presetK (d := d + 4) (e := e) (z := z) (zl := zl) (Int32.ofNat n) 3 40 0
  have c2 : kw_ctK t L a (kv_z z 22 f) := kx_ct_fr hc (kv_zne _ _ (by omega)) (kv_zne _ _ (by omega))
  obtain ⟨z3, r3, f3, c3, v3⟩ := kx_itemsK (d := d) (e := e) (zl := zl) ht (g := 1) (by omega) (vs := kx_us 1 n) ha c2 (fun i hi => by rw [kv_zs]; exact kx_usOf fp fp4 i hi)
  rw [show 306 + 1 = 307 from rfl, show 300 + 2 * 1 = 302 from rfl, show 302 + 1 = 303 from rfl, show kx_ct 1 + 1 = 9 from rfl] at r3
  rw [show kx_ct 1 + 1 = 9 from rfl] at c3 v3
  generalize kx_it t L 1 9 (a + 1) 0 (kx_us 1 n) = R at *
  have g3 : ∀ c, c ≠ 1 → c ≠ 22 → z3 c = z c := fun c a1 a2 => (f3 c a1 a2).trans (kv_zne _ _ a2)
  by_cases qo : R.1 = 0
  · rw [if_pos qo] at r3 ⊢
    have v3 := v3 qo
    obtain ⟨y1, e1⟩ : ∃ y, y = kv_su z3 27 (Int32.ofNat n) 0 (z3 22 0) := ⟨_, rfl⟩
    obtain ⟨y2, e2⟩ : ∃ y, y = kv_su y1 27 (Int32.ofNat n) 1 (z3 22 1) := ⟨_, rfl⟩
    obtain ⟨y3, e3⟩ : ∃ y, y = kv_su y2 27 (Int32.ofNat n) 2 (z3 22 2) := ⟨_, rfl⟩
    obtain ⟨y4, e4⟩ : ∃ y, y = kv_su y3 27 (Int32.ofNat n) 4 (z3 22 3) := ⟨_, rfl⟩
    obtain ⟨y5, e5⟩ : ∃ y, y = kv_su y4 27 (Int32.ofNat n) 3 (z3 22 3) := ⟨_, rfl⟩
    obtain ⟨y6, e6⟩ : ∃ y, y = kv_su y5 27 (Int32.ofNat n) 5 (z3 22 4) := ⟨_, rfl⟩
    obtain ⟨y7, e7⟩ : ∃ y, y = kv_su y6 27 (Int32.ofNat n) 6 (z3 22 5) := ⟨_, rfl⟩
    obtain ⟨y8, e8⟩ : ∃ y, y = kv_su y7 27 (Int32.ofNat n) 7 (z3 22 6) := ⟨_, rfl⟩
    obtain ⟨y9, e9⟩ : ∃ y, y = kv_su y8 27 (Int32.ofNat n) 8 (z3 22 7) := ⟨_, rfl⟩
    obtain ⟨y10, e10⟩ : ∃ y, y = kv_su y9 27 (Int32.ofNat n) 11 1 := ⟨_, rfl⟩
    have h1 : ∀ c, c ≠ 28 → y1 c = z3 c := fun c h => by rw [e1]; exact kw_su_fr _ _ _ _ _ h
    have h2 : ∀ c, c ≠ 28 → y2 c = z3 c := fun c h => by rw [e2]; exact (kw_su_fr _ _ _ _ _ h).trans (h1 c h)
    have h3 : ∀ c, c ≠ 28 → y3 c = z3 c := fun c h => by rw [e3]; exact (kw_su_fr _ _ _ _ _ h).trans (h2 c h)
    have h4 : ∀ c, c ≠ 28 → y4 c = z3 c := fun c h => by rw [e4]; exact (kw_su_fr _ _ _ _ _ h).trans (h3 c h)
    have h5 : ∀ c, c ≠ 28 → y5 c = z3 c := fun c h => by rw [e5]; exact (kw_su_fr _ _ _ _ _ h).trans (h4 c h)
    have h6 : ∀ c, c ≠ 28 → y6 c = z3 c := fun c h => by rw [e6]; exact (kw_su_fr _ _ _ _ _ h).trans (h5 c h)
    have h7 : ∀ c, c ≠ 28 → y7 c = z3 c := fun c h => by rw [e7]; exact (kw_su_fr _ _ _ _ _ h).trans (h6 c h)
    have h8 : ∀ c, c ≠ 28 → y8 c = z3 c := fun c h => by rw [e8]; exact (kw_su_fr _ _ _ _ _ h).trans (h7 c h)
    have h9 : ∀ c, c ≠ 28 → y9 c = z3 c := fun c h => by rw [e9]; exact (kw_su_fr _ _ _ _ _ h).trans (h8 c h)
    have h10 : ∀ c, c ≠ 28 → y10 c = z3 c := fun c h => by rw [e10]; exact (kw_su_fr _ _ _ _ _ h).trans (h9 c h)
    have k10 : kc y10 27 = kv_pt (kv_pt (kv_pt (kv_pt (kv_pt (kv_pt (kv_pt (kv_pt (kv_pt (kv_pt (kc z3 27) n 0 (z3 22 0)) n 1 (z3 22 1)) n 2 (z3 22 2)) n 4 (z3 22 3)) n 3 (z3 22 3)) n 5 (z3 22 4)) n 6 (z3 22 5)) n 7 (z3 22 6)) n 8 (z3 22 7)) n 11 1 := by
      rw [e10, kw_sk11 _ _ hn, e9, kw_sk8 _ _ hn, e8, kw_sk7 _ _ hn, e7, kw_sk6 _ _ hn, e6, kw_sk5 _ _ hn, e5, kw_sk3 _ _ hn, e4, kw_sk4 _ _ hn, e3, kw_sk2 _ _ hn, e2, kw_sk1 _ _ hn, e1, kw_sk0 _ _ hn]
    obtain ⟨z4, e11⟩ : ∃ z4, z4 = kv_z y10 23 (upd (y10 23) 4 (Int32.ofNat (n + 1))) := ⟨_, rfl⟩
    have f4 : ∀ c, c ≠ 23 → z4 c = y10 c := fun c h => by rw [e11]; exact kv_zne _ _ h
    have f23 : z4 23 = upd (y10 23) 4 (Int32.ofNat (n + 1)) := by rw [e11]; exact kv_zs _ _ _
    have gg : ∀ c, c ≠ 1 → c ≠ 22 → c ≠ 23 → c ≠ 28 → z4 c = z c := fun c a1 a2 a3 a4 => (f4 c a3).trans ((h10 c a4).trans (g3 c a1 a2))
    refine ⟨z4, ?_, fun c a1 a2 => gg c a1 (by omega) (by omega) (by omega), kx_ct_fr c3 ((f4 1 (by omega)).trans (h10 1 (by omega))) ((f4 2 (by omega)).trans (h10 2 (by omega))), fun _ => ?_⟩
    · have aw22 : kv_aw (kv_shK ++ e) 22 = 8 := kv_aw_k e rfl (by decide)
      have r22 : ∀ (w : Nat → Nat → Int32) j, kv_rd w 22 j = w 22 j := fun w j => kv_rd_lt (by omega)
      have z23 : y10 23 4 = Int32.ofNat n := by rw [h10 23 (by omega), g3 23 (by omega) (by omega)]; exact q2
      simp only [kv_e16_0, kv_e16_1, kv_e16_4, kv_e16_7, kv_e16_8, kv_e16_9, kv_e16_10, kv_e16_11, kv_e16_13, kv_e16_14, kv_e16_17, kv_e16_18, kv_e16_20, kv_e16_23, kv_e16_26, kv_e16_29, kv_e16_32, kv_e16_33, kv_e16_34, kv_e16_35, kv_e16_38, kv_e16_39, kv_e16_40, kv_e16_41, kv_e16_44, kv_e16_45, kv_e16_46, kv_e16_49, kv_e16_50, kv_e16_53, kv_e16_54, kv_e16_55, kv_e16_56, kv_e16_59, kv_e16_60, kv_e16_61, kv_e16_64, kv_e16_65, kv_e16_68, kv_e16_69, kv_e16_70, kv_e16_71, kv_e16_74, kv_e16_75, kv_e16_76, kv_e16_79, kv_e16_80, kv_e16_83, kv_e16_84, kv_e16_85, kv_e16_86, kv_e16_89, kv_e16_90, kv_e16_91, kv_e16_94, kv_e16_95, kv_e16_98, kv_e16_99, kv_e16_100, kv_e16_101, kv_e16_104, kv_e16_105, kv_e16_106, kv_e16_109, kv_e16_110, kv_e16_113, kv_e16_114, kv_e16_115, kv_e16_116, kv_e16_119, kv_e16_120, kv_e16_121, kv_e16_124, kv_e16_125, kv_e16_128, kv_e16_129, kv_e16_131, kv_e16_132, kv_e16_135, kv_e16_136, kv_e16_137, kv_e16_140, kv_e16_141, kv_e16_144, kv_e16_145, kv_e16_147, kv_e16_148, kv_e16_151, kv_e16_153, kv_e16_154, kv_e16_157, kv_e16_158, kv_e16_161, kv_e16_162, kv_e16_164, kv_e16_165, kv_e16_168, kv_e16_170, kv_e16_171, kv_e16_174, kv_e16_175, kv_e16_178, kv_e16_179, kv_e16_181, kv_e16_182, kv_e16_185, kv_e16_186, kv_e16_189, kv_e16_190, kv_e16_193, kv_e16_194, kv_e16_195, kv_e16_198, kv_e16_199, kv_o10, not_false_eq_true, not_true, if_true, if_false, kv_then_s, kv_then_v, kv_then_n, List.cons_append, List.nil_append, kv_Ci, kv_Cr, kv_Cn, kv_Cu, kv_C0, kv_catc, kv_gCi, kv_gCl, kv_gCr, kv_nb0, kv_nb1, kv_nbi, kv_nb01, Nat.reduceAdd, Nat.reduceLeDiff, q2, rp, r3, kv_isF23, kv_isS27, aw22, kv_ar_lt (show 22 < 300 by omega), r22, Int32.lt_irrefl, false_or, show (0 : Int32).toNatClampNeg = 0 from rfl, show (1 : Int32).toNatClampNeg = 1 from rfl, show (2 : Int32).toNatClampNeg = 2 from rfl, show (3 : Int32).toNatClampNeg = 3 from rfl, show (4 : Int32).toNatClampNeg = 4 from rfl, show (5 : Int32).toNatClampNeg = 5 from rfl, show (6 : Int32).toNatClampNeg = 6 from rfl, show (7 : Int32).toNatClampNeg = 7 from rfl, show ((1 : Int32) < 0) = False from by decide, show ((2 : Int32) < 0) = False from by decide, show ((3 : Int32) < 0) = False from by decide, show ((4 : Int32) < 0) = False from by decide, show ((5 : Int32) < 0) = False from by decide, show ((6 : Int32) < 0) = False from by decide, show ((7 : Int32) < 0) = False from by decide, show (8 ≤ 0) = False from by decide, show (8 ≤ 1) = False from by decide, show (8 ≤ 2) = False from by decide, show (8 ≤ 3) = False from by decide, show (8 ≤ 4) = False from by decide, show (8 ≤ 5) = False from by decide, show (8 ≤ 6) = False from by decide, show (8 ≤ 7) = False from by decide, show ((1 : Int32) = 0) = False from by decide, kv_set, ← e1, h1 22 (by omega), ← e2, h2 22 (by omega), ← e3, h3 22 (by omega), ← e4, h4 22 (by omega), ← e5, h5 22 (by omega), ← e6, h6 22 (by omega), ← e7, h7 22 (by omega), ← e8, h8 22 (by omega), ← e9, h9 22 (by omega), ← e10, z23, kv_suc, ← e11]
    · refine ⟨⟨by rw [gg 21 (by omega) (by omega) (by omega) (by omega)]; exact q0, by rw [gg 27 (by omega) (by omega) (by omega) (by omega)]; exact q1⟩, ⟨by rw [f23]; exact if_pos rfl, by dsimp only; omega⟩, ⟨?_, q3'⟩, fun j hj => ?_, fun k w => ?_, ?_⟩
      · rw [f23, h10 23 (by omega), g3 23 (by omega) (by omega)]
        exact (if_neg (by omega)).trans q3
      · rw [f23, h10 23 (by omega), g3 23 (by omega) (by omega)]
        exact (if_neg (by omega)).trans (q4 j hj)
      · have k4 : kc z4 27 = kc y10 27 := by
          unfold kc
          rw [f4 28 (by omega)]
        have k3 : kc z3 27 = kc z 27 := by
          unfold kc
          rw [g3 28 (by omega) (by omega)]
        rw [k4, k10, k3, v3 0 (by omega), v3 1 (by omega), v3 2 (by omega), v3 3 (by omega), v3 4 (by omega), v3 5 (by omega), v3 6 (by omega), v3 7 (by omega)]
        dsimp only
        unfold kv_pt kx_up
        by_cases qk : k = n
        · subst qk
          simp only [true_and, if_true]
          rw [if_pos (Nat.lt_succ_self _), q5 k w, if_neg (Nat.lt_irrefl _)]
          unfold kx_row
          by_cases w0 : w = 0
          · subst w0; rfl
          by_cases w1 : w = 1
          · subst w1; rfl
          by_cases w2 : w = 2
          · subst w2; rfl
          by_cases w3 : w = 3
          · subst w3; rfl
          by_cases w4 : w = 4
          · subst w4; rfl
          by_cases w5 : w = 5
          · subst w5; rfl
          by_cases w6 : w = 6
          · subst w6; rfl
          by_cases w7 : w = 7
          · subst w7; rfl
          by_cases w8 : w = 8
          · subst w8; rfl
          by_cases w11 : w = 11
          · subst w11; rfl
          simp only [w0, w1, w2, w3, w4, w5, w6, w7, w8, w11, if_false]
        · simp only [qk, false_and, if_false]
          rw [q5 k w]
          by_cases qn : k < n
          · rw [if_pos qn, if_pos (by omega)]
          · rw [if_neg qn, if_neg (by omega)]
      · rw [gg 24 (by omega) (by omega) (by omega) (by omega), gg 25 (by omega) (by omega) (by omega) (by omega), gg 26 (by omega) (by omega) (by omega) (by omega)]
        exact q6
  · rw [if_neg qo] at r3 ⊢
    refine ⟨z3, ?_, fun c a1 a2 => g3 c a1 (by omega), c3, fun s => absurd s qo⟩
    simp only [kv_e16_0, kv_e16_1, kv_e16_4, kv_e16_7, kv_e16_8, kv_e16_9, kv_e16_10, kv_e16_11, kv_e16_13, kv_e16_14, kv_e16_17, kv_e16_18, kv_e16_20, kv_e16_23, kv_e16_26, kv_e16_29, kv_e16_32, kv_e16_33, kv_e16_34, kv_e16_35, kv_e16_38, kv_e16_39, kv_e16_40, kv_e16_41, kv_e16_44, kv_e16_45, kv_e16_46, kv_e16_49, kv_e16_50, kv_e16_53, kv_e16_54, kv_e16_55, kv_e16_56, kv_e16_59, kv_e16_60, kv_e16_61, kv_e16_64, kv_e16_65, kv_e16_68, kv_e16_69, kv_e16_70, kv_e16_71, kv_e16_74, kv_e16_75, kv_e16_76, kv_e16_79, kv_e16_80, kv_e16_83, kv_e16_84, kv_e16_85, kv_e16_86, kv_e16_89, kv_e16_90, kv_e16_91, kv_e16_94, kv_e16_95, kv_e16_98, kv_e16_99, kv_e16_100, kv_e16_101, kv_e16_104, kv_e16_105, kv_e16_106, kv_e16_109, kv_e16_110, kv_e16_113, kv_e16_114, kv_e16_115, kv_e16_116, kv_e16_119, kv_e16_120, kv_e16_121, kv_e16_124, kv_e16_125, kv_e16_128, kv_e16_129, kv_e16_131, kv_e16_132, kv_e16_135, kv_e16_136, kv_e16_137, kv_e16_140, kv_e16_141, kv_e16_144, kv_e16_145, kv_e16_147, kv_e16_148, kv_e16_151, kv_e16_153, kv_e16_154, kv_e16_157, kv_e16_158, kv_e16_161, kv_e16_162, kv_e16_164, kv_e16_165, kv_e16_168, kv_e16_170, kv_e16_171, kv_e16_174, kv_e16_175, kv_e16_178, kv_e16_179, kv_e16_181, kv_e16_182, kv_e16_185, kv_e16_186, kv_e16_189, kv_e16_190, kv_e16_193, kv_e16_194, kv_e16_195, kv_e16_198, kv_e16_199, kv_o10, not_false_eq_true, not_true, if_true, if_false, kv_then_s, kv_then_v, kv_then_n, List.cons_append, List.nil_append, kv_Ci, kv_Cr, kv_Cn, kv_Cu, kv_C0, kv_catc, kv_gCi, kv_gCl, kv_gCr, kv_nb0, kv_nb1, kv_nbi, kv_nb01, Nat.reduceAdd, Nat.reduceLeDiff, q2, kv_isF23, rp, r3]
theorem kx_fAirK (ht : ∀ i, i < L → kw_rg (t i) 1 255) {q : kx_fs} (ha : a < L) (hc : kw_ctK t L a z) (hq : kx_fK q z) (hn : q.2.2.1 < 6) : ∃ z', kv_Rn (d + 5) 17 0 [some (.ref 21)] [] (kv_h e z zl) = some (some (.int (if (kx_it t L 2 4 (a + 1) 0 (kx_us 2 0)).1 = 0 then 1 else 0)), kv_h e z' zl) ∧ kx_RK t L ((kx_it t L 2 4 (a + 1) 0 (kx_us 2 0)).1, (kx_it t L 2 4 (a + 1) 0 (kx_us 2 0)).2.1, (q.1, q.2.1, q.2.2.1 + 1, q.2.2.2.1, q.2.2.2.2.1, kx_up q.2.2.2.2.2 q.2.2.1 (kx_it t L 2 4 (a + 1) 0 (kx_us 2 0)).2.2)) z z' := by
  obtain ⟨⟨q0, q1⟩, ⟨q2, q2'⟩, ⟨q3, q3'⟩, q4, q5, q6⟩ := hq
  generalize q.2.2.1 = n at *
  obtain ⟨f, rp, fp, fp4⟩ := kx_presetK (d := d + 4) (e := e) (z := z) (zl := zl) 0 0 4 0
  have c2 : kw_ctK t L a (kv_z z 22 f) := kx_ct_fr hc (kv_zne _ _ (by omega)) (kv_zne _ _ (by omega))
  obtain ⟨z3, r3, f3, c3, v3⟩ := kx_itemsK (d := d) (e := e) (zl := zl) ht (g := 2) (by omega) (vs := kx_us 2 0) ha c2 (fun i hi => by rw [kv_zs]; exact kx_usOf fp fp4 i hi)
  rw [show 306 + 2 = 308 from rfl, show 300 + 2 * 2 = 304 from rfl, show 304 + 1 = 305 from rfl, show kx_ct 2 + 1 = 4 from rfl] at r3
  rw [show kx_ct 2 + 1 = 4 from rfl] at c3 v3
  generalize kx_it t L 2 4 (a + 1) 0 (kx_us 2 0) = R at *
  have g3 : ∀ c, c ≠ 1 → c ≠ 22 → z3 c = z c := fun c a1 a2 => (f3 c a1 a2).trans (kv_zne _ _ a2)
  by_cases qo : R.1 = 0
  · rw [if_pos qo] at r3 ⊢
    have v3 := v3 qo
    obtain ⟨y1, e1⟩ : ∃ y, y = kv_z z3 24 (upd (z3 24) n (z3 22 0)) := ⟨_, rfl⟩
    obtain ⟨y2, e2⟩ : ∃ y, y = kv_z y1 25 (upd (y1 25) n (z3 22 1)) := ⟨_, rfl⟩
    obtain ⟨y3, e3⟩ : ∃ y, y = kv_z y2 26 (upd (y2 26) n (z3 22 2)) := ⟨_, rfl⟩
    obtain ⟨z4, e4⟩ : ∃ y, y = kv_z y3 23 (upd (y3 23) 5 (Int32.ofNat (n + 1))) := ⟨_, rfl⟩
    have h1 : ∀ c, c ≠ 24 → y1 c = z3 c := fun c h => by rw [e1]; exact kv_zne _ _ h
    have h2 : ∀ c, c ≠ 25 → y2 c = y1 c := fun c h => by rw [e2]; exact kv_zne _ _ h
    have h3 : ∀ c, c ≠ 26 → y3 c = y2 c := fun c h => by rw [e3]; exact kv_zne _ _ h
    have h4 : ∀ c, c ≠ 23 → z4 c = y3 c := fun c h => by rw [e4]; exact kv_zne _ _ h
    have gy : ∀ c, c ≠ 1 → c ≠ 22 → c ≠ 24 → c ≠ 25 → c ≠ 26 → y3 c = z c := fun c a1 a2 a3 a4 a5 => (h3 c a5).trans ((h2 c a4).trans ((h1 c a3).trans (g3 c a1 a2)))
    have gg : ∀ c, c ≠ 1 → c ≠ 22 → c ≠ 23 → c ≠ 24 → c ≠ 25 → c ≠ 26 → z4 c = z c := fun c a1 a2 a6 a3 a4 a5 => (h4 c a6).trans (gy c a1 a2 a3 a4 a5)
    have f23 : z4 23 = upd (y3 23) 5 (Int32.ofNat (n + 1)) := by rw [e4]; exact kv_zs _ _ _
    have y23 : y3 23 = z 23 := gy 23 (by omega) (by omega) (by omega) (by omega) (by omega)
    have f24 : z4 24 = upd (z 24) n (z3 22 0) := by rw [h4 24 (by omega), h3 24 (by omega), h2 24 (by omega), e1, kv_zs, g3 24 (by omega) (by omega)]
    have f25 : z4 25 = upd (z 25) n (z3 22 1) := by rw [h4 25 (by omega), h3 25 (by omega), e2, kv_zs, h1 25 (by omega), g3 25 (by omega) (by omega)]
    have f26 : z4 26 = upd (z 26) n (z3 22 2) := by rw [h4 26 (by omega), e3, kv_zs, h2 26 (by omega), h1 26 (by omega), g3 26 (by omega) (by omega)]
    have hn2 : n < 2147483648 := by omega
    have m23 : z3 23 5 = Int32.ofNat n := by rw [g3 23 (by omega) (by omega)]; exact q3
    have add : kv_Rn (d + 4) 9 0 [some (.ref 23), some (.int (z3 22 0)), some (.int (z3 22 1)), some (.int (z3 22 2))] [] (kv_h e z3 zl) = some (none, kv_h e z4 zl) := by
      have l6 : ((6 : Int32) ≤ Int32.ofNat n) = False := kv_ln_ (m := 6) hn (by omega)
      have b23 : ∀ (w : Nat → Nat → Int32) f, kv_z w 24 f 23 = w 23 := fun w f => kv_zne _ _ (by omega)
      have y13 : y1 23 5 = Int32.ofNat n := by rw [h1 23 (by omega)]; exact m23
      have y23' : y2 23 5 = Int32.ofNat n := by rw [h2 23 (by omega)]; exact y13
      have y33 : y3 23 5 = Int32.ofNat n := by rw [h3 23 (by omega)]; exact y23'
      simp only [kv_e9_0, kv_e9_1, kv_e9_4, kv_e9_7, kv_e9_8, kv_e9_11, kv_e9_13, kv_e9_16, kv_e9_17, kv_e9_20, kv_e9_21, kv_e9_24, kv_e9_25, kv_e9_26, kv_e9_27, kv_e9_30, kv_e9_31, kv_e9_34, kv_e9_35, kv_e9_36, kv_e9_37, kv_e9_40, kv_e9_41, kv_e9_44, kv_e9_45, kv_e9_46, kv_e9_47, kv_e9_48, kv_e9_51, kv_e9_52, kv_e9_53, kv_e9_56, kv_o10, not_false_eq_true, not_true, if_true, if_false, kv_then_s, kv_then_v, kv_then_n, List.cons_append, List.nil_append, kv_Ci, kv_Cr, kv_Cn, kv_Cu, kv_C0, kv_catc, kv_gCi, kv_gCl, kv_gCr, kv_nb0, kv_nb1, kv_nbi, kv_nb01, Nat.reduceAdd, Nat.reduceLeDiff, kv_isF23, m23, l6, kw_n0 hn2, kv_tn hn2, (kv_isF_aw (kv_isF23 e)).1, (kv_isF_aw (kv_isF23 e)).2.1, (kv_isF_aw (kv_isF23 e)).2.2, kv_lN hn, or_self, Nat.reduceAdd, ← e1, y13, ← e2, y23', ← e3, y33, kv_suc, ← e4]
    refine ⟨z4, ?_, fun c a1 a2 => gg c a1 (by omega) (by omega) (by omega) (by omega) (by omega), kx_ct_fr c3 ((h4 1 (by omega)).trans ((h3 1 (by omega)).trans ((h2 1 (by omega)).trans (h1 1 (by omega))))) ((h4 2 (by omega)).trans ((h3 2 (by omega)).trans ((h2 2 (by omega)).trans (h1 2 (by omega))))), fun _ => ?_⟩
    · have aw22 : kv_aw (kv_shK ++ e) 22 = 8 := kv_aw_k e rfl (by decide)
      have r22 : ∀ (w : Nat → Nat → Int32) j, kv_rd w 22 j = w 22 j := fun w j => kv_rd_lt (by omega)
      simp only [kv_e17_0, kv_e17_1, kv_e17_2, kv_e17_3, kv_e17_4, kv_e17_5, kv_e17_8, kv_e17_9, kv_e17_11, kv_e17_14, kv_e17_17, kv_e17_20, kv_e17_23, kv_e17_24, kv_e17_25, kv_e17_26, kv_e17_29, kv_e17_30, kv_e17_33, kv_e17_34, kv_e17_35, kv_e17_36, kv_e17_39, kv_e17_40, kv_e17_41, kv_e17_42, kv_e17_45, kv_e17_46, kv_e17_47, kv_e17_50, kv_e17_51, kv_o10, not_false_eq_true, not_true, if_true, if_false, kv_then_s, kv_then_v, kv_then_n, List.cons_append, List.nil_append, kv_Ci, kv_Cr, kv_Cn, kv_Cu, kv_C0, kv_catc, kv_gCi, kv_gCl, kv_gCr, kv_nb0, kv_nb1, kv_nbi, kv_nb01, Nat.reduceAdd, Nat.reduceLeDiff, rp, r3, kv_isF23, aw22, kv_ar_lt (show 22 < 300 by omega), r22, Int32.lt_irrefl, false_or, show (0 : Int32).toNatClampNeg = 0 from rfl, show (1 : Int32).toNatClampNeg = 1 from rfl, show (2 : Int32).toNatClampNeg = 2 from rfl, show ((1 : Int32) < 0) = False from by decide, show ((2 : Int32) < 0) = False from by decide, show (8 ≤ 0) = False from by decide, show (8 ≤ 1) = False from by decide, show (8 ≤ 2) = False from by decide, show ((1 : Int32) = 0) = False from by decide, add]
    · refine ⟨⟨by rw [gg 21 (by omega) (by omega) (by omega) (by omega) (by omega) (by omega)]; exact q0, by rw [gg 27 (by omega) (by omega) (by omega) (by omega) (by omega) (by omega)]; exact q1⟩, ⟨?_, q2'⟩, ⟨by rw [f23]; exact if_pos rfl, by dsimp only; omega⟩, fun j hj => ?_, ?_, fun j hj => ?_⟩
      · rw [f23, y23]
        exact (if_neg (by omega)).trans q2
      · rw [f23, y23]
        exact (if_neg (by omega)).trans (q4 j hj)
      · unfold kc
        rw [gg 28 (by omega) (by omega) (by omega) (by omega) (by omega) (by omega)]
        exact q5
      · rw [f24, f25, f26, v3 0 (by omega), v3 1 (by omega), v3 2 (by omega)]
        dsimp only
        unfold kx_up upd
        by_cases qj : j = n
        · simp only [qj, if_true, and_self]
        · simp only [qj, if_false]
          exact q6 j (by dsimp only at hj; omega)
  · rw [if_neg qo] at r3 ⊢
    refine ⟨z3, ?_, fun c a1 a2 => g3 c a1 (by omega), c3, fun s => absurd s qo⟩
    simp only [kv_e17_0, kv_e17_1, kv_e17_2, kv_e17_3, kv_e17_4, kv_e17_5, kv_e17_8, kv_e17_9, kv_e17_11, kv_e17_14, kv_e17_17, kv_e17_20, kv_e17_23, kv_e17_24, kv_e17_25, kv_e17_26, kv_e17_29, kv_e17_30, kv_e17_33, kv_e17_34, kv_e17_35, kv_e17_36, kv_e17_39, kv_e17_40, kv_e17_41, kv_e17_42, kv_e17_45, kv_e17_46, kv_e17_47, kv_e17_50, kv_e17_51, kv_o10, not_false_eq_true, not_true, if_true, if_false, kv_then_s, kv_then_v, kv_then_n, List.cons_append, List.nil_append, kv_Ci, kv_Cr, kv_Cn, kv_Cu, kv_C0, kv_catc, kv_gCi, kv_gCl, kv_gCr, kv_nb0, kv_nb1, kv_nbi, kv_nb01, Nat.reduceAdd, Nat.reduceLeDiff, rp, r3]
theorem kx_clauseFK (ht : ∀ i, i < L → kw_rg (t i) 1 255) {q : kx_fs} (ha : a ≤ L) (hc : kw_ctK t L a z) (hq : kx_fK q z) : ∃ z', kv_Rn (d + 6) 14 0 [some (.ref 21), none] [] (kv_h e z zl) = some (some (.int (if (kx_fc t L a q).1 = 0 then 1 else 0)), kv_h e z' zl) ∧ kx_RK t L (kx_fc t L a q) z z' := by
  have hL := hc.1.2
  have sg := kw_signK (d := d + 5) (e := e) (zl := zl) (show a ≤ 100000 by omega) hc
  have c1 := kw_ctK_a (b := kw_nx t L a) hc
  have f1 : ∀ c, c ≠ 1 → kw_aK z (kw_nx t L a) c = z c := fun c h => kw_aK_fr _ _ h
  have q1 : kx_fK q (kw_aK z (kw_nx t L a)) := kx_fK_fr hq (fun c a1 _ => f1 c a1)
  have g1 : kx_frF z (kw_aK z (kw_nx t L a)) := fun c a1 _ => f1 c a1
  have k21 : kw_aK z (kw_nx t L a) 21 4 = (if q.1 = true then 1 else 0) := q1.1.1
  have k4 : kw_aK z (kw_nx t L a) 23 4 = Int32.ofNat q.2.1 := q1.2.1.1
  have k5 : kw_aK z (kw_nx t L a) 23 5 = Int32.ofNat q.2.2.1 := q1.2.2.1.1
  have n8 := q1.2.1.2
  have m6 := q1.2.2.1.2
  have l8 : ((8 : Int32) ≤ Int32.ofNat q.2.1) = (8 ≤ q.2.1) := kv_nle (a := 8) (by omega) (by omega)
  have l6 : ((6 : Int32) ≤ Int32.ofNat q.2.2.1) = (6 ≤ q.2.2.1) := kv_nle (a := 6) (by omega) (by omega)
  unfold kx_fc
  by_cases h1 : kx_sg t L (kw_nx t L a) = 102 ∧ q.1 = false
  · have hlt := kx_sg_ne (t := t) (L := L) (a := kw_nx t L a) (fun s => absurd (h1.1.symm.trans s) (by decide))
    rw [if_pos h1]
    obtain ⟨z2, r2, f2, c2, k2⟩ := kx_fLawK (d := d) (e := e) (zl := zl) ht hlt c1 q1
    refine ⟨z2, ?_, kx_frF_tr g1 f2, c2, k2⟩
    have k21 : kw_aK z (kw_nx t L a) 21 4 = 0 := by rw [k21, h1.2]; rfl
    simp only [kv_e14_0, kv_e14_1, kv_e14_4, kv_e14_7, kv_e14_8, kv_e14_9, kv_e14_11, kv_e14_14, kv_e14_15, kv_e14_18, kv_e14_21, kv_e14_22, kv_e14_25, kv_e14_26, kv_e14_27, kv_e14_29, kv_e14_32, kv_e14_33, kv_e14_36, kv_e14_39, kv_e14_41, kv_e14_44, kv_e14_45, kv_e14_48, kv_e14_49, kv_e14_50, kv_e14_52, kv_e14_55, kv_e14_56, kv_e14_59, kv_e14_62, kv_e14_64, kv_e14_67, kv_e14_68, kv_e14_71, kv_e14_74, kv_e14_75, kv_e14_78, kv_e14_79, kv_o10, not_false_eq_true, not_true, if_true, if_false, kv_then_s, kv_then_v, kv_then_n, List.cons_append, List.nil_append, kv_Ci, kv_Cr, kv_Cn, kv_Cu, kv_C0, kv_catc, kv_gCi, kv_gCl, kv_gCr, kv_nb0, kv_nb1, kv_nbi, kv_nb01, Nat.reduceAdd, Nat.reduceLeDiff, sg, h1.1, k21, r2]
  · rw [if_neg h1]
    by_cases h2 : kx_sg t L (kw_nx t L a) = 107 ∧ q.2.1 < 8
    · have hlt := kx_sg_ne (t := t) (L := L) (a := kw_nx t L a) (fun s => absurd (h2.1.symm.trans s) (by decide))
      rw [if_pos h2]
      obtain ⟨z2, r2, f2, c2, k2⟩ := kx_fKiteK (d := d) (e := e) (zl := zl) ht hlt c1 q1 h2.2
      refine ⟨z2, ?_, kx_frF_tr g1 f2, c2, k2⟩
      simp only [kv_e14_0, kv_e14_1, kv_e14_4, kv_e14_7, kv_e14_8, kv_e14_9, kv_e14_11, kv_e14_14, kv_e14_15, kv_e14_18, kv_e14_21, kv_e14_22, kv_e14_25, kv_e14_26, kv_e14_27, kv_e14_29, kv_e14_32, kv_e14_33, kv_e14_36, kv_e14_39, kv_e14_41, kv_e14_44, kv_e14_45, kv_e14_48, kv_e14_49, kv_e14_50, kv_e14_52, kv_e14_55, kv_e14_56, kv_e14_59, kv_e14_62, kv_e14_64, kv_e14_67, kv_e14_68, kv_e14_71, kv_e14_74, kv_e14_75, kv_e14_78, kv_e14_79, kv_o10, not_false_eq_true, not_true, if_true, if_false, kv_then_s, kv_then_v, kv_then_n, List.cons_append, List.nil_append, kv_Ci, kv_Cr, kv_Cn, kv_Cu, kv_C0, kv_catc, kv_gCi, kv_gCl, kv_gCr, kv_nb0, kv_nb1, kv_nbi, kv_nb01, Nat.reduceAdd, Nat.reduceLeDiff, sg, h2.1, show ((107 : Int32) = 102) = False from by decide, kv_isF23, k4, l8, eq_false (show ¬ 8 ≤ q.2.1 by omega), r2]
    · rw [if_neg h2]
      by_cases h3 : kx_sg t L (kw_nx t L a) = 97 ∧ q.2.2.1 < 6
      · have hlt := kx_sg_ne (t := t) (L := L) (a := kw_nx t L a) (fun s => absurd (h3.1.symm.trans s) (by decide))
        rw [if_pos h3]
        obtain ⟨z2, r2, f2, c2, k2⟩ := kx_fAirK (d := d) (e := e) (zl := zl) ht hlt c1 q1 h3.2
        refine ⟨z2, ?_, kx_frF_tr g1 f2, c2, k2⟩
        by_cases qo : (kx_it t L 2 4 (kw_nx t L a + 1) 0 (kx_us 2 0)).1 = 0
        · rw [if_pos qo] at r2 ⊢
          simp only [kv_e14_0, kv_e14_1, kv_e14_4, kv_e14_7, kv_e14_8, kv_e14_9, kv_e14_11, kv_e14_14, kv_e14_15, kv_e14_18, kv_e14_21, kv_e14_22, kv_e14_25, kv_e14_26, kv_e14_27, kv_e14_29, kv_e14_32, kv_e14_33, kv_e14_36, kv_e14_39, kv_e14_41, kv_e14_44, kv_e14_45, kv_e14_48, kv_e14_49, kv_e14_50, kv_e14_52, kv_e14_55, kv_e14_56, kv_e14_59, kv_e14_62, kv_e14_64, kv_e14_67, kv_e14_68, kv_e14_71, kv_e14_74, kv_e14_75, kv_e14_78, kv_e14_79, kv_o10, not_false_eq_true, not_true, if_true, if_false, kv_then_s, kv_then_v, kv_then_n, List.cons_append, List.nil_append, kv_Ci, kv_Cr, kv_Cn, kv_Cu, kv_C0, kv_catc, kv_gCi, kv_gCl, kv_gCr, kv_nb0, kv_nb1, kv_nbi, kv_nb01, Nat.reduceAdd, Nat.reduceLeDiff, sg, h3.1, show ((97 : Int32) = 102) = False from by decide, show ((97 : Int32) = 107) = False from by decide, kv_isF23, k5, l6, eq_false (show ¬ 6 ≤ q.2.2.1 by omega), r2, show ((1 : Int32) = 0) = False from by decide]
        · rw [if_neg qo] at r2 ⊢
          simp only [kv_e14_0, kv_e14_1, kv_e14_4, kv_e14_7, kv_e14_8, kv_e14_9, kv_e14_11, kv_e14_14, kv_e14_15, kv_e14_18, kv_e14_21, kv_e14_22, kv_e14_25, kv_e14_26, kv_e14_27, kv_e14_29, kv_e14_32, kv_e14_33, kv_e14_36, kv_e14_39, kv_e14_41, kv_e14_44, kv_e14_45, kv_e14_48, kv_e14_49, kv_e14_50, kv_e14_52, kv_e14_55, kv_e14_56, kv_e14_59, kv_e14_62, kv_e14_64, kv_e14_67, kv_e14_68, kv_e14_71, kv_e14_74, kv_e14_75, kv_e14_78, kv_e14_79, kv_o10, not_false_eq_true, not_true, if_true, if_false, kv_then_s, kv_then_v, kv_then_n, List.cons_append, List.nil_append, kv_Ci, kv_Cr, kv_Cn, kv_Cu, kv_C0, kv_catc, kv_gCi, kv_gCl, kv_gCr, kv_nb0, kv_nb1, kv_nbi, kv_nb01, Nat.reduceAdd, Nat.reduceLeDiff, sg, h3.1, show ((97 : Int32) = 102) = False from by decide, show ((97 : Int32) = 107) = False from by decide, kv_isF23, k5, l6, eq_false (show ¬ 6 ≤ q.2.2.1 by omega), r2]
      · rw [if_neg h3]
        refine ⟨kw_aK z (kw_nx t L a), ?_, g1, c1, fun s => absurd s (by simp)⟩
        by_cases s1 : kx_sg t L (kw_nx t L a) = 102
        · have ql : q.1 = true := by
            cases hb : q.1 with
            | true => rfl
            | false => exact absurd ⟨s1, hb⟩ h1
          have k21 : kw_aK z (kw_nx t L a) 21 4 = 1 := by rw [k21, ql]; rfl
          simp only [kv_e14_0, kv_e14_1, kv_e14_4, kv_e14_7, kv_e14_8, kv_e14_9, kv_e14_11, kv_e14_14, kv_e14_15, kv_e14_18, kv_e14_21, kv_e14_22, kv_e14_25, kv_e14_26, kv_e14_27, kv_e14_29, kv_e14_32, kv_e14_33, kv_e14_36, kv_e14_39, kv_e14_41, kv_e14_44, kv_e14_45, kv_e14_48, kv_e14_49, kv_e14_50, kv_e14_52, kv_e14_55, kv_e14_56, kv_e14_59, kv_e14_62, kv_e14_64, kv_e14_67, kv_e14_68, kv_e14_71, kv_e14_74, kv_e14_75, kv_e14_78, kv_e14_79, kv_o10, not_false_eq_true, not_true, if_true, if_false, kv_then_s, kv_then_v, kv_then_n, List.cons_append, List.nil_append, kv_Ci, kv_Cr, kv_Cn, kv_Cu, kv_C0, kv_catc, kv_gCi, kv_gCl, kv_gCr, kv_nb0, kv_nb1, kv_nbi, kv_nb01, Nat.reduceAdd, Nat.reduceLeDiff, sg, s1, k21, show ((1 : Int32) = 0) = False from by decide, show ((102 : Int32) = 107) = False from by decide, show ((102 : Int32) = 97) = False from by decide, show ((2 : Nat) = 0) = False from by decide]
        · by_cases s2 : kx_sg t L (kw_nx t L a) = 107
          · have := (show ¬ q.2.1 < 8 from fun s => h2 ⟨s2, s⟩)
            simp only [kv_e14_0, kv_e14_1, kv_e14_4, kv_e14_7, kv_e14_8, kv_e14_9, kv_e14_11, kv_e14_14, kv_e14_15, kv_e14_18, kv_e14_21, kv_e14_22, kv_e14_25, kv_e14_26, kv_e14_27, kv_e14_29, kv_e14_32, kv_e14_33, kv_e14_36, kv_e14_39, kv_e14_41, kv_e14_44, kv_e14_45, kv_e14_48, kv_e14_49, kv_e14_50, kv_e14_52, kv_e14_55, kv_e14_56, kv_e14_59, kv_e14_62, kv_e14_64, kv_e14_67, kv_e14_68, kv_e14_71, kv_e14_74, kv_e14_75, kv_e14_78, kv_e14_79, kv_o10, not_false_eq_true, not_true, if_true, if_false, kv_then_s, kv_then_v, kv_then_n, List.cons_append, List.nil_append, kv_Ci, kv_Cr, kv_Cn, kv_Cu, kv_C0, kv_catc, kv_gCi, kv_gCl, kv_gCr, kv_nb0, kv_nb1, kv_nbi, kv_nb01, Nat.reduceAdd, Nat.reduceLeDiff, sg, s2, show ((107 : Int32) = 102) = False from by decide, show ((107 : Int32) = 97) = False from by decide, kv_isF23, k4, l8, eq_true (show 8 ≤ q.2.1 by omega), show ((2 : Nat) = 0) = False from by decide]
          · by_cases s3 : kx_sg t L (kw_nx t L a) = 97
            · have := (show ¬ q.2.2.1 < 6 from fun s => h3 ⟨s3, s⟩)
              simp only [kv_e14_0, kv_e14_1, kv_e14_4, kv_e14_7, kv_e14_8, kv_e14_9, kv_e14_11, kv_e14_14, kv_e14_15, kv_e14_18, kv_e14_21, kv_e14_22, kv_e14_25, kv_e14_26, kv_e14_27, kv_e14_29, kv_e14_32, kv_e14_33, kv_e14_36, kv_e14_39, kv_e14_41, kv_e14_44, kv_e14_45, kv_e14_48, kv_e14_49, kv_e14_50, kv_e14_52, kv_e14_55, kv_e14_56, kv_e14_59, kv_e14_62, kv_e14_64, kv_e14_67, kv_e14_68, kv_e14_71, kv_e14_74, kv_e14_75, kv_e14_78, kv_e14_79, kv_o10, not_false_eq_true, not_true, if_true, if_false, kv_then_s, kv_then_v, kv_then_n, List.cons_append, List.nil_append, kv_Ci, kv_Cr, kv_Cn, kv_Cu, kv_C0, kv_catc, kv_gCi, kv_gCl, kv_gCr, kv_nb0, kv_nb1, kv_nbi, kv_nb01, Nat.reduceAdd, Nat.reduceLeDiff, sg, s3, show ((97 : Int32) = 102) = False from by decide, show ((97 : Int32) = 107) = False from by decide, kv_isF23, k5, l6, eq_true (show 6 ≤ q.2.2.1 by omega), show ((2 : Nat) = 0) = False from by decide]
            · simp only [kv_e14_0, kv_e14_1, kv_e14_4, kv_e14_7, kv_e14_8, kv_e14_9, kv_e14_11, kv_e14_14, kv_e14_15, kv_e14_18, kv_e14_21, kv_e14_22, kv_e14_25, kv_e14_26, kv_e14_27, kv_e14_29, kv_e14_32, kv_e14_33, kv_e14_36, kv_e14_39, kv_e14_41, kv_e14_44, kv_e14_45, kv_e14_48, kv_e14_49, kv_e14_50, kv_e14_52, kv_e14_55, kv_e14_56, kv_e14_59, kv_e14_62, kv_e14_64, kv_e14_67, kv_e14_68, kv_e14_71, kv_e14_74, kv_e14_75, kv_e14_78, kv_e14_79, kv_o10, not_false_eq_true, not_true, if_true, if_false, kv_then_s, kv_then_v, kv_then_n, List.cons_append, List.nil_append, kv_Ci, kv_Cr, kv_Cn, kv_Cu, kv_C0, kv_catc, kv_gCi, kv_gCl, kv_gCr, kv_nb0, kv_nb1, kv_nbi, kv_nb01, Nat.reduceAdd, Nat.reduceLeDiff, sg, s1, s2, s3, show ((2 : Nat) = 0) = False from by decide]
end
