/-! fields as texts: the class's kites, airs, clauses -/
section
variable {d L a : Nat} {e : List kv_E} {t : Nat → Int32} {z : Nat → Nat → Int32} {zl : Nat → Nat → Int64}
theorem kx_fKiteK (ht : ∀ i, i < L → kw_rg (t i) 1 255) {q : kx_fs} (ha : a < L) (hc : kw_ctK t L a z) (hq : kx_fK q z) (hn : q.2.1 < 8) : ∃ z', kv_Rn (d + 5) 16 0 [some (.ref 21), none] [] (kv_h e z zl) = some (some (.int (if (kx_it t L 1 9 (a + 1) 0 (kx_us 1 q.2.1)).1 = 0 then 1 else 0)), kv_h e z' zl) ∧ kx_RK t L ((kx_it t L 1 9 (a + 1) 0 (kx_us 1 q.2.1)).1, (kx_it t L 1 9 (a + 1) 0 (kx_us 1 q.2.1)).2.1, (q.1, q.2.1 + 1, q.2.2.1, q.2.2.2.1, kx_up q.2.2.2.2.1 q.2.1 (kx_it t L 1 9 (a + 1) 0 (kx_us 1 q.2.1)).2.2, q.2.2.2.2.2)) z z' := by
  obtain ⟨⟨q0, q1⟩, ⟨q2, q2'⟩, ⟨q3, q3'⟩, q4, q5, q6⟩ := hq
  generalize q.2.1 = n at *
  obtain ⟨f, rp, fp, fp4⟩ := kx_presetK (d := d + 4) (e := e) (z := z) (zl := zl) (Int32.ofNat n) 3 40 0
  have c2 : kw_ctK t L a (kv_z z 22 f) := kx_ct_fr hc (kv_zne _ _ (by omega)) (kv_zne _ _ (by omega))
  obtain ⟨z3, r3, f3, c3, v3⟩ := kx_itemsK (d := d) (e := e) (zl := zl) ht (g := 1) (by omega) (vs := kx_us 1 n) ha c2 (fun i hi => by rw [kv_zs]; exact kx_usOf fp fp4 i hi)
  rw [show 306 + 1 = 307 from rfl, show 300 + 2 * 1 = 302 from rfl, show 302 + 1 = 303 from rfl, show kx_ct 1 + 1 = 9 from rfl] at r3
  rw [show kx_ct 1 + 1 = 9 from rfl] at c3 v3
  generalize kx_it t L 1 9 (a + 1) 0 (kx_us 1 n) = R at *
  have g3 : ∀ c, c ≠ 1 → c ≠ 22 → z3 c = z c := fun c a1 a2 => (f3 c a1 a2).trans (kv_zne _ _ a2)
  by_cases qo : R.1 = 0
  · rw [if_pos qo] at r3 ⊢
    have v3 := v3 qo
    obtain ⟨y1, e1⟩ : ∃ y, y = kv_su z3 27 (Int32.ofNat n) 0 (z3 22 0) := ⟨_, rfl⟩
    obtain ⟨y2, e2⟩ : ∃ y, y = kv_su y1 27 (Int32.ofNat n) 1 (z3 22 1) := ⟨_, rfl⟩
    obtain ⟨y3, e3⟩ : ∃ y, y = kv_su y2 27 (Int32.ofNat n) 2 (z3 22 2) := ⟨_, rfl⟩
    obtain ⟨y4, e4⟩ : ∃ y, y = kv_su y3 27 (Int32.ofNat n) 4 (z3 22 3) := ⟨_, rfl⟩
    obtain ⟨y5, e5⟩ : ∃ y, y = kv_su y4 27 (Int32.ofNat n) 3 (z3 22 3) := ⟨_, rfl⟩
    obtain ⟨y6, e6⟩ : ∃ y, y = kv_su y5 27 (Int32.ofNat n) 5 (z3 22 4) := ⟨_, rfl⟩
    obtain ⟨y7, e7⟩ : ∃ y, y = kv_su y6 27 (Int32.ofNat n) 6 (z3 22 5) := ⟨_, rfl⟩
    obtain ⟨y8, e8⟩ : ∃ y, y = kv_su y7 27 (Int32.ofNat n) 7 (z3 22 6) := ⟨_, rfl⟩
    obtain ⟨y9, e9⟩ : ∃ y, y = kv_su y8 27 (Int32.ofNat n) 8 (z3 22 7) := ⟨_, rfl⟩
    obtain ⟨y10, e10⟩ : ∃ y, y = kv_su y9 27 (Int32.ofNat n) 11 1 := ⟨_, rfl⟩
    have h1 : ∀ c, c ≠ 28 → y1 c = z3 c := fun c h => by rw [e1]; exact kw_su_fr _ _ _ _ _ h
    have h2 : ∀ c, c ≠ 28 → y2 c = z3 c := fun c h => by rw [e2]; exact (kw_su_fr _ _ _ _ _ h).trans (h1 c h)
    have h3 : ∀ c, c ≠ 28 → y3 c = z3 c := fun c h => by rw [e3]; exact (kw_su_fr _ _ _ _ _ h).trans (h2 c h)
    have h4 : ∀ c, c ≠ 28 → y4 c = z3 c := fun c h => by rw [e4]; exact (kw_su_fr _ _ _ _ _ h).trans (h3 c h)
    have h5 : ∀ c, c ≠ 28 → y5 c = z3 c := fun c h => by rw [e5]; exact (kw_su_fr _ _ _ _ _ h).trans (h4 c h)
    have h6 : ∀ c, c ≠ 28 → y6 c = z3 c := fun c h => by rw [e6]; exact (kw_su_fr _ _ _ _ _ h).trans (h5 c h)
    have h7 : ∀ c, c ≠ 28 → y7 c = z3 c := fun c h => by rw [e7]; exact (kw_su_fr _ _ _ _ _ h).trans (h6 c h)
    have h8 : ∀ c, c ≠ 28 → y8 c = z3 c := fun c h => by rw [e8]; exact (kw_su_fr _ _ _ _ _ h).trans (h7 c h)
    have h9 : ∀ c, c ≠ 28 → y9 c = z3 c := fun c h => by rw [e9]; exact (kw_su_fr _ _ _ _ _ h).trans (h8 c h)
    have h10 : ∀ c, c ≠ 28 → y10 c = z3 c := fun c h => by rw [e10]; exact (kw_su_fr _ _ _ _ _ h).trans (h9 c h)
    have k10 : kc y10 27 = kv_pt (kv_pt (kv_pt (kv_pt (kv_pt (kv_pt (kv_pt (kv_pt (kv_pt (kv_pt (kc z3 27) n 0 (z3 22 0)) n 1 (z3 22 1)) n 2 (z3 22 2)) n 4 (z3 22 3)) n 3 (z3 22 3)) n 5 (z3 22 4)) n 6 (z3 22 5)) n 7 (z3 22 6)) n 8 (z3 22 7)) n 11 1 := by
      rw [e10, kw_sk11 _ _ hn, e9, kw_sk8 _ _ hn, e8, kw_sk7 _ _ hn, e7, kw_sk6 _ _ hn, e6, kw_sk5 _ _ hn, e5, kw_sk3 _ _ hn, e4, kw_sk4 _ _ hn, e3, kw_sk2 _ _ hn, e2, kw_sk1 _ _ hn, e1, kw_sk0 _ _ hn]
    obtain ⟨z4, e11⟩ : ∃ z4, z4 = kv_z y10 23 (upd (y10 23) 4 (Int32.ofNat (n + 1))) := ⟨_, rfl⟩
    have f4 : ∀ c, c ≠ 23 → z4 c = y10 c := fun c h => by rw [e11]; exact kv_zne _ _ h
    have f23 : z4 23 = upd (y10 23) 4 (Int32.ofNat (n + 1)) := by rw [e11]; exact kv_zs _ _ _
    have gg : ∀ c, c ≠ 1 → c ≠ 22 → c ≠ 23 → c ≠ 28 → z4 c = z c := fun c a1 a2 a3 a4 => (f4 c a3).trans ((h10 c a4).trans (g3 c a1 a2))
    refine ⟨z4, ?_, fun c a1 a2 => gg c a1 (by omega) (by omega) (by omega), kx_ct_fr c3 ((f4 1 (by omega)).trans (h10 1 (by omega))) ((f4 2 (by omega)).trans (h10 2 (by omega))), fun _ => ?_⟩
    · have aw22 : kv_aw (kv_shK ++ e) 22 = 8 := kv_aw_k e rfl (by decide)
      have r22 : ∀ (w : Nat → Nat → Int32) j, kv_rd w 22 j = w 22 j := fun w j => kv_rd_lt (by omega)
      have z23 : y10 23 4 = Int32.ofNat n := by rw [h10 23 (by omega), g3 23 (by omega) (by omega)]; exact q2
      simp only [kv_e16_0, kv_e16_1, kv_e16_4, kv_e16_7, kv_e16_8, kv_e16_9, kv_e16_10, kv_e16_11, kv_e16_13, kv_e16_14, kv_e16_17, kv_e16_18, kv_e16_20, kv_e16_23, kv_e16_26, kv_e16_29, kv_e16_32, kv_e16_33, kv_e16_34, kv_e16_35, kv_e16_38, kv_e16_39, kv_e16_40, kv_e16_41, kv_e16_44, kv_e16_45, kv_e16_46, kv_e16_49, kv_e16_50, kv_e16_53, kv_e16_54, kv_e16_55, kv_e16_56, kv_e16_59, kv_e16_60, kv_e16_61, kv_e16_64, kv_e16_65, kv_e16_68, kv_e16_69, kv_e16_70, kv_e16_71, kv_e16_74, kv_e16_75, kv_e16_76, kv_e16_79, kv_e16_80, kv_e16_83, kv_e16_84, kv_e16_85, kv_e16_86, kv_e16_89, kv_e16_90, kv_e16_91, kv_e16_94, kv_e16_95, kv_e16_98, kv_e16_99, kv_e16_100, kv_e16_101, kv_e16_104, kv_e16_105, kv_e16_106, kv_e16_109, kv_e16_110, kv_e16_113, kv_e16_114, kv_e16_115, kv_e16_116, kv_e16_119, kv_e16_120, kv_e16_121, kv_e16_124, kv_e16_125, kv_e16_128, kv_e16_129, kv_e16_131, kv_e16_132, kv_e16_135, kv_e16_136, kv_e16_137, kv_e16_140, kv_e16_141, kv_e16_144, kv_e16_145, kv_e16_147, kv_e16_148, kv_e16_151, kv_e16_153, kv_e16_154, kv_e16_157, kv_e16_158, kv_e16_161, kv_e16_162, kv_e16_164, kv_e16_165, kv_e16_168, kv_e16_170, kv_e16_171, kv_e16_174, kv_e16_175, kv_e16_178, kv_e16_179, kv_e16_181, kv_e16_182, kv_e16_185, kv_e16_186, kv_e16_189, kv_e16_190, kv_e16_193, kv_e16_194, kv_e16_195, kv_e16_198, kv_e16_199, kv_o10, not_false_eq_true, not_true, if_true, if_false, kv_then_s, kv_then_v, kv_then_n, List.cons_append, List.nil_append, kv_Ci, kv_Cr, kv_Cn, kv_Cu, kv_C0, kv_catc, kv_gCi, kv_gCl, kv_gCr, kv_nb0, kv_nb1, kv_nbi, kv_nb01, Nat.reduceAdd, Nat.reduceLeDiff, q2, rp, r3, kv_isF23, kv_isS27, aw22, kv_ar_lt (show 22 < 300 by omega), r22, Int32.lt_irrefl, false_or, show (0 : Int32).toNatClampNeg = 0 from rfl, show (1 : Int32).toNatClampNeg = 1 from rfl, show (2 : Int32).toNatClampNeg = 2 from rfl, show (3 : Int32).toNatClampNeg = 3 from rfl, show (4 : Int32).toNatClampNeg = 4 from rfl, show (5 : Int32).toNatClampNeg = 5 from rfl, show (6 : Int32).toNatClampNeg = 6 from rfl, show (7 : Int32).toNatClampNeg = 7 from rfl, show ((1 : Int32) < 0) = False from by decide, show ((2 : Int32) < 0) = False from by decide, show ((3 : Int32) < 0) = False from by decide, show ((4 : Int32) < 0) = False from by decide, show ((5 : Int32) < 0) = False from by decide, show ((6 : Int32) < 0) = False from by decide, show ((7 : Int32) < 0) = False from by decide, show (8 ≤ 0) = False from by decide, show (8 ≤ 1) = False from by decide, show (8 ≤ 2) = False from by decide, show (8 ≤ 3) = False from by decide, show (8 ≤ 4) = False from by decide, show (8 ≤ 5) = False from by decide, show (8 ≤ 6) = False from by decide, show (8 ≤ 7) = False from by decide, show ((1 : Int32) = 0) = False from by decide, kv_set, ← e1, h1 22 (by omega), ← e2, h2 22 (by omega), ← e3, h3 22 (by omega), ← e4, h4 22 (by omega), ← e5, h5 22 (by omega), ← e6, h6 22 (by omega), ← e7, h7 22 (by omega), ← e8, h8 22 (by omega), ← e9, h9 22 (by omega), ← e10, z23, kv_suc, ← e11]
    · refine ⟨⟨by rw [gg 21 (by omega) (by omega) (by omega) (by omega)]; exact q0, by rw [gg 27 (by omega) (by omega) (by omega) (by omega)]; exact q1⟩, ⟨by rw [f23]; exact if_pos rfl, by dsimp only; omega⟩, ⟨?_, q3'⟩, fun j hj => ?_, fun k w => ?_, ?_⟩
      · rw [f23, h10 23 (by omega), g3 23 (by omega) (by omega)]
        exact (if_neg (by omega)).trans q3
      · rw [f23, h10 23 (by omega), g3 23 (by omega) (by omega)]
        exact (if_neg (by omega)).trans (q4 j hj)
      · have k4 : kc z4 27 = kc y10 27 := by
          unfold kc
          rw [f4 28 (by omega)]
        have k3 : kc z3 27 = kc z 27 := by
          unfold kc
          rw [g3 28 (by omega) (by omega)]
        rw [k4, k10, k3, v3 0 (by omega), v3 1 (by omega), v3 2 (by omega), v3 3 (by omega), v3 4 (by omega), v3 5 (by omega), v3 6 (by omega), v3 7 (by omega)]
        dsimp only
        unfold kv_pt kx_up
        by_cases qk : k = n
        · subst qk
          simp only [true_and, if_true]
          rw [if_pos (Nat.lt_succ_self _), q5 k w, if_neg (Nat.lt_irrefl _)]
          unfold kx_row
          by_cases w0 : w = 0
          · subst w0; rfl
          by_cases w1 : w = 1
          · subst w1; rfl
          by_cases w2 : w = 2
          · subst w2; rfl
          by_cases w3 : w = 3
          · subst w3; rfl
          by_cases w4 : w = 4
          · subst w4; rfl
          by_cases w5 : w = 5
          · subst w5; rfl
          by_cases w6 : w = 6
          · subst w6; rfl
          by_cases w7 : w = 7
          · subst w7; rfl
          by_cases w8 : w = 8
          · subst w8; rfl
          by_cases w11 : w = 11
          · subst w11; rfl
          simp only [w0, w1, w2, w3, w4, w5, w6, w7, w8, w11, if_false]
        · simp only [qk, false_and, if_false]
          rw [q5 k w]
          by_cases qn : k < n
          · rw [if_pos qn, if_pos (by omega)]
          · rw [if_neg qn, if_neg (by omega)]
      · rw [gg 24 (by omega) (by omega) (by omega) (by omega), gg 25 (by omega) (by omega) (by omega) (by omega), gg 26 (by omega) (by omega) (by omega) (by omega)]
        exact q6
  · rw [if_neg qo] at r3 ⊢
    refine ⟨z3, ?_, fun c a1 a2 => g3 c a1 (by omega), c3, fun s => absurd s qo⟩
    simp only [kv_e16_0, kv_e16_1, kv_e16_4, kv_e16_7, kv_e16_8, kv_e16_9, kv_e16_10, kv_e16_11, kv_e16_13, kv_e16_14, kv_e16_17, kv_e16_18, kv_e16_20, kv_e16_23, kv_e16_26, kv_e16_29, kv_e16_32, kv_e16_33, kv_e16_34, kv_e16_35, kv_e16_38, kv_e16_39, kv_e16_40, kv_e16_41, kv_e16_44, kv_e16_45, kv_e16_46, kv_e16_49, kv_e16_50, kv_e16_53, kv_e16_54, kv_e16_55, kv_e16_56, kv_e16_59, kv_e16_60, kv_e16_61, kv_e16_64, kv_e16_65, kv_e16_68, kv_e16_69, kv_e16_70, kv_e16_71, kv_e16_74, kv_e16_75, kv_e16_76, kv_e16_79, kv_e16_80, kv_e16_83, kv_e16_84, kv_e16_85, kv_e16_86, kv_e16_89, kv_e16_90, kv_e16_91, kv_e16_94, kv_e16_95, kv_e16_98, kv_e16_99, kv_e16_100, kv_e16_101, kv_e16_104, kv_e16_105, kv_e16_106, kv_e16_109, kv_e16_110, kv_e16_113, kv_e16_114, kv_e16_115, kv_e16_116, kv_e16_119, kv_e16_120, kv_e16_121, kv_e16_124, kv_e16_125, kv_e16_128, kv_e16_129, kv_e16_131, kv_e16_132, kv_e16_135, kv_e16_136, kv_e16_137, kv_e16_140, kv_e16_141, kv_e16_144, kv_e16_145, kv_e16_147, kv_e16_148, kv_e16_151, kv_e16_153, kv_e16_154, kv_e16_157, kv_e16_158, kv_e16_161, kv_e16_162, kv_e16_164, kv_e16_165, kv_e16_168, kv_e16_170, kv_e16_171, kv_e16_174, kv_e16_175, kv_e16_178, kv_e16_179, kv_e16_181, kv_e16_182, kv_e16_185, kv_e16_186, kv_e16_189, kv_e16_190, kv_e16_193, kv_e16_194, kv_e16_195, kv_e16_198, kv_e16_199, kv_o10, not_false_eq_true, not_true, if_true, if_false, kv_then_s, kv_then_v, kv_then_n, List.cons_append, List.nil_append, kv_Ci, kv_Cr, kv_Cn, kv_Cu, kv_C0, kv_catc, kv_gCi, kv_gCl, kv_gCr, kv_nb0, kv_nb1, kv_nbi, kv_nb01, Nat.reduceAdd, Nat.reduceLeDiff, q2, kv_isF23, rp, r3]
end
