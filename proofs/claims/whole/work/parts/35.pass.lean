/-! a minute, in the class -/
section
variable {d a b : Nat} {e : List kv_E} {z : Nat → Nat → Int32} {zl : Nat → Nat → Int64}
theorem kw_gr_kc (z : Nat → Nat → Int32) (a : Nat) {k : Nat} (hk : k < 8) : kc (kv_su (kv_su (kv_su z a (Int32.ofNat k) 11 0) a (Int32.ofNat k) 4 0) a (Int32.ofNat k) 3 0) a = (fun i => if i = k then kw_gr (kc z a k) else kc z a i) := by
  rw [kw_sk3 _ a hk, kw_sk4 _ a hk, kw_sk11 _ a hk]
  funext i w
  unfold kv_pt kw_gr
  by_cases h : i = k
  · subst h
    simp only [true_and, if_true]
    by_cases h3 : w = 3
    · simp only [h3, true_or, if_true]
    · by_cases h4 : w = 4
      · simp [h4]
      · by_cases h5 : w = 11
        · simp [h5]
        · simp only [h3, h4, h5, or_self, if_false]
  · simp only [h, false_and, if_false]
theorem kw_gr_fr (z : Nat → Nat → Int32) (a : Nat) (i : Int32) {c : Nat} (h : c ≠ a + 1) : kv_su (kv_su (kv_su z a i 11 0) a i 4 0) a i 3 0 c = z c := by
  rw [kw_su_fr _ _ _ _ _ h, kw_su_fr _ _ _ _ _ h, kw_su_fr _ _ _ _ _ h]
theorem kw_cut_l (hS : kv_isS e a) (c : Nat → Nat → Int32) {m : Int32} : ∀ (z1 : Nat → Nat → Int32) (v3 v4 : Option Value), z1 a 3 = m → kc z1 a = c → ∃ z', kv_Rn (d + 3) 25 98 [some (.ref 33), some (.ref a), some (.int (Int32.ofNat 0)), v3, v4] [] (kv_h e z1 zl) = some (none, kv_h e z' zl) ∧ (∀ c, c ≠ a → c ≠ a + 1 → z' c = z1 c) ∧ z' a = upd (z1 a) 3 (m + 1) ∧ kc z' a = kw_cut c := by
  intro z1 v3 v4 hm hc
  have hl := kv_up (fun k => ∀ z2, (∀ c, c ≠ a + 1 → z2 c = z1 c) → kc z2 a = kw_mix k c (kw_cut c) → ∃ z', kv_Rn (d + 3) 25 98 [some (.ref 33), some (.ref a), some (.int (Int32.ofNat k)), v3, v4] [] (kv_h e z2 zl) = some (none, kv_h e z' zl) ∧ (∀ c, c ≠ a → c ≠ a + 1 → z' c = z1 c) ∧ z' a = upd (z1 a) 3 (m + 1) ∧ kc z' a = kw_cut c) 8 ?_ ?_
  · exact hl z1 (fun _ _ => rfl) (by rw [hc]; funext i; unfold kw_mix; rw [if_neg (by omega)])
  · intro z2 hF hk
    have ea : z2 a = z1 a := hF a (by omega)
    refine ⟨kv_z z2 a (upd (z2 a) 3 (m + 1)), ?_, ?_, ?_, ?_⟩
    · rw [kv_e25_98]
      simp only [kv_e25_99, kv_e25_101, kv_e25_138, kv_e25_139, kv_e25_140, kv_e25_143, kv_e25_144, kv_e25_145, kv_e25_148, kv_o10, not_false_eq_true, not_true, if_true, if_false, kv_then_s, kv_then_v, kv_then_n, List.cons_append, List.nil_append, kv_Ci, kv_Cr, kv_Cn, kv_Cu, kv_C0, kv_catc, kv_gCi, kv_gCl, kv_gCr, kv_nb0, kv_nb1, kv_nbi, kv_nb01, Nat.reduceAdd, Nat.reduceLeDiff, kv_le88, hS, ea, hm]
    · intro c h1 h2
      rw [kv_zne _ _ h1, hF c h2]
    · rw [kv_zs, ea]
    · rw [kw_kc_fr (kv_zne _ _ (by omega)), hk]
      funext i
      unfold kw_mix
      by_cases h : i < 8
      · rw [if_pos h]
      · rw [if_neg h]
        unfold kw_cut
        rw [← hc, kw_kc_big z1 a i (by omega), if_neg (fun q => q.1 rfl)]
  · intro k hk ih z2 hF hx
    have hck : kc z2 a k = c k := by
      rw [hx]
      unfold kw_mix
      rw [if_neg (by omega)]
    by_cases hu : ¬ c k 11 = 0 ∧ kv_mx 1 (10 - 3 * c k 10) ≤ c k 9
    · obtain ⟨z', h1, h2⟩ := ih (kv_su (kv_su (kv_su z2 a (Int32.ofNat k) 11 0) a (Int32.ofNat k) 4 0) a (Int32.ofNat k) 3 0) (fun c h => (kw_gr_fr _ _ _ h).trans (hF c h)) (by
        rw [kw_gr_kc z2 a hk, hck, hx]
        funext i
        unfold kw_mix
        by_cases h : i = k
        · subst h
          rw [if_pos rfl, if_pos (by omega)]
          unfold kw_cut
          rw [if_pos hu]
        · rw [if_neg h]
          by_cases h6 : i < k
          · rw [if_pos h6, if_pos (by omega)]
          · rw [if_neg h6, if_neg (by omega)])
      refine ⟨z', ?_, h2⟩
      rw [← h1]
      rw [← hck] at hu
      have hu3 : ¬ kc z2 a k 9 < kv_mx 1 (10 - 3 * kc z2 a k 10) := Int32.not_lt.mpr hu.2
      conv => lhs; rw [kv_e25_98]
      simp only [kv_e25_99, kv_e25_101, kv_e25_104, kv_e25_105, kv_e25_106, kv_e25_109, kv_e25_112, kv_e25_113, kv_e25_114, kv_e25_116, kv_e25_119, kv_e25_120, kv_e25_121, kv_e25_124, kv_e25_127, kv_e25_128, kv_e25_129, kv_e25_132, kv_e25_135, kv_o10, not_false_eq_true, not_true, if_true, if_false, kv_then_s, kv_then_v, kv_then_n, List.cons_append, List.nil_append, kv_Ci, kv_Cr, kv_Cn, kv_Cu, kv_C0, kv_catc, kv_gCi, kv_gCl, kv_gCr, kv_nb0, kv_nb1, kv_nbi, kv_nb01, Nat.reduceAdd, Nat.reduceLeDiff, kv_le8 hk, hS, kv_flies, kv_get, kv_bears, kv_g11 z2 a hk, kv_g9 z2 a hk, kv_g10 z2 a hk, kv_i01, hu.1, hu3, kv_ground, kv_suc]
    · obtain ⟨z', h1, h2⟩ := ih z2 hF (by
        rw [hx]
        funext i
        unfold kw_mix
        by_cases h : i < k
        · rw [if_pos h, if_pos (by omega)]
        · rw [if_neg h]
          by_cases h2 : i = k
          · subst h2
            rw [if_pos (by omega)]
            unfold kw_cut
            rw [if_neg hu]
          · rw [if_neg (by omega)])
      refine ⟨z', ?_, h2⟩
      rw [← h1]
      rw [← hck] at hu
      conv => lhs; rw [kv_e25_98]
      by_cases c1 : kc z2 a k 11 = 0
      · simp only [kv_e25_99, kv_e25_101, kv_e25_104, kv_e25_105, kv_e25_106, kv_e25_109, kv_e25_132, kv_e25_135, kv_o10, not_false_eq_true, not_true, if_true, if_false, kv_then_s, kv_then_v, kv_then_n, List.cons_append, List.nil_append, kv_Ci, kv_Cr, kv_Cn, kv_Cu, kv_C0, kv_catc, kv_gCi, kv_gCl, kv_gCr, kv_nb0, kv_nb1, kv_nbi, kv_nb01, Nat.reduceAdd, Nat.reduceLeDiff, kv_le8 hk, hS, kv_flies, kv_g11 z2 a hk, c1, eq_self, kv_suc]
      · have hu3 : kc z2 a k 9 < kv_mx 1 (10 - 3 * kc z2 a k 10) := Int32.not_le.mp (fun q => hu ⟨c1, q⟩)
        simp only [kv_e25_99, kv_e25_101, kv_e25_104, kv_e25_105, kv_e25_106, kv_e25_109, kv_e25_112, kv_e25_113, kv_e25_114, kv_e25_116, kv_e25_119, kv_e25_120, kv_e25_121, kv_e25_124, kv_e25_132, kv_e25_135, kv_o10, not_false_eq_true, not_true, if_true, if_false, kv_then_s, kv_then_v, kv_then_n, List.cons_append, List.nil_append, kv_Ci, kv_Cr, kv_Cn, kv_Cu, kv_C0, kv_catc, kv_gCi, kv_gCl, kv_gCr, kv_nb0, kv_nb1, kv_nbi, kv_nb01, Nat.reduceAdd, Nat.reduceLeDiff, kv_le8 hk, hS, kv_flies, kv_get, kv_bears, kv_g11 z2 a hk, kv_g9 z2 a hk, kv_g10 z2 a hk, c1, hu3, kv_suc]
def kw_H (a : Nat) (z z' : Nat → Nat → Int32) : Prop := ∀ c, c ≠ a → c ≠ a + 1 → c ≠ 34 → c ≠ 35 → z' c = z c
theorem kw_rubS (hS : kv_isS e a) (h35 : 35 < a) : ∃ z', kv_Rn (d + 3) 25 0 [some (.ref 33), some (.ref a), none, none, none] [] (kv_h e z zl) = some (none, kv_h e z' zl) ∧ kw_H a z z' ∧ z' a = upd (z a) 3 (z a 3 + 1) ∧ kc z' a = kw_rub (kw_lf z (z 7 3)) (z a 3) (kc z a) := by
  obtain ⟨z1, v3, v4, h1, h2, h3⟩ := kw_rub_o (d := d) (e := e) (z := z) (zl := zl) hS h35 rfl
  have ea : z1 a = z a := h2 a (by omega) (by omega) (by omega)
  obtain ⟨z', h4, h5, h6, h7⟩ := kw_cut_l (d := d) (e := e) (zl := zl) hS (kw_rub1 (kw_lf z (z 7 3)) (z a 3) (kc z a)) (m := z a 3) z1 v3 v4 (by rw [ea]) h3
  exact ⟨z', h1.trans h4, fun c g1 g2 g3 g4 => (h5 c g1 g2).trans (h2 c g2 g3 g4), by rw [h6, ea], h7⟩
noncomputable def kw_pass (z : Nat → Nat → Int32) (m : Int32) (c : Nat → Nat → Int32) : Nat → Nat → Int32 := kw_rub (kw_lf z (z 7 3)) m (kw_climb (kw_lf z (z 7 2)) (kw_win z) (z 3 3) m c)
theorem kw_passS (hS : kv_isS e a) (h35 : 35 < a) (h9 : kw_air z) : ∃ z', kv_Rn (d + 4) 22 0 [some (.ref 33), some (.ref a)] [] (kv_h e z zl) = some (none, kv_h e z' zl) ∧ kw_H a z z' ∧ z' a = upd (z a) 3 (z a 3 + 1) ∧ kc z' a = kw_pass z (z a 3) (kc z a) := by
  obtain ⟨z1, h1, h2, h3⟩ := kw_climbS (d := d) (e := e) (z := z) (zl := zl) hS h35 h9
  have lo := kw_F_low h2 h35
  have ea : z1 a = z a := h2 a (by omega) (by omega) (by omega)
  obtain ⟨z2, h4, h5, h6, h7⟩ := kw_rubS (d := d) (e := e) (z := z1) (zl := zl) hS h35
  rw [ea] at h6
  rw [kw_lf_fr lo, lo 7 (by omega), ea, h3] at h7
  refine ⟨z2, ?_, fun c g1 g2 g3 g4 => (h5 c g1 g2 g3 g4).trans (h2 c g2 g3 g4), h6, h7⟩
  simp only [kv_e22_0, kv_e22_1, kv_e22_2, kv_e22_5, kv_e22_6, kv_e22_7, kv_e22_10, kv_o10, not_false_eq_true, not_true, if_true, if_false, kv_then_s, kv_then_v, kv_then_n, List.cons_append, List.nil_append, kv_Ci, kv_Cr, kv_Cn, kv_Cu, kv_C0, kv_catc, kv_gCi, kv_gCl, kv_gCr, kv_nb0, kv_nb1, kv_nbi, kv_nb01, Nat.reduceAdd, Nat.reduceLeDiff, h1, h4]
end
