/-! the model: a minute -/
section
variable {d n : Nat} {z : Nat → Nat → Int32} {zl : Nat → Nat → Int64}
theorem kw_wsum_n {lf : Option ((Nat → Int32) → Int32)} {m : Int32} {c : Nat → Nat → Int32} (h : kw_01 n c) (h8 : n ≤ 8) (k : Nat) : kw_wsum lf m c k 8 = kw_wsum lf m c k n := by
  unfold kw_wsum
  have := kw_sm_ext (f := fun o => @ite _ (kw_tch (c k) (c o)) (Classical.propDecidable _) (kw_wear lf (c k) (c o) m) 0) (m := n) (8 - n) (fun o ho => if_neg (fun q => q.2.1 ((h o).2 ho)))
  rw [show n + (8 - n) = 8 from by omega] at this
  exact this
theorem kw_mrub_o {lf : Option ((Nat → Int32) → Int32)} (hK : kw_K n z) (hl : kw_MR z (z 0 28) lf) (hm : kw_okm (z 16 104)) (hb : ∀ k, k < 8 → kw_okb (km z k)) : ∃ z' v2 v3, kv_Rn (d + 5) 214 0 [some (.ref 0), none, none, none] [] (kv_m z zl) = kv_Rn (d + 5) 214 119 [some (.ref 0), some (.int 0), some (.int (Int32.ofNat 0)), v3] [] (kv_m z' zl) ∧ kw_M z z' ∧ (∀ i, i < n → z' 18 i = kw_ws lf (z 16 104) (km z) i 8) ∧ kv_c2 v2 = false := by
  have h8 := hK.1.2
  have hl := kv_up (fun k => ∀ (z1 : Nat → Nat → Int32) (u2 u3 : Option Value), kw_M z z1 → (∀ i, i < k → z1 18 i = kw_ws lf (z 16 104) (km z) i 8) →
    ∃ z' v2 v3, kv_Rn (d + 5) 214 2 [some (.ref 0), some (.int (Int32.ofNat k)), u2, u3] [] (kv_m z1 zl) = kv_Rn (d + 5) 214 119 [some (.ref 0), some (.int 0), some (.int (Int32.ofNat 0)), v3] [] (kv_m z' zl) ∧ kw_M z z' ∧ (∀ i, i < n → z' 18 i = kw_ws lf (z 16 104) (km z) i 8) ∧ kv_c2 v2 = false) n ?_ ?_
  · obtain ⟨z', v2, v3, h1, h2⟩ := hl z none none (fun _ _ _ _ => rfl) (fun i hi => by omega)
    refine ⟨z', v2, v3, ?_, h2⟩
    rw [← h1]
    simp only [kv_e214_0, kv_e214_1, kv_o10, not_false_eq_true, not_true, if_true, if_false, kv_then_s, kv_then_v, kv_then_n, List.cons_append, List.nil_append, kv_Ci, kv_Cr, kv_Cn, kv_Cu, kv_C0, kv_catc, kv_gCi, kv_gCl, kv_gCr, kv_nb0, kv_nb1, kv_nbi, kv_nb01, Nat.reduceAdd, Nat.reduceLeDiff]
    rfl
  · intro z1 u2 u3 hM hx
    refine ⟨z1, none, u3, ?_, hM, hx, rfl⟩
    have e24 : z1 0 24 = Int32.ofNat n := by rw [hM 0 (by omega) (by omega) (by omega)]; exact hK.1.1
    conv => lhs; rw [kv_e214_2]
    simp only [kv_e214_3, kv_e214_4, kv_e214_7, kv_e214_115, kv_e214_116, kv_e214_117, kv_e214_118, kv_o10, not_false_eq_true, not_true, if_true, if_false, kv_then_s, kv_then_v, kv_then_n, List.cons_append, List.nil_append, kv_Ci, kv_Cr, kv_Cn, kv_Cu, kv_C0, kv_catc, kv_gCi, kv_gCl, kv_gCr, kv_nb0, kv_nb1, kv_nbi, kv_nb01, Nat.reduceAdd, Nat.reduceLeDiff, e24, kw_ln2 h8 (show n < 2147483648 by omega), Nat.le_refl]
    rfl
  · intro k hk ih z1 u2 u3 hM hx
    have hk8 : k < 8 := by omega
    have hk2 : k < 2147483648 := by omega
    have e24 : z1 0 24 = Int32.ofNat n := by rw [hM 0 (by omega) (by omega) (by omega)]; exact hK.1.1
    obtain ⟨z2, v2, v3, h1, h2, h3, h4⟩ := kw_mrub_i (d := d) (zl := zl) hK hl hm hb hk 0 (by omega) (kv_z z1 18 (upd (z1 18) k 0)) u3 (fun c a1 a2 a3 => (kv_zne _ _ a3).trans (hM c a1 a2 a3)) (by
      rw [kv_zs]
      unfold upd kw_ws kw_wsum
      rw [if_pos rfl]
      split
      · rfl
      · rfl)
    obtain ⟨z', w2, w3, h5, h6⟩ := ih z2 v2 v3 h2 (fun i hi => by
      by_cases h : i = k
      · subst h
        rw [h3]
        unfold kw_ws
        rw [kw_wsum_n hK.2 h8]
      · rw [h4 i h, kv_zs]
        unfold upd
        rw [if_neg h]
        exact hx i (by omega))
    refine ⟨z', w2, w3, ?_, h6⟩
    rw [← h5, ← h1]
    conv => lhs; rw [kv_e214_2]
    simp only [kv_e214_3, kv_e214_4, kv_e214_7, kv_e214_10, kv_e214_11, kv_e214_14, kv_e214_15, kv_e214_16, kv_e214_17, kv_e214_18, kv_o10, not_false_eq_true, not_true, if_true, if_false, kv_then_s, kv_then_v, kv_then_n, List.cons_append, List.nil_append, kv_Ci, kv_Cr, kv_Cn, kv_Cu, kv_C0, kv_catc, kv_gCi, kv_gCl, kv_gCr, kv_nb0, kv_nb1, kv_nbi, kv_nb01, Nat.reduceAdd, Nat.reduceLeDiff, e24, kw_ln2 h8 hk2, eq_false (show ¬ n ≤ k by omega), kv_am18, kw_n0 hk2, kv_tn hk2, kv_lN hk8, or_self]
    rfl
theorem kw_mbears {k : Nat} (hk : k < 8) : kv_Rn (d + 1) 213 0 [some (.ref 0), some (.int (Int32.ofNat k))] [] (kv_m z zl) = some (some (.int (kv_mx 1 (10 - 3 * km z k 10))), kv_m z zl) := by
  simp only [kv_e213_0, kv_e213_1, kv_e213_3, kv_e213_4, kv_e213_5, kv_e213_6, kv_e213_8, kv_e213_11, kv_e213_12, kv_e213_13, kv_e213_16, kv_o10, not_false_eq_true, not_true, if_true, if_false, kv_then_s, kv_then_v, kv_then_n, List.cons_append, List.nil_append, kv_Ci, kv_Cr, kv_Cn, kv_Cu, kv_C0, kv_catc, kv_gCi, kv_gCl, kv_gCr, kv_nb0, kv_nb1, kv_nbi, kv_nb01, Nat.reduceAdd, Nat.reduceLeDiff, kw_of10 hk]
noncomputable def kw_cb (c c' : Nat → Nat → Int32) (n : Nat) : Int32 := kv_bs n (fun k => decide (¬ c k 11 = 0 ∧ c' k 11 = 0))
def kw_P (z z' : Nat → Nat → Int32) : Prop := ((∀ c, c ≠ 9 → c ≠ 10 → c ≠ 16 → c ≠ 17 → c ≠ 18 → z' c = z c) ∧ ∀ i, 105 ≤ i → z' 16 i = z 16 i) ∧ z' 16 104 = z 16 104 + 1
theorem kw_rub_11 (lf : Option ((Nat → Int32) → Int32)) (m : Int32) (c : Nat → Nat → Int32) (k : Nat) : kw_rub1 lf m c k 11 = c k 11 := by
  unfold kw_rub1
  split
  · rfl
  · rfl
theorem kw_rub1_ws (lf : Option ((Nat → Int32) → Int32)) (m : Int32) (c : Nat → Nat → Int32) (k : Nat) : kw_rub1 lf m c k = kw_rw (c k 9 + kw_ws lf m c k 8) (c k) := by
  unfold kw_rub1 kw_ws
  split
  · rfl
  · funext w
    unfold kw_rw
    by_cases h : w = 9
    · subst h
      rw [if_pos rfl, Int32.add_zero]
    · rw [if_neg h]
theorem kw_mcut {lf : Option ((Nat → Int32) → Int32)} {m : Int32} {c : Nat → Nat → Int32} (hK : kw_K n z) (hc : km z = c) (hw : ∀ i, i < n → z 18 i = kw_ws lf m c i 8) (u3 : Option Value) : ∃ z', kv_Rn (d + 5) 214 119 [some (.ref 0), some (.int 0), some (.int (Int32.ofNat 0)), u3] [] (kv_m z zl) = some (some (.int (kw_cb c (kw_rub lf m c) 8)), kv_m z' zl) ∧ kw_P z z' ∧ km z' = kw_rub lf m c ∧ z' 17 = z 17 := by
  have h8 := hK.1.2
  have h01 : kw_01 n c := hc ▸ hK.2
  have hcb : kw_cb c (kw_rub lf m c) 8 = kw_cb c (kw_rub lf m c) n := by
    unfold kw_cb
    have := kw_bs_ext (p := fun k => decide (¬ c k 11 = 0 ∧ kw_rub lf m c k 11 = 0)) (m := n) (8 - n) (fun k hk => by rw [(h01 k).2 hk]; simp only [not_true, false_and, decide_false])
    rw [show n + (8 - n) = 8 from by omega] at this
    exact this
  rw [hcb]
  have hl := kv_up (fun k => ∀ (z1 : Nat → Nat → Int32), kw_N z z1 → z1 17 = z 17 → z1 18 = z 18 → km z1 = kw_mix k c (kw_rub lf m c) →
    ∃ z', kv_Rn (d + 5) 214 119 [some (.ref 0), some (.int (kw_cb c (kw_rub lf m c) k)), some (.int (Int32.ofNat k)), u3] [] (kv_m z1 zl) = some (some (.int (kw_cb c (kw_rub lf m c) n)), kv_m z' zl) ∧ kw_P z z' ∧ km z' = kw_rub lf m c ∧ z' 17 = z 17) n ?_ ?_
  · exact hl z (kw_N_rf z) rfl rfl (by rw [hc]; funext i; unfold kw_mix; rw [if_neg (by omega)])
  · intro z1 hN h17 h18 hm1
    refine ⟨kv_z z1 16 (upd (z1 16) 104 (z1 16 104 + 1)), ?_, ⟨⟨fun b a1 a2 a3 a4 a5 => (kv_zne _ _ a3).trans (hN.1 b a1 a2 a3 a4 a5), fun i hi => ?_⟩, ?_⟩, ?_, ?_⟩
    · rw [kv_e214_119]
      have e0 : z1 0 24 = Int32.ofNat n := by rw [hN.1 0 (by omega) (by omega) (by omega) (by omega) (by omega)]; exact hK.1.1
      simp only [kv_e214_120, kv_e214_121, kv_e214_124, kv_e214_206, kv_e214_207, kv_e214_210, kv_e214_212, kv_e214_213, kv_e214_214, kv_e214_215, kv_e214_216, kv_e214_217, kv_e214_218, kv_o10, not_false_eq_true, not_true, if_true, if_false, kv_then_s, kv_then_v, kv_then_n, List.cons_append, List.nil_append, kv_Ci, kv_Cr, kv_Cn, kv_Cu, kv_C0, kv_catc, kv_gCi, kv_gCl, kv_gCr, kv_nb0, kv_nb1, kv_nbi, kv_nb01, Nat.reduceAdd, Nat.reduceLeDiff, e0, kw_ln2 h8 (show n < 2147483648 by omega), Nat.le_refl, kv_ar_lt (show 16 < 300 by omega), kv_rd_lt (show 16 < 300 by omega), kv_am16, kv_l104, kv_t104, or_self]
    · rw [kv_zs]
      unfold upd
      rw [if_neg (by omega)]
      exact hN.2 i (by omega)
    · rw [kv_zs]
      unfold upd
      rw [if_pos rfl, hN.2 104 (by omega)]
    · have hx : km (kv_z z1 16 (upd (z1 16) 104 (z1 16 104 + 1))) = km z1 := by
        funext k w
        unfold km
        by_cases h : k < 8 ∧ w < 13
        · rw [if_pos h, if_pos h, kv_zs]
          unfold upd
          have := kw_sg_lt h.2
          rw [if_neg (by omega)]
        · rw [if_neg h, if_neg h]
      rw [hx, hm1]
      funext i
      unfold kw_mix
      by_cases h : i < n
      · rw [if_pos h]
      · rw [if_neg h]
        have z11 := (h01 i).2 (by omega)
        have : kw_rub lf m c i = kw_rub1 lf m c i := by
          unfold kw_rub kw_cut
          rw [if_neg (fun q => q.1 ((kw_rub_11 lf m c i).trans z11))]
        rw [this]
        unfold kw_rub1
        rw [if_neg (fun q => q.1 z11)]
    · exact (kv_zne _ _ (by omega)).trans h17
  · intro k hk ih z1 hN h17 h18 hm1
    have hk8 : k < 8 := by omega
    have hk2 : k < 2147483648 := by omega
    have hck : km z1 k = c k := by
      rw [hm1]
      unfold kw_mix
      rw [if_neg (by omega)]
    have x18 : z1 18 k = kw_ws lf m c k 8 := by rw [h18]; exact hw k hk
    have e24 : z1 0 24 = Int32.ofNat n := by rw [hN.1 0 (by omega) (by omega) (by omega) (by omega) (by omega)]; exact hK.1.1
    -- the row with what it wore
    have hr : km (kw_mu z1 k 9 (c k 9 + kw_ws lf m c k 8)) k = kw_rub1 lf m c k := by
      rw [kw_mu_km z1 hk8 (by omega), kw_rub1_ws]
      funext w
      unfold kv_pt kw_rw
      simp only [true_and, hck]
    have h01r : ∀ i, kw_rub lf m c i 11 = 0 ∨ kw_rub lf m c i 11 = 1 := by
      intro i
      unfold kw_rub kw_cut
      split
      · left; rfl
      · rw [kw_rub_11]; exact (h01 i).1
    have hK2 : kw_K n (kw_mu z1 k 9 (c k 9 + kw_ws lf m c k 8)) := by
      refine ⟨⟨by rw [kw_mu_fr _ _ _ _ (by omega)]; exact e24, h8⟩, fun i => ?_⟩
      rw [kw_mu_km z1 hk8 (by omega), hm1]
      unfold kv_pt kw_mix
      rw [if_neg (by omega)]
      by_cases h : i < k
      · rw [if_pos h]
        exact ⟨h01r i, fun q => by omega⟩
      · rw [if_neg h]
        exact h01 i
    have n1 : kw_N z (kw_mu z1 k 9 (c k 9 + kw_ws lf m c k 8)) := kw_N_tr hN (kw_N_mu hk8 (by omega))
    have hcs : kw_cb c (kw_rub lf m c) (k + 1) = if decide (¬ c k 11 = 0 ∧ kw_rub lf m c k 11 = 0) = true then kw_cb c (kw_rub lf m c) k ||| ((1 : Int32) <<< (Int32.ofNat k &&& 31)) else kw_cb c (kw_rub lf m c) k := rfl
    have r11 : km (kw_mu z1 k 9 (c k 9 + kw_ws lf m c k 8)) k 11 = c k 11 := by rw [hr, kw_rub_11]
    by_cases hu : ¬ kw_rub1 lf m c k 11 = 0 ∧ kv_mx 1 (10 - 3 * kw_rub1 lf m c k 10) ≤ kw_rub1 lf m c k 9
    · have e1 : kw_rub lf m c k = kw_gr (kw_rub1 lf m c k) := by
        unfold kw_rub kw_cut
        rw [if_pos hu]
      have e2 : ¬ c k 11 = 0 := by rw [← kw_rub_11 lf m c k]; exact hu.1
      have e3 : kw_rub lf m c k 11 = 0 := by rw [e1]; rfl
      rw [if_pos (by rw [e3]; exact decide_eq_true ⟨e2, rfl⟩)] at hcs
      obtain ⟨z', h1, h2⟩ := ih (kw_mu (kw_mu (kw_mu (kw_mu z1 k 9 (c k 9 + kw_ws lf m c k 8)) k 11 0) k 4 0) k 3 0) (kw_N_tr (kw_N_tr (kw_N_tr n1 (kw_N_mu hk8 (by omega))) (kw_N_mu hk8 (by omega))) (kw_N_mu hk8 (by omega))) (by rw [kw_mu_fr _ _ _ _ (by omega), kw_mu_fr _ _ _ _ (by omega), kw_mu_fr _ _ _ _ (by omega), kw_mu_fr _ _ _ _ (by omega)]; exact h17) (by rw [kw_mu_fr _ _ _ _ (by omega), kw_mu_fr _ _ _ _ (by omega), kw_mu_fr _ _ _ _ (by omega), kw_mu_fr _ _ _ _ (by omega)]; exact h18) (by
        rw [kw_mu_km _ hk8 (by omega), kw_mu_km _ hk8 (by omega), kw_mu_km _ hk8 (by omega)]
        funext i w
        by_cases h : i = k
        · subst h
          have e5 : kw_mix (i + 1) c (kw_rub lf m c) i w = kw_gr (kw_rub1 lf m c i) w := by
            unfold kw_mix
            rw [if_pos (by omega), e1]
          rw [e5, ← hr]
          unfold kv_pt kw_gr
          simp only [true_and]
          by_cases h3 : w = 3
          · simp [h3]
          · by_cases h4 : w = 4
            · simp [h4]
            · by_cases h5 : w = 11
              · simp [h5]
              · simp only [h3, h4, h5, or_self, if_false]
        · rw [kw_mu_km z1 hk8 (by omega), hm1]
          unfold kv_pt kw_mix
          simp only [h, false_and, if_false]
          by_cases h6 : i < k
          · rw [if_pos h6, if_pos (by omega)]
          · rw [if_neg h6, if_neg (by omega)])
      refine ⟨z', ?_, h2⟩
      rw [← h1, hcs]
      have hu3 : ¬ kw_rub1 lf m c k 9 < kv_mx 1 (10 - 3 * kw_rub1 lf m c k 10) := Int32.not_lt.mpr hu.2
      conv => lhs; rw [kv_e214_119]
      simp only [kv_e214_120, kv_e214_121, kv_e214_124, kv_e214_127, kv_e214_128, kv_e214_129, kv_e214_131, kv_e214_132, kv_e214_133, kv_e214_135, kv_e214_138, kv_e214_139, kv_e214_142, kv_e214_143, kv_e214_144, kv_e214_145, kv_e214_148, kv_e214_149, kv_e214_150, kv_e214_153, kv_e214_156, kv_e214_157, kv_e214_158, kv_e214_160, kv_e214_163, kv_e214_164, kv_e214_165, kv_e214_168, kv_e214_171, kv_e214_172, kv_e214_173, kv_e214_174, kv_e214_175, kv_e214_176, kv_e214_177, kv_e214_178, kv_e214_179, kv_e214_181, kv_e214_182, kv_e214_185, kv_e214_186, kv_e214_187, kv_e214_188, kv_e214_189, kv_e214_192, kv_e214_193, kv_e214_194, kv_e214_196, kv_e214_197, kv_e214_200, kv_e214_203, kv_o10, not_false_eq_true, not_true, if_true, if_false, kv_then_s, kv_then_v, kv_then_n, List.cons_append, List.nil_append, kv_Ci, kv_Cr, kv_Cn, kv_Cu, kv_C0, kv_catc, kv_gCi, kv_gCl, kv_gCr, kv_nb0, kv_nb1, kv_nbi, kv_nb01, Nat.reduceAdd, Nat.reduceLeDiff, e24, kw_ln2 h8 hk2, eq_false (show ¬ n ≤ k by omega), kw_of9 hk8, hck, kv_ar_lt (show 18 < 300 by omega), kv_rd_lt (show 18 < 300 by omega), kv_am18, kw_n0 hk2, kv_tn hk2, kv_lN hk8, or_self, x18, kw_put9 hk8, kw_flies hK2 hk2, r11, e2, hr, kw_mbears hk8, hu3, kw_put11 hk8, kw_put3 hk8, kw_put8 hk8, kv_suc]
    · have e1 : kw_rub lf m c k = kw_rub1 lf m c k := by
        unfold kw_rub kw_cut
        rw [if_neg hu]
      have e3 : kw_rub lf m c k 11 = c k 11 := by rw [e1, kw_rub_11]
      rw [if_neg (by rw [e3]; simp)] at hcs
      obtain ⟨z', h1, h2⟩ := ih (kw_mu z1 k 9 (c k 9 + kw_ws lf m c k 8)) n1 (by rw [kw_mu_fr _ _ _ _ (by omega)]; exact h17) (by rw [kw_mu_fr _ _ _ _ (by omega)]; exact h18) (by
        funext i w
        by_cases h : i = k
        · subst h
          have e5 : kw_mix (i + 1) c (kw_rub lf m c) i w = kw_rub1 lf m c i w := by
            unfold kw_mix
            rw [if_pos (by omega), e1]
          rw [e5, ← hr]
        · rw [kw_mu_km z1 hk8 (by omega), hm1]
          unfold kv_pt kw_mix
          simp only [h, false_and, if_false]
          by_cases h6 : i < k
          · rw [if_pos h6, if_pos (by omega)]
          · rw [if_neg h6, if_neg (by omega)])
      refine ⟨z', ?_, h2⟩
      rw [← h1, hcs]
      conv => lhs; rw [kv_e214_119]
      by_cases c1 : c k 11 = 0
      · simp only [kv_e214_120, kv_e214_121, kv_e214_124, kv_e214_127, kv_e214_128, kv_e214_129, kv_e214_131, kv_e214_132, kv_e214_133, kv_e214_135, kv_e214_138, kv_e214_139, kv_e214_142, kv_e214_143, kv_e214_144, kv_e214_145, kv_e214_148, kv_e214_149, kv_e214_150, kv_e214_153, kv_e214_200, kv_e214_203, kv_o10, not_false_eq_true, not_true, if_true, if_false, kv_then_s, kv_then_v, kv_then_n, List.cons_append, List.nil_append, kv_Ci, kv_Cr, kv_Cn, kv_Cu, kv_C0, kv_catc, kv_gCi, kv_gCl, kv_gCr, kv_nb0, kv_nb1, kv_nbi, kv_nb01, Nat.reduceAdd, Nat.reduceLeDiff, e24, kw_ln2 h8 hk2, eq_false (show ¬ n ≤ k by omega), kw_of9 hk8, hck, kv_ar_lt (show 18 < 300 by omega), kv_rd_lt (show 18 < 300 by omega), kv_am18, kw_n0 hk2, kv_tn hk2, kv_lN hk8, or_self, x18, kw_put9 hk8, kw_flies hK2 hk2, r11, c1, eq_self, kv_suc]
      · have hu3 : kw_rub1 lf m c k 9 < kv_mx 1 (10 - 3 * kw_rub1 lf m c k 10) := Int32.not_le.mp (fun q => hu ⟨by rw [kw_rub_11]; exact c1, q⟩)
        simp only [kv_e214_120, kv_e214_121, kv_e214_124, kv_e214_127, kv_e214_128, kv_e214_129, kv_e214_131, kv_e214_132, kv_e214_133, kv_e214_135, kv_e214_138, kv_e214_139, kv_e214_142, kv_e214_143, kv_e214_144, kv_e214_145, kv_e214_148, kv_e214_149, kv_e214_150, kv_e214_153, kv_e214_156, kv_e214_157, kv_e214_158, kv_e214_160, kv_e214_163, kv_e214_164, kv_e214_165, kv_e214_168, kv_e214_200, kv_e214_203, kv_o10, not_false_eq_true, not_true, if_true, if_false, kv_then_s, kv_then_v, kv_then_n, List.cons_append, List.nil_append, kv_Ci, kv_Cr, kv_Cn, kv_Cu, kv_C0, kv_catc, kv_gCi, kv_gCl, kv_gCr, kv_nb0, kv_nb1, kv_nbi, kv_nb01, Nat.reduceAdd, Nat.reduceLeDiff, e24, kw_ln2 h8 hk2, eq_false (show ¬ n ≤ k by omega), kw_of9 hk8, hck, kv_ar_lt (show 18 < 300 by omega), kv_rd_lt (show 18 < 300 by omega), kv_am18, kw_n0 hk2, kv_tn hk2, kv_lN hk8, or_self, x18, kw_put9 hk8, kw_flies hK2 hk2, r11, c1, hr, kw_mbears hk8, hu3, kv_suc]
end
