/-! the model: heights, rubbing -/
section
variable {d n : Nat} {z : Nat → Nat → Int32} {zl : Nat → Nat → Int64}
def kw_ch (lf : Option ((Nat → Int32) → Int32)) (wd : Int32 → Int32 → Int32) (m : Int32) (c : Nat → Nat → Int32) : Nat → Nat → Int32 := fun k => if c k 11 = 0 then c k else kw_rh (kv_wi (c k 4 + kw_lift lf wd (c k) m) 0 (c k 3)) (c k)
theorem kw_ch_cp (lf : Option ((Nat → Int32) → Int32)) (wd : Int32 → Int32 → Int32) (pays m : Int32) (md : Nat → Int32) (c : Nat → Nat → Int32) : kw_ch lf wd m (kw_cp pays md c) = kw_climbM lf wd pays m md c := by
  funext k
  unfold kw_ch kw_climbM kw_cp
  by_cases h : c k 11 = 0
  · rw [if_pos h, if_pos h, if_pos h]
  · rw [if_neg h, if_neg h]
    rw [if_neg (show ¬ kw_rp (kw_paid pays (md k) (c k)) (c k) 11 = 0 from h)]
    rfl
theorem kw_0le {x : Int32} (h : 0 ≤ x.toInt) : (0 : Int32) ≤ x := by
  rw [Int32.le_iff_toInt_le]
  exact h
theorem kw_rise2 {lf : Option ((Nat → Int32) → Int32)} (hK : kw_K n z) (ha : kw_mair z) (hl : kw_MR z (z 0 27) lf) (hw : kw_okw (kw_mwin z)) (hm : kw_okm (z 16 104)) (hb : ∀ k, k < 8 → kw_okb (km z k)) (u2 u3 : Option Value) : ∃ z', kv_Rn (d + 5) 212 127 [some (.ref 0), some (.int (Int32.ofNat 0)), u2, u3] [] (kv_m z zl) = some (none, kv_m z' zl) ∧ kw_N z z' ∧ km z' = kw_ch lf (kw_mwin z) (z 16 104) (km z) ∧ z' 17 = z 17 := by
  have h8 := hK.1.2
  have hl := kv_up (fun k => ∀ (z1 : Nat → Nat → Int32), kw_N z z1 → z1 17 = z 17 → km z1 = kw_mix k (km z) (kw_ch lf (kw_mwin z) (z 16 104) (km z)) →
    ∃ z', kv_Rn (d + 5) 212 127 [some (.ref 0), some (.int (Int32.ofNat k)), u2, u3] [] (kv_m z1 zl) = some (none, kv_m z' zl) ∧ kw_N z z' ∧ km z' = kw_ch lf (kw_mwin z) (z 16 104) (km z) ∧ z' 17 = z 17) n ?_ ?_
  · exact hl z (kw_N_rf z) rfl (by funext i; unfold kw_mix; rw [if_neg (by omega)])
  · intro z1 hN h17 hm1
    refine ⟨z1, ?_, hN, ?_, h17⟩
    · rw [kv_e212_127]
      have e0 : z1 0 24 = Int32.ofNat n := by rw [hN.1 0 (by omega) (by omega) (by omega) (by omega) (by omega)]; exact hK.1.1
      simp only [kv_e212_128, kv_e212_129, kv_e212_132, kv_e212_181, kv_o10, not_false_eq_true, not_true, if_true, if_false, kv_then_s, kv_then_v, kv_then_n, List.cons_append, List.nil_append, kv_Ci, kv_Cr, kv_Cn, kv_Cu, kv_C0, kv_catc, kv_gCi, kv_gCl, kv_gCr, kv_nb0, kv_nb1, kv_nbi, kv_nb01, Nat.reduceAdd, Nat.reduceLeDiff, e0, kw_ln2 h8 (show n < 2147483648 by omega), Nat.le_refl]
    · rw [hm1]
      funext i
      unfold kw_mix
      by_cases h : i < n
      · rw [if_pos h]
      · rw [if_neg h]
        unfold kw_ch
        rw [if_pos ((hK.2 i).2 (by omega))]
  · intro k hk ih z1 hN h17 hm1
    have hk8 : k < 8 := by omega
    have hk2 : k < 2147483648 := by omega
    have hck : km z1 k = km z k := by
      rw [hm1]
      unfold kw_mix
      rw [if_neg (by omega)]
    have hK1 : kw_K n z1 := kw_N_K hK hN (fun i => by
      rw [hm1]
      unfold kw_mix kw_ch
      split
      · split
        · rfl
        · rfl
      · rfl)
    have e24 : z1 0 24 = Int32.ofNat n := hK1.1.1
    have e0 : z1 0 = z 0 := hN.1 0 (by omega) (by omega) (by omega) (by omega) (by omega)
    have e15 : z1 15 = z 15 := hN.1 15 (by omega) (by omega) (by omega) (by omega) (by omega)
    have em : z1 16 104 = z 16 104 := hN.2 104 (by omega)
    have ew : kw_mwin z1 = kw_mwin z := by
      unfold kw_mwin
      rw [e0, e15]
    by_cases hc : km z k 11 = 0
    · obtain ⟨z', h1, h2⟩ := ih z1 hN h17 (by
        rw [hm1]
        funext i
        unfold kw_mix
        by_cases h : i < k
        · rw [if_pos h, if_pos (by omega)]
        · rw [if_neg h]
          by_cases h2 : i = k
          · subst h2
            rw [if_pos (by omega)]
            unfold kw_ch
            rw [if_pos hc]
          · rw [if_neg (by omega)])
      refine ⟨z', ?_, h2⟩
      rw [← h1]
      conv => lhs; rw [kv_e212_127]
      simp only [kv_e212_128, kv_e212_129, kv_e212_132, kv_e212_135, kv_e212_136, kv_e212_137, kv_e212_140, kv_e212_175, kv_e212_178, kv_o10, not_false_eq_true, not_true, if_true, if_false, kv_then_s, kv_then_v, kv_then_n, List.cons_append, List.nil_append, kv_Ci, kv_Cr, kv_Cn, kv_Cu, kv_C0, kv_catc, kv_gCi, kv_gCl, kv_gCr, kv_nb0, kv_nb1, kv_nbi, kv_nb01, Nat.reduceAdd, Nat.reduceLeDiff, e24, kw_ln2 h8 hk2, eq_false (show ¬ n ≤ k by omega), kw_flies hK1 hk2, hck, hc, eq_self, kv_suc]
    · obtain ⟨z2, h3, f2⟩ := kw_mliftOf (d := d) (z := z1) (zl := zl) (lf := lf) (by unfold kw_mair; rw [e0]; exact ha) (by rw [e0]; exact kw_MR_fr hl (fun c a b => hN.1 c (by omega) (by omega) (by omega) (by omega) (by omega))) (by rw [ew]; exact hw) (by rw [em]; exact hm) hk8 (by rw [hck]; exact hb k hk8)
      rw [ew, em, hck] at h3
      have c2 : km z2 = km z1 := kw_km_fr (f2 16 (by omega) (by omega))
      obtain ⟨z', h1, h2⟩ := ih (kw_mu z2 k 4 (kv_wi (km z k 4 + kw_lift lf (kw_mwin z) (km z k) (z 16 104)) 0 (km z k 3))) (kw_N_tr (kw_N_tr hN (kw_N_of f2)) (kw_N_mu hk8 (by omega))) (by rw [kw_mu_fr _ _ _ _ (by omega), f2 17 (by omega) (by omega)]; exact h17) (by
        rw [kw_mu_km z2 hk8 (by omega), c2, hm1]
        funext i w
        unfold kv_pt kw_mix
        by_cases h : i = k
        · subst h
          simp only [true_and]
          rw [if_pos (show i < i + 1 by omega), if_neg (show ¬ i < i by omega)]
          unfold kw_ch kw_rh
          rw [if_neg hc]
        · simp only [h, false_and, if_false]
          by_cases h6 : i < k
          · rw [if_pos h6, if_pos (by omega)]
          · rw [if_neg h6, if_neg (by omega)])
      refine ⟨z', ?_, h2⟩
      rw [← h1]
      have hp : (0 : Int32) ≤ km z k 3 := kw_0le (hb k hk8).2.2.1.1
      conv => lhs; rw [kv_e212_127]
      simp only [kv_e212_128, kv_e212_129, kv_e212_132, kv_e212_135, kv_e212_136, kv_e212_137, kv_e212_140, kv_e212_143, kv_e212_144, kv_e212_145, kv_e212_146, kv_e212_147, kv_e212_148, kv_e212_149, kv_e212_151, kv_e212_154, kv_e212_155, kv_e212_156, kv_e212_157, kv_e212_160, kv_e212_161, kv_e212_162, kv_e212_165, kv_e212_166, kv_e212_169, kv_e212_172, kv_e212_175, kv_e212_178, kv_o10, not_false_eq_true, not_true, if_true, if_false, kv_then_s, kv_then_v, kv_then_n, List.cons_append, List.nil_append, kv_Ci, kv_Cr, kv_Cn, kv_Cu, kv_C0, kv_catc, kv_gCi, kv_gCl, kv_gCr, kv_nb0, kv_nb1, kv_nbi, kv_nb01, Nat.reduceAdd, Nat.reduceLeDiff, e24, kw_ln2 h8 hk2, eq_false (show ¬ n ≤ k by omega), kw_flies hK1 hk2, hck, hc, kw_of8 hk8, kw_of3 hk8, h3, kw_max_wi _ 0 _ hp, kw_put3 hk8, kv_suc]
theorem kw_okr_b {r : Nat → Int32} (h : kw_okr r) : kw_okb r := by
  obtain ⟨⟨h1, h2⟩, ⟨h3, h4⟩, h5, h6⟩ := h
  unfold kw_rg at h1 h2
  exact ⟨h1, ⟨h3, by omega⟩, ⟨by omega, by omega⟩, h2⟩
theorem kw_cp_b {pays : Int32} {md : Nat → Int32} {c : Nat → Nat → Int32} (h : kw_okc c) (hp : kw_rg pays 0 9) (k : Nat) : kw_okb (kw_cp pays md c k) := by
  unfold kw_cp
  split
  · exact kw_okr_b (h k)
  · have h1 := kw_paid_ok (mode := md k) (h k) hp
    obtain ⟨⟨g1, g2⟩, ⟨g3, g4⟩, g5, g6⟩ := h k
    exact ⟨g1, ⟨g3, by show (c k 4).toInt ≤ 99; omega⟩, ⟨h1.1, by show (kw_paid pays (md k) (c k)).toInt ≤ 99; omega⟩, g2⟩
theorem kw_riseS {lf : Option ((Nat → Int32) → Int32)} (hK : kw_K n z) (ha : kw_mair z) (hl : kw_MR z (z 0 27) lf) (hw : kw_okw (kw_mwin z)) (hm : kw_okm (z 16 104)) (hc : kw_okc (km z)) (hp : kw_rg (z 14 3) 0 9) : ∃ z', kv_Rn (d + 5) 212 0 [some (.ref 0), none, none, none] [] (kv_m z zl) = some (none, kv_m z' zl) ∧ kw_N z z' ∧ km z' = kw_climbM lf (kw_mwin z) (z 14 3) (z 16 104) (kw_md (z 17) (km z)) (km z) ∧ (∀ i, z' 17 i = if i < n then kw_dc (z 17 i) else z 17 i) := by
  obtain ⟨z1, v2, v3, h1, h2, h3, h4⟩ := kw_rise1 (d := d) (zl := zl) hK
  have e0 : z1 0 = z 0 := h2.1 0 (by omega) (by omega) (by omega) (by omega) (by omega)
  have e15 : z1 15 = z 15 := h2.1 15 (by omega) (by omega) (by omega) (by omega) (by omega)
  have em : z1 16 104 = z 16 104 := h2.2 104 (by omega)
  have ew : kw_mwin z1 = kw_mwin z := by
    unfold kw_mwin
    rw [e0, e15]
  have hK1 : kw_K n z1 := kw_N_K hK h2 (fun i => by
    rw [h3]
    unfold kw_cp
    split
    · rfl
    · rfl)
  obtain ⟨z', h5, h6, h7, h8⟩ := kw_rise2 (d := d) (zl := zl) (lf := lf) hK1 (by unfold kw_mair; rw [e0]; exact ha) (by rw [e0]; exact kw_MR_fr hl (fun c a b => h2.1 c (by omega) (by omega) (by omega) (by omega) (by omega))) (by rw [ew]; exact hw) (by rw [em]; exact hm) (fun k _ => by rw [h3]; exact kw_cp_b hc hp k) v2 v3
  refine ⟨z', h1.trans h5, kw_N_tr h2 h6, ?_, fun i => by rw [h8]; exact h4 i⟩
  rw [h7, h3, ew, em, kw_ch_cp]
end
