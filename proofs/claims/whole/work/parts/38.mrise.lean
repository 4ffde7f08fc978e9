/-! the model: rising -/
section
variable {d n : Nat} {z : Nat → Nat → Int32} {zl : Nat → Nat → Int64}
def kw_okr (r : Nat → Int32) : Prop := (kw_rg (r 1) 0 9 ∧ kw_rg (r 6) 0 9) ∧ (0 ≤ (r 4).toInt ∧ (r 4).toInt ≤ (r 3).toInt) ∧ (r 3).toInt ≤ (r 2).toInt ∧ (r 2).toInt ≤ 99
def kw_okc (c : Nat → Nat → Int32) : Prop := ∀ k, kw_okr (c k)
theorem kw_tadd {x y : Int32} (h1 : -1000000000 ≤ x.toInt + y.toInt) (h2 : x.toInt + y.toInt ≤ 1000000000) : (x + y).toInt = x.toInt + y.toInt := by
  rw [Int32.toInt_add]
  exact Int.bmod_eq_of_le (by omega) (by omega)
theorem kw_tsub {x y : Int32} (h1 : -1000000000 ≤ x.toInt - y.toInt) (h2 : x.toInt - y.toInt ≤ 1000000000) : (x - y).toInt = x.toInt - y.toInt := by
  rw [Int32.toInt_sub]
  exact Int.bmod_eq_of_le (by omega) (by omega)
theorem kw_mn_t (x y : Int32) : (kv_mn x y).toInt = min x.toInt y.toInt := by
  unfold kv_mn
  by_cases h : y < x
  · rw [if_pos h]
    rw [Int32.lt_iff_toInt_lt] at h
    omega
  · rw [if_neg h]
    rw [Int32.lt_iff_toInt_lt] at h
    omega
theorem kw_mx_t (x y : Int32) : (kv_mx x y).toInt = max x.toInt y.toInt := by
  unfold kv_mx
  by_cases h : x < y
  · rw [if_pos h]
    rw [Int32.lt_iff_toInt_lt] at h
    omega
  · rw [if_neg h]
    rw [Int32.lt_iff_toInt_lt] at h
    omega
theorem kw_0t : (0 : Int32).toInt = 0 := id rfl
theorem kw_paid_ok {r : Nat → Int32} {pays mode : Int32} (h : kw_okr r) (hp : kw_rg pays 0 9) : 0 ≤ (kw_paid pays mode r).toInt ∧ (kw_paid pays mode r).toInt ≤ (r 2).toInt := by
  obtain ⟨⟨-, -⟩, ⟨h1, h2⟩, h3, h4⟩ := h
  unfold kw_rg at hp
  unfold kw_paid
  by_cases m1 : mode = 1
  · rw [if_pos m1, kw_mn_t, kw_tadd (by omega) (by omega)]
    omega
  · by_cases m2 : mode = 2
    · rw [if_neg m1, if_pos m2, kw_mx_t, kw_tsub (by omega) (by omega), kw_0t]
      omega
    · rw [if_neg m1, if_neg m2]
      omega
theorem kw_wi_t {v hi : Int32} (h : 0 ≤ hi.toInt) : 0 ≤ (kv_wi v 0 hi).toInt ∧ (kv_wi v 0 hi).toInt ≤ hi.toInt := by
  unfold kv_wi
  by_cases h1 : v < 0
  · rw [if_pos h1, kw_0t]
    omega
  · rw [if_neg h1]
    by_cases h2 : hi < v
    · rw [if_pos h2]
      omega
    · rw [if_neg h2]
      rw [Int32.lt_iff_toInt_lt, kw_0t] at h1
      rw [Int32.lt_iff_toInt_lt] at h2
      omega
theorem kw_cl_ok {lf : Option ((Nat → Int32) → Int32)} {wd : Int32 → Int32 → Int32} {pays m mode : Int32} {r : Nat → Int32} (h : kw_okr r) (hp : kw_rg pays 0 9) : kw_okr (kw_cl lf wd pays m mode r) := by
  have h1 := kw_paid_ok (mode := mode) h hp
  obtain ⟨⟨h2, h3⟩, -, -, h4⟩ := h
  unfold kw_cl kw_rh kw_rp
  have h5 := kw_wi_t (v := r 4 + kw_lift lf wd (fun w => if w = 3 then kw_paid pays mode r else r w) m) h1.1
  exact ⟨⟨h2, h3⟩, h5, h1.2, h4⟩
def kw_climbM (lf : Option ((Nat → Int32) → Int32)) (wd : Int32 → Int32 → Int32) (pays m : Int32) (md : Nat → Int32) (c : Nat → Nat → Int32) : Nat → Nat → Int32 := fun k => if c k 11 = 0 then c k else kw_cl lf wd pays m (md k) (c k)
theorem kw_climb_M (lf : Option ((Nat → Int32) → Int32)) (wd : Int32 → Int32 → Int32) (pays m : Int32) (c : Nat → Nat → Int32) : kw_climb lf wd pays m c = kw_climbM lf wd pays m (fun k => c k 8) c := rfl
def kw_cp (pays : Int32) (md : Nat → Int32) (c : Nat → Nat → Int32) : Nat → Nat → Int32 := fun k => if c k 11 = 0 then c k else kw_rp (kw_paid pays (md k) (c k)) (c k)
def kw_md (dl : Nat → Int32) (c : Nat → Nat → Int32) : Nat → Int32 := fun k => if dl k = -1 then c k 8 else if dl k = 0 then 1 else 0
def kw_dc (x : Int32) : Int32 := if x ≤ 0 then x else x - 1
def kw_N (z z' : Nat → Nat → Int32) : Prop := (∀ c, c ≠ 9 → c ≠ 10 → c ≠ 16 → c ≠ 17 → c ≠ 18 → z' c = z c) ∧ ∀ i, 104 ≤ i → z' 16 i = z 16 i
theorem kw_N_rf (z : Nat → Nat → Int32) : kw_N z z := ⟨fun _ _ _ _ _ _ => rfl, fun _ _ => rfl⟩
theorem kw_N_tr {z z1 z2 : Nat → Nat → Int32} (h : kw_N z z1) (g : kw_N z1 z2) : kw_N z z2 := ⟨fun c a1 a2 a3 a4 a5 => (g.1 c a1 a2 a3 a4 a5).trans (h.1 c a1 a2 a3 a4 a5), fun i hi => (g.2 i hi).trans (h.2 i hi)⟩
theorem kw_N_mu {z : Nat → Nat → Int32} {k w : Nat} {v : Int32} (hk : k < 8) (hw : w < 13) : kw_N z (kw_mu z k w v) := by
  refine ⟨fun c a1 a2 a3 a4 a5 => kw_mu_fr _ _ _ _ a3, fun i hi => ?_⟩
  unfold kw_mu
  rw [kv_zs]
  unfold upd
  have := kw_sg_lt hw
  rw [if_neg (by omega)]
theorem kw_N_z {z : Nat → Nat → Int32} {c : Nat} {f : Nat → Int32} (h : c = 9 ∨ c = 10 ∨ c = 17 ∨ c = 18) : kw_N z (kv_z z c f) :=
  ⟨fun b a1 a2 a3 a4 a5 => kv_zne _ _ (by omega), fun i hi => by rw [kv_zne _ _ (by omega)]⟩
theorem kw_N_of {z z' : Nat → Nat → Int32} (h : ∀ c, c ≠ 9 → c ≠ 10 → z' c = z c) : kw_N z z' := ⟨fun c a1 a2 _ _ _ => h c a1 a2, fun i hi => by rw [h 16 (by omega) (by omega)]⟩
theorem kw_km_fr {z z' : Nat → Nat → Int32} (h : z' 16 = z 16) : km z' = km z := by
  unfold km
  rw [h]
theorem kw_km_big (z : Nat → Nat → Int32) (k : Nat) (h : 8 ≤ k) : km z k = fun _ => 0 := by
  funext w
  unfold km
  rw [if_neg (by omega)]
theorem kw_N_K {z z' : Nat → Nat → Int32} (hK : kw_K n z) (h : kw_N z z') (g : ∀ k, km z' k 11 = km z k 11) : kw_K n z' := by
  refine ⟨⟨by rw [h.1 0 (by omega) (by omega) (by omega) (by omega) (by omega)]; exact hK.1.1, hK.1.2⟩, fun k => ?_⟩
  rw [g k]
  exact hK.2 k
theorem kw_modeOf {k : Nat} (hk : k < 8) : kv_Rn (d + 1) 211 0 [some (.ref 0), some (.int (Int32.ofNat k))] [] (kv_m z zl) = some (some (.int (kw_md (z 17) (km z) k)), kv_m z zl) := by
  have hk2 : k < 2147483648 := by omega
  simp only [kv_e211_0, kv_e211_1, kv_e211_4, kv_e211_5, kv_e211_6, kv_e211_7, kv_e211_10, kv_e211_11, kv_e211_12, kv_e211_14, kv_e211_17, kv_e211_20, kv_e211_21, kv_e211_24, kv_e211_25, kv_e211_26, kv_e211_29, kv_e211_30, kv_e211_33, kv_e211_34, kv_o10, not_false_eq_true, not_true, if_true, if_false, kv_then_s, kv_then_v, kv_then_n, List.cons_append, List.nil_append, kv_Ci, kv_Cr, kv_Cn, kv_Cu, kv_C0, kv_catc, kv_gCi, kv_gCl, kv_gCr, kv_nb0, kv_nb1, kv_nbi, kv_nb01, Nat.reduceAdd, Nat.reduceLeDiff, kv_ar_lt (show 17 < 300 by omega), kv_rd_lt (show 17 < 300 by omega), kv_am17, kw_n0 hk2, kv_tn hk2, kv_lN hk, or_self, kw_of7 hk]
  unfold kw_md
  by_cases c1 : z 17 k = -1
  · simp only [c1, kv_o10, not_false_eq_true, not_true, if_true, if_false, kv_then_s, kv_then_v, kv_then_n, List.cons_append, List.nil_append, kv_Ci, kv_Cr, kv_Cn, kv_Cu, kv_C0, kv_catc, kv_gCi, kv_gCl, kv_gCr, kv_nb0, kv_nb1, kv_nbi, kv_nb01, Nat.reduceAdd, Nat.reduceLeDiff, eq_self]
  · by_cases c2 : z 17 k = 0
    · simp only [c1, c2, kv_o10, not_false_eq_true, not_true, if_true, if_false, kv_then_s, kv_then_v, kv_then_n, List.cons_append, List.nil_append, kv_Ci, kv_Cr, kv_Cn, kv_Cu, kv_C0, kv_catc, kv_gCi, kv_gCl, kv_gCr, kv_nb0, kv_nb1, kv_nbi, kv_nb01, Nat.reduceAdd, Nat.reduceLeDiff, eq_self, show ((0 : Int32) = -1) = False from by decide]
    · simp only [c1, c2, kv_o10, not_false_eq_true, not_true, if_true, if_false, kv_then_s, kv_then_v, kv_then_n, List.cons_append, List.nil_append, kv_Ci, kv_Cr, kv_Cn, kv_Cu, kv_C0, kv_catc, kv_gCi, kv_gCl, kv_gCr, kv_nb0, kv_nb1, kv_nbi, kv_nb01, Nat.reduceAdd, Nat.reduceLeDiff]
/-- first loop -/
theorem kw_rise1 (hK : kw_K n z) : ∃ z' v2 v3, kv_Rn (d + 5) 212 0 [some (.ref 0), none, none, none] [] (kv_m z zl) = kv_Rn (d + 5) 212 127 [some (.ref 0), some (.int (Int32.ofNat 0)), v2, v3] [] (kv_m z' zl) ∧ kw_N z z' ∧ km z' = kw_cp (z 14 3) (kw_md (z 17) (km z)) (km z) ∧ (∀ i, z' 17 i = if i < n then kw_dc (z 17 i) else z 17 i) := by
  have h8 := hK.1.2
  have hl := kv_up (fun k => ∀ (z1 : Nat → Nat → Int32) (u2 u3 : Option Value), kw_N z z1 → km z1 = kw_mix k (km z) (kw_cp (z 14 3) (kw_md (z 17) (km z)) (km z)) → (∀ i, z1 17 i = if i < k then kw_dc (z 17 i) else z 17 i) → kv_c2 u2 = false →
    ∃ z' v2 v3, kv_Rn (d + 5) 212 2 [some (.ref 0), some (.int (Int32.ofNat k)), u2, u3] [] (kv_m z1 zl) = kv_Rn (d + 5) 212 127 [some (.ref 0), some (.int (Int32.ofNat 0)), v2, v3] [] (kv_m z' zl) ∧ kw_N z z' ∧ km z' = kw_cp (z 14 3) (kw_md (z 17) (km z)) (km z) ∧ (∀ i, z' 17 i = if i < n then kw_dc (z 17 i) else z 17 i)) n ?_ ?_
  · obtain ⟨z', v2, v3, h1, h2⟩ := hl z none none (kw_N_rf z) (by funext i; unfold kw_mix; rw [if_neg (by omega)]) (fun i => by rw [if_neg (by omega)]) rfl
    refine ⟨z', v2, v3, ?_, h2⟩
    rw [← h1]
    simp only [kv_e212_0, kv_e212_1, kv_o10, not_false_eq_true, not_true, if_true, if_false, kv_then_s, kv_then_v, kv_then_n, List.cons_append, List.nil_append, kv_Ci, kv_Cr, kv_Cn, kv_Cu, kv_C0, kv_catc, kv_gCi, kv_gCl, kv_gCr, kv_nb0, kv_nb1, kv_nbi, kv_nb01, Nat.reduceAdd, Nat.reduceLeDiff]
    rfl
  · intro z1 u2 u3 hN hm hd q2
    refine ⟨z1, u2, u3, ?_, hN, ?_, hd⟩
    · conv => lhs; rw [kv_e212_2]
      have e0 : z1 0 24 = Int32.ofNat n := by rw [hN.1 0 (by omega) (by omega) (by omega) (by omega) (by omega)]; exact hK.1.1
      simp only [kv_e212_3, kv_e212_4, kv_e212_7, kv_e212_125, kv_e212_126, kv_o10, not_false_eq_true, not_true, if_true, if_false, kv_then_s, kv_then_v, kv_then_n, List.cons_append, List.nil_append, kv_Ci, kv_Cr, kv_Cn, kv_Cu, kv_C0, kv_catc, kv_gCi, kv_gCl, kv_gCr, kv_nb0, kv_nb1, kv_nbi, kv_nb01, Nat.reduceAdd, Nat.reduceLeDiff, e0, kw_ln2 h8 (show n < 2147483648 by omega), Nat.le_refl]
      rfl
    · rw [hm]
      funext i
      unfold kw_mix
      by_cases h : i < n
      · rw [if_pos h]
      · rw [if_neg h]
        unfold kw_cp
        rw [if_pos ((hK.2 i).2 (by omega))]
  · intro k hk ih z1 u2 u3 hN hm hd q2
    have hk8 : k < 8 := by omega
    have hk2 : k < 2147483648 := by omega
    have e0 : z1 0 = z 0 := hN.1 0 (by omega) (by omega) (by omega) (by omega) (by omega)
    have e14 : z1 14 = z 14 := hN.1 14 (by omega) (by omega) (by omega) (by omega) (by omega)
    have hck : km z1 k = km z k := by
      rw [hm]
      unfold kw_mix
      rw [if_neg (by omega)]
    have hdk : z1 17 k = z 17 k := by rw [hd k, if_neg (by omega)]
    have hmd : kw_md (z1 17) (km z1) k = kw_md (z 17) (km z) k := by
      unfold kw_md
      rw [hdk, hck]
    have hK1 : kw_K n z1 := kw_N_K hK hN (fun i => by
      rw [hm]
      unfold kw_mix kw_cp
      split
      · split
        · rfl
        · rfl
      · rfl)
    have e24 : z1 0 24 = Int32.ofNat n := hK1.1.1
    -- the delay's part, from any cells
    have tl : ∀ (z2 : Nat → Nat → Int32) (w2 w3 : Option Value), kw_N z z2 → z2 17 = z1 17 → km z2 = kw_mix (k + 1) (km z) (kw_cp (z 14 3) (kw_md (z 17) (km z)) (km z)) → kv_c2 w2 = false → ∃ z' v2 v3, kv_Rn (d + 5) 212 87 [some (.ref 0), some (.int (Int32.ofNat k)), w2, w3] [] (kv_m z2 zl) = kv_Rn (d + 5) 212 127 [some (.ref 0), some (.int (Int32.ofNat 0)), v2, v3] [] (kv_m z' zl) ∧ kw_N z z' ∧ km z' = kw_cp (z 14 3) (kw_md (z 17) (km z)) (km z) ∧ (∀ i, z' 17 i = if i < n then kw_dc (z 17 i) else z 17 i) := by
      intro z2 w2 w3 g1 g2 g3 g4
      obtain ⟨z', v2, v3, h1, h2⟩ := ih (kv_z z2 17 (upd (z2 17) k (kw_dc (z 17 k)))) w2 w3 (kw_N_tr g1 (kw_N_z (by omega))) (by rw [kw_km_fr (kv_zne _ _ (by omega))]; exact g3) (fun i => by
        rw [kv_zs]
        unfold upd
        by_cases h : i = k
        · subst h
          rw [if_pos rfl, if_pos (by omega)]
        · rw [if_neg h, g2, hd i]
          by_cases h5 : i < k
          · rw [if_pos h5, if_pos (by omega)]
          · rw [if_neg h5, if_neg (by omega)]) g4
      refine ⟨z', v2, v3, ?_, h2⟩
      rw [← h1]
      unfold kw_dc
      rw [← hdk, ← g2]
      by_cases c1 : z2 17 k ≤ 0
      · simp only [kv_e212_87, kv_e212_88, kv_e212_91, kv_e212_92, kv_e212_93, kv_e212_96, kv_e212_97, kv_e212_98, kv_e212_112, kv_e212_113, kv_e212_116, kv_e212_117, kv_e212_118, kv_e212_119, kv_e212_122, kv_o10, not_false_eq_true, not_true, if_true, if_false, kv_then_s, kv_then_v, kv_then_n, List.cons_append, List.nil_append, kv_Ci, kv_Cr, kv_Cn, kv_Cu, kv_C0, kv_catc, kv_gCi, kv_gCl, kv_gCr, kv_nb0, kv_nb1, kv_nbi, kv_nb01, Nat.reduceAdd, Nat.reduceLeDiff, kv_ar_lt (show 17 < 300 by omega), kv_rd_lt (show 17 < 300 by omega), kv_am17, kw_n0 hk2, kv_tn hk2, kv_lN hk8, or_self, c1, kv_suc]
      · simp only [kv_e212_87, kv_e212_88, kv_e212_91, kv_e212_92, kv_e212_93, kv_e212_96, kv_e212_97, kv_e212_98, kv_e212_101, kv_e212_102, kv_e212_105, kv_e212_106, kv_e212_107, kv_e212_108, kv_e212_109, kv_e212_118, kv_e212_119, kv_e212_122, kv_o10, not_false_eq_true, not_true, if_true, if_false, kv_then_s, kv_then_v, kv_then_n, List.cons_append, List.nil_append, kv_Ci, kv_Cr, kv_Cn, kv_Cu, kv_C0, kv_catc, kv_gCi, kv_gCl, kv_gCr, kv_nb0, kv_nb1, kv_nbi, kv_nb01, Nat.reduceAdd, Nat.reduceLeDiff, kv_ar_lt (show 17 < 300 by omega), kv_rd_lt (show 17 < 300 by omega), kv_am17, kw_n0 hk2, kv_tn hk2, kv_lN hk8, or_self, c1, kv_suc]
    by_cases hc : km z k 11 = 0
    · obtain ⟨z', v2, v3, h1, h2⟩ := tl z1 u2 u3 hN rfl (by
        rw [hm]
        funext i
        unfold kw_mix
        by_cases h : i < k
        · rw [if_pos h, if_pos (by omega)]
        · rw [if_neg h]
          by_cases h2 : i = k
          · subst h2
            rw [if_pos (by omega)]
            unfold kw_cp
            rw [if_pos hc]
          · rw [if_neg (by omega)]) q2
      refine ⟨z', v2, v3, ?_, h2⟩
      rw [← h1]
      conv => lhs; rw [kv_e212_2]
      simp only [kv_e212_3, kv_e212_4, kv_e212_7, kv_e212_10, kv_e212_11, kv_e212_12, kv_e212_15, kv_o10, not_false_eq_true, not_true, if_true, if_false, kv_then_s, kv_then_v, kv_then_n, List.cons_append, List.nil_append, kv_Ci, kv_Cr, kv_Cn, kv_Cu, kv_C0, kv_catc, kv_gCi, kv_gCl, kv_gCr, kv_nb0, kv_nb1, kv_nbi, kv_nb01, Nat.reduceAdd, Nat.reduceLeDiff, e24, kw_ln2 h8 hk2, eq_false (show ¬ n ≤ k by omega), kw_flies hK1 hk2, hck, hc, eq_self]
    · obtain ⟨z', v2, v3, h1, h2⟩ := tl (kw_mu z1 k 3 (kw_paid (z 14 3) (kw_md (z 17) (km z) k) (km z k))) (some (.int (kw_md (z 17) (km z) k))) (some (.int (kw_paid (z 14 3) (kw_md (z 17) (km z) k) (km z k)))) (kw_N_tr hN (kw_N_mu hk8 (by omega))) (kw_mu_fr _ _ _ _ (by omega)) (by
        rw [kw_mu_km z1 hk8 (by omega), hm]
        funext i w
        unfold kv_pt kw_mix
        by_cases h : i = k
        · subst h
          simp only [true_and]
          rw [if_pos (show i < i + 1 by omega), if_neg (show ¬ i < i by omega)]
          unfold kw_cp kw_rp
          rw [if_neg hc]
        · simp only [h, false_and, if_false]
          by_cases h6 : i < k
          · rw [if_pos h6, if_pos (by omega)]
          · rw [if_neg h6, if_neg (by omega)]) rfl
      refine ⟨z', v2, v3, ?_, h2⟩
      rw [← h1]
      conv => lhs; rw [kv_e212_2]
      generalize hmm : kw_md (z 17) (km z) k = mm at hmd
      unfold kw_paid
      by_cases m1 : mm = 1
      · simp only [kv_e212_3, kv_e212_4, kv_e212_7, kv_e212_10, kv_e212_11, kv_e212_12, kv_e212_15, kv_e212_18, kv_e212_19, kv_e212_20, kv_e212_23, kv_e212_24, kv_e212_25, kv_e212_26, kv_e212_28, kv_e212_31, kv_e212_32, kv_e212_33, kv_e212_34, kv_e212_37, kv_e212_38, kv_e212_39, kv_e212_40, kv_e212_43, kv_e212_44, kv_e212_45, kv_e212_48, kv_e212_49, kv_e212_50, kv_e212_51, kv_e212_54, kv_e212_78, kv_e212_79, kv_e212_80, kv_e212_81, kv_e212_83, kv_e212_84, kv_o10, not_false_eq_true, not_true, if_true, if_false, kv_then_s, kv_then_v, kv_then_n, List.cons_append, List.nil_append, kv_Ci, kv_Cr, kv_Cn, kv_Cu, kv_C0, kv_catc, kv_gCi, kv_gCl, kv_gCr, kv_nb0, kv_nb1, kv_nbi, kv_nb01, Nat.reduceAdd, Nat.reduceLeDiff, e24, kw_ln2 h8 hk2, eq_false (show ¬ n ≤ k by omega), kw_flies hK1 hk2, hck, hc, kw_modeOf hk8, hmd, kw_of8 hk8, kw_of2 hk8, kw_put8 hk8, m1, kv_ar_lt (show 14 < 300 by omega), kv_rd_lt (show 14 < 300 by omega), kv_am14, e14, kw_p3, kw_t3, or_self, q2, eq_self]
      · by_cases m2 : mm = 2
        · simp only [kv_e212_3, kv_e212_4, kv_e212_7, kv_e212_10, kv_e212_11, kv_e212_12, kv_e212_15, kv_e212_18, kv_e212_19, kv_e212_20, kv_e212_23, kv_e212_24, kv_e212_25, kv_e212_26, kv_e212_28, kv_e212_31, kv_e212_32, kv_e212_33, kv_e212_34, kv_e212_57, kv_e212_58, kv_e212_59, kv_e212_62, kv_e212_63, kv_e212_64, kv_e212_65, kv_e212_68, kv_e212_69, kv_e212_70, kv_e212_71, kv_e212_74, kv_e212_78, kv_e212_79, kv_e212_80, kv_e212_81, kv_e212_83, kv_e212_84, kv_o10, not_false_eq_true, not_true, if_true, if_false, kv_then_s, kv_then_v, kv_then_n, List.cons_append, List.nil_append, kv_Ci, kv_Cr, kv_Cn, kv_Cu, kv_C0, kv_catc, kv_gCi, kv_gCl, kv_gCr, kv_nb0, kv_nb1, kv_nbi, kv_nb01, Nat.reduceAdd, Nat.reduceLeDiff, e24, kw_ln2 h8 hk2, eq_false (show ¬ n ≤ k by omega), kw_flies hK1 hk2, hck, hc, kw_modeOf hk8, hmd, kw_of8 hk8, kw_of2 hk8, kw_put8 hk8, m2, show ((2 : Int32) = 1) = False from by decide, kv_ar_lt (show 14 < 300 by omega), kv_rd_lt (show 14 < 300 by omega), kv_am14, e14, kw_p3, kw_t3, or_self, q2, eq_self]
        · simp only [kv_e212_3, kv_e212_4, kv_e212_7, kv_e212_10, kv_e212_11, kv_e212_12, kv_e212_15, kv_e212_18, kv_e212_19, kv_e212_20, kv_e212_23, kv_e212_24, kv_e212_25, kv_e212_26, kv_e212_28, kv_e212_31, kv_e212_32, kv_e212_33, kv_e212_34, kv_e212_57, kv_e212_58, kv_e212_59, kv_e212_77, kv_e212_78, kv_e212_79, kv_e212_80, kv_e212_81, kv_e212_83, kv_e212_84, kv_o10, not_false_eq_true, not_true, if_true, if_false, kv_then_s, kv_then_v, kv_then_n, List.cons_append, List.nil_append, kv_Ci, kv_Cr, kv_Cn, kv_Cu, kv_C0, kv_catc, kv_gCi, kv_gCl, kv_gCr, kv_nb0, kv_nb1, kv_nbi, kv_nb01, Nat.reduceAdd, Nat.reduceLeDiff, e24, kw_ln2 h8 hk2, eq_false (show ¬ n ≤ k by omega), kw_flies hK1 hk2, hck, hc, kw_modeOf hk8, hmd, kw_of8 hk8, kw_put8 hk8, m1, m2, q2, eq_self]
end
