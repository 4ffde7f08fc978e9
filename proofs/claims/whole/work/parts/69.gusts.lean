/-! gusts -/
section
variable {d n B W : Nat} {e : List kv_E} {z zK zM zK' zM' : Nat → Nat → Int32} {zl zlM : Nat → Nat → Int64}
theorem kw_bl_pt (c : Nat → Nat → Int32) {k w : Nat} {v : Int32} {R : Nat → Int32} (hR : ∀ w', R w' = if w' = w then v else c k w') : kv_pt c k w v = (fun i => if i = k then R else c i) := by
  funext i w'
  unfold kv_pt
  by_cases ci : i = k
  · subst ci
    rw [if_pos rfl, hR w']
    by_cases cw : w' = w
    · rw [if_pos ⟨rfl, cw⟩, if_pos cw]
    · rw [if_neg (fun r => cw r.2), if_neg cw]
  · rw [if_neg (fun r => ci r.1), if_neg ci]
theorem kw_blow {k : Nat} (hk : k < 8) {x : Int64} (hx : zl 0 34 = x) : ∃ z' zl', kv_Rn (d + 1) 231 0 [some (.ref 0), some (.int (Int32.ofNat k)), none] [] (kv_m z zl) = some (none, kv_m z' zl') ∧ kw_N z z' ∧ (∀ c, c ≠ 16 → z' c = z c) ∧ km z' = (fun i => if i = k then kw_bl (kw_dv (kw_dx x) 3) (km z k) else km z i) ∧ zl' 0 34 = kw_dx x := by
  rcases kw_dv3 (kw_dx x) with c3 | c3 | c3
  · refine ⟨kw_mu z k 4 (kv_mx 0 (km z k 4 - 5)), kv_z zl 0 (vp_updL (zl 0) 34 (kw_dx x)), ?_, kw_N_mu hk (by omega), fun c hc => kw_mu_fr _ _ _ _ hc, ?_, by rw [kv_zs, kw_updL]⟩
    rotate_left
    · rw [kw_mu_km _ hk (by omega), c3]
      exact kw_bl_pt _ (fun w' => rfl)
    · simp only [kv_e231_0, kv_e231_1, kv_e231_2, kv_e231_5, kv_e231_6, kv_e231_7, kv_e231_8, kv_e231_11, kv_e231_12, kv_e231_13, kv_e231_15, kv_e231_16, kv_e231_17, kv_e231_19, kv_e231_22, kv_e231_23, kv_e231_24, kv_e231_27, kv_e231_30, kv_e231_31, kv_e231_32, kv_e231_33, kv_e231_34, kv_e231_37, kv_e231_38, kv_e231_39, kv_e231_40, kv_e231_41, kv_e231_44, kv_e231_45, kv_e231_46, kv_e231_49, kv_e231_52, kv_e231_53, kv_e231_54, kv_e231_56, kv_e231_59, kv_e231_60, kv_e231_61, kv_e231_62, kv_e231_65, kv_e231_66, kv_e231_67, kv_e231_70, kv_e231_73, kv_o10, not_false_eq_true, not_true, if_true, if_false, kv_then_s, kv_then_v, kv_then_n, List.cons_append, List.nil_append, kv_Ci, kv_Cr, kv_Cn, kv_Cu, kv_C0, kv_catc, kv_gCi, kv_gCl, kv_gCr, kv_nb0, kv_nb1, kv_nbi, kv_nb01, Nat.reduceAdd, Nat.reduceLeDiff, kw_mdraw kw_3n, hx, c3, show ((0 : Int32) = 2) = False from by decide, eq_self, kw_of3 hk, kw_put3 hk]
  · refine ⟨kw_mu z k 4 (kv_mn (km z k 3) (km z k 4 + 5)), kv_z zl 0 (vp_updL (zl 0) 34 (kw_dx x)), ?_, kw_N_mu hk (by omega), fun c hc => kw_mu_fr _ _ _ _ hc, ?_, by rw [kv_zs, kw_updL]⟩
    rotate_left
    · rw [kw_mu_km _ hk (by omega), c3]
      exact kw_bl_pt _ (fun w' => rfl)
    · simp only [kv_e231_0, kv_e231_1, kv_e231_2, kv_e231_5, kv_e231_6, kv_e231_7, kv_e231_8, kv_e231_11, kv_e231_12, kv_e231_13, kv_e231_15, kv_e231_16, kv_e231_17, kv_e231_19, kv_e231_22, kv_e231_23, kv_e231_24, kv_e231_27, kv_e231_30, kv_e231_31, kv_e231_32, kv_e231_33, kv_e231_34, kv_e231_37, kv_e231_38, kv_e231_39, kv_e231_40, kv_e231_41, kv_e231_44, kv_e231_45, kv_e231_46, kv_e231_49, kv_e231_52, kv_e231_53, kv_e231_54, kv_e231_56, kv_e231_59, kv_e231_60, kv_e231_61, kv_e231_62, kv_e231_65, kv_e231_66, kv_e231_67, kv_e231_70, kv_e231_73, kv_o10, not_false_eq_true, not_true, if_true, if_false, kv_then_s, kv_then_v, kv_then_n, List.cons_append, List.nil_append, kv_Ci, kv_Cr, kv_Cn, kv_Cu, kv_C0, kv_catc, kv_gCi, kv_gCl, kv_gCr, kv_nb0, kv_nb1, kv_nbi, kv_nb01, Nat.reduceAdd, Nat.reduceLeDiff, kw_mdraw kw_3n, hx, c3, show ((1 : Int32) = 2) = False from by decide, show ((1 : Int32) = 0) = False from by decide, kw_of3 hk, kw_of8 hk, kw_put3 hk]
  · refine ⟨kw_mu z k 9 (km z k 9 + 1), kv_z zl 0 (vp_updL (zl 0) 34 (kw_dx x)), ?_, kw_N_mu hk (by omega), fun c hc => kw_mu_fr _ _ _ _ hc, ?_, by rw [kv_zs, kw_updL]⟩
    rotate_left
    · rw [kw_mu_km _ hk (by omega), c3]
      exact kw_bl_pt _ (fun w' => rfl)
    · simp only [kv_e231_0, kv_e231_1, kv_e231_2, kv_e231_5, kv_e231_6, kv_e231_7, kv_e231_8, kv_e231_11, kv_e231_12, kv_e231_13, kv_e231_15, kv_e231_16, kv_e231_17, kv_e231_19, kv_e231_22, kv_e231_23, kv_e231_24, kv_e231_27, kv_e231_30, kv_e231_31, kv_e231_32, kv_e231_33, kv_e231_34, kv_e231_37, kv_e231_38, kv_e231_39, kv_e231_40, kv_e231_41, kv_e231_44, kv_e231_45, kv_e231_46, kv_e231_49, kv_e231_52, kv_e231_53, kv_e231_54, kv_e231_56, kv_e231_59, kv_e231_60, kv_e231_61, kv_e231_62, kv_e231_65, kv_e231_66, kv_e231_67, kv_e231_70, kv_e231_73, kv_o10, not_false_eq_true, not_true, if_true, if_false, kv_then_s, kv_then_v, kv_then_n, List.cons_append, List.nil_append, kv_Ci, kv_Cr, kv_Cn, kv_Cu, kv_C0, kv_catc, kv_gCi, kv_gCl, kv_gCr, kv_nb0, kv_nb1, kv_nbi, kv_nb01, Nat.reduceAdd, Nat.reduceLeDiff, kw_mdraw kw_3n, hx, c3, eq_self, kw_of9 hk, kw_put9 hk]
theorem kw_gloop (hK : kw_K n z) {s : (Nat → Nat → Int32) × Int64} (hc_ : km z = s.1) (hx : zl 0 34 = s.2) (v1 v2 v3 v4 v5 : Option Value) (q4 : kv_c2 v4 = false) : ∃ z' zl', kv_Rn (d + 3) 232 36 [some (.ref 0), v1, v2, v3, v4, v5] [] (kv_m z zl) = kv_Rn (d + 3) 232 82 [some (.ref 0), v1, v2, v3, v4, some (.int (Int32.ofNat n))] [] (kv_m z' zl') ∧ kw_N z z' ∧ (∀ c, c ≠ 16 → z' c = z c) ∧ (km z', zl' 0 34) = kw_sq (z 0 29) s n := by
  have h8 := hK.1.2
  have hl := kv_up (fun k => ∀ z1 zl1, kw_N z z1 → (∀ c, c ≠ 16 → z1 c = z c) → km z1 = (kw_sq (z 0 29) s k).1 → zl1 0 34 = (kw_sq (z 0 29) s k).2 → ∃ z' zl', kv_Rn (d + 3) 232 39 [some (.ref 0), v1, v2, v3, v4, some (.int (Int32.ofNat k))] [] (kv_m z1 zl1) = kv_Rn (d + 3) 232 82 [some (.ref 0), v1, v2, v3, v4, some (.int (Int32.ofNat n))] [] (kv_m z' zl') ∧ kw_N z z' ∧ (∀ c, c ≠ 16 → z' c = z c) ∧ (km z', zl' 0 34) = kw_sq (z 0 29) s n) n ?_ ?_
  · obtain ⟨z', zl', r, x⟩ := hl z zl (kw_N_rf z) (fun _ _ => rfl) hc_ hx
    refine ⟨z', zl', ?_, x⟩
    rw [← r]
    simp only [kv_e232_36, kv_e232_37, kv_o10, not_false_eq_true, not_true, if_true, if_false, kv_then_s, kv_then_v, kv_then_n, List.cons_append, List.nil_append, kv_Ci, kv_Cr, kv_Cn, kv_Cu, kv_C0, kv_catc, kv_gCi, kv_gCl, kv_gCr, kv_nb0, kv_nb1, kv_nbi, kv_nb01, Nat.reduceAdd, Nat.reduceLeDiff, q4]
    rfl
  · intro z1 zl1 hN hf hc hx
    refine ⟨z1, zl1, ?_, hN, hf, Prod.ext hc hx⟩
    have e24 : z1 0 24 = Int32.ofNat n := by rw [hf 0 (by omega)]; exact hK.1.1
    rw [kv_e232_39]
    simp only [kv_e232_41, kv_e232_42, kv_e232_45, kv_o10, not_false_eq_true, not_true, if_true, if_false, kv_then_s, kv_then_v, kv_then_n, List.cons_append, List.nil_append, kv_Ci, kv_Cr, kv_Cn, kv_Cu, kv_C0, kv_catc, kv_gCi, kv_gCl, kv_gCr, kv_nb0, kv_nb1, kv_nbi, kv_nb01, Nat.reduceAdd, Nat.reduceLeDiff, e24, kw_ln2 (show n ≤ 8 by omega) (show n < 2147483648 by omega), Nat.le_refl]
  · intro k hk ih z1 zl1 hN hf hc hx
    have hk8 : k < 8 := by omega
    have hk2 : k < 2147483648 := by omega
    have e24 : z1 0 24 = Int32.ofNat n := by rw [hf 0 (by omega)]; exact hK.1.1
    have e29 : z1 0 29 = z 0 29 := by rw [hf 0 (by omega)]
    have q : (Int32.ofNat n ≤ Int32.ofNat k) = False := kv_ln_ hk (by omega)
    have K1 : kw_K n z1 := ⟨⟨e24, h8⟩, fun i => by rw [hc, kw_sq_w (by omega) (by omega), ← hc_]; exact hK.2 i⟩
    by_cases c1 : (kw_sq (z 0 29) s k).1 k 11 = 0
    · have e1 : kw_sq (z 0 29) s (k + 1) = kw_sq (z 0 29) s k := by
        show kw_s1 _ k (kw_sq _ s k) = _
        unfold kw_s1
        rw [if_pos c1]
      rw [e1] at ih
      obtain ⟨z', zl', r, x⟩ := ih z1 zl1 hN hf hc hx
      refine ⟨z', zl', ?_, x⟩
      rw [← r, kv_e232_39]
      simp only [kv_e232_0, kv_e232_1, kv_e232_2, kv_e232_5, kv_e232_8, kv_e232_9, kv_e232_10, kv_e232_11, kv_e232_14, kv_e232_15, kv_e232_16, kv_e232_19, kv_e232_20, kv_e232_24, kv_e232_25, kv_e232_28, kv_e232_29, kv_e232_32, kv_e232_33, kv_e232_36, kv_e232_37, kv_e232_41, kv_e232_42, kv_e232_45, kv_e232_48, kv_e232_49, kv_e232_51, kv_e232_54, kv_e232_57, kv_e232_58, kv_e232_60, kv_e232_63, kv_e232_64, kv_e232_67, kv_e232_70, kv_e232_71, kv_e232_73, kv_e232_76, kv_e232_79, kv_e232_82, kv_e232_83, kv_e232_86, kv_e232_87, kv_e232_90, kv_e232_93, kv_e232_94, kv_e232_97, kv_e232_99, kv_e232_100, kv_o10, not_false_eq_true, not_true, if_true, if_false, kv_then_s, kv_then_v, kv_then_n, List.cons_append, List.nil_append, kv_Ci, kv_Cr, kv_Cn, kv_Cu, kv_C0, kv_catc, kv_gCi, kv_gCl, kv_gCr, kv_nb0, kv_nb1, kv_nbi, kv_nb01, Nat.reduceAdd, Nat.reduceLeDiff, e24, q, kw_flies K1 hk2, hc, c1, eq_self, kv_suc, q4]
    · by_cases c2 : kw_dv (kw_dx (kw_sq (z 0 29) s k).2) 100 < z 0 29
      · have e1 : kw_sq (z 0 29) s (k + 1) = ((fun i => if i = k then kw_bl (kw_dv (kw_dx (kw_dx (kw_sq (z 0 29) s k).2)) 3) ((kw_sq (z 0 29) s k).1 k) else (kw_sq (z 0 29) s k).1 i), kw_dx (kw_dx (kw_sq (z 0 29) s k).2)) := by
          show kw_s1 _ k (kw_sq _ s k) = _
          unfold kw_s1
          rw [if_neg c1, if_pos c2]
        rw [e1] at ih
        obtain ⟨z2, zl2, r2, n2, f2, k2, x2⟩ := kw_blow (d := d + 1) (z := z1) (zl := kv_z zl1 0 (vp_updL (zl1 0) 34 (kw_dx (kw_sq (z 0 29) s k).2))) hk8 (x := kw_dx (kw_sq (z 0 29) s k).2) (by rw [kv_zs, kw_updL])
        obtain ⟨z', zl', r, x⟩ := ih z2 zl2 (kw_N_tr hN n2) (fun c h => (f2 c h).trans (hf c h)) (by rw [k2, hc]) x2
        refine ⟨z', zl', ?_, x⟩
        have c2' : ¬ z 0 29 ≤ kw_dv (kw_dx (kw_sq (z 0 29) s k).2) 100 := Int32.not_le.mpr c2
        rw [← r, kv_e232_39]
        simp only [kv_e232_0, kv_e232_1, kv_e232_2, kv_e232_5, kv_e232_8, kv_e232_9, kv_e232_10, kv_e232_11, kv_e232_14, kv_e232_15, kv_e232_16, kv_e232_19, kv_e232_20, kv_e232_24, kv_e232_25, kv_e232_28, kv_e232_29, kv_e232_32, kv_e232_33, kv_e232_36, kv_e232_37, kv_e232_41, kv_e232_42, kv_e232_45, kv_e232_48, kv_e232_49, kv_e232_51, kv_e232_54, kv_e232_57, kv_e232_58, kv_e232_60, kv_e232_63, kv_e232_64, kv_e232_67, kv_e232_70, kv_e232_71, kv_e232_73, kv_e232_76, kv_e232_79, kv_e232_82, kv_e232_83, kv_e232_86, kv_e232_87, kv_e232_90, kv_e232_93, kv_e232_94, kv_e232_97, kv_e232_99, kv_e232_100, kv_o10, not_false_eq_true, not_true, if_true, if_false, kv_then_s, kv_then_v, kv_then_n, List.cons_append, List.nil_append, kv_Ci, kv_Cr, kv_Cn, kv_Cu, kv_C0, kv_catc, kv_gCi, kv_gCl, kv_gCr, kv_nb0, kv_nb1, kv_nbi, kv_nb01, Nat.reduceAdd, Nat.reduceLeDiff, e24, q, kw_flies K1 hk2, hc, c1, kw_mdraw kw_100n, hx, e29, c2', r2, kv_suc, q4]
      · have e1 : kw_sq (z 0 29) s (k + 1) = ((kw_sq (z 0 29) s k).1, kw_dx (kw_sq (z 0 29) s k).2) := by
          show kw_s1 _ k (kw_sq _ s k) = _
          unfold kw_s1
          rw [if_neg c1, if_neg c2]
        rw [e1] at ih
        obtain ⟨z', zl', r, x⟩ := ih z1 (kv_z zl1 0 (vp_updL (zl1 0) 34 (kw_dx (kw_sq (z 0 29) s k).2))) hN hf hc (by rw [kv_zs, kw_updL])
        refine ⟨z', zl', ?_, x⟩
        have c2' : z 0 29 ≤ kw_dv (kw_dx (kw_sq (z 0 29) s k).2) 100 := Int32.not_lt.mp c2
        rw [← r, kv_e232_39]
        simp only [kv_e232_0, kv_e232_1, kv_e232_2, kv_e232_5, kv_e232_8, kv_e232_9, kv_e232_10, kv_e232_11, kv_e232_14, kv_e232_15, kv_e232_16, kv_e232_19, kv_e232_20, kv_e232_24, kv_e232_25, kv_e232_28, kv_e232_29, kv_e232_32, kv_e232_33, kv_e232_36, kv_e232_37, kv_e232_41, kv_e232_42, kv_e232_45, kv_e232_48, kv_e232_49, kv_e232_51, kv_e232_54, kv_e232_57, kv_e232_58, kv_e232_60, kv_e232_63, kv_e232_64, kv_e232_67, kv_e232_70, kv_e232_71, kv_e232_73, kv_e232_76, kv_e232_79, kv_e232_82, kv_e232_83, kv_e232_86, kv_e232_87, kv_e232_90, kv_e232_93, kv_e232_94, kv_e232_97, kv_e232_99, kv_e232_100, kv_o10, not_false_eq_true, not_true, if_true, if_false, kv_then_s, kv_then_v, kv_then_n, List.cons_append, List.nil_append, kv_Ci, kv_Cr, kv_Cn, kv_Cu, kv_C0, kv_catc, kv_gCi, kv_gCl, kv_gCr, kv_nb0, kv_nb1, kv_nbi, kv_nb01, Nat.reduceAdd, Nat.reduceLeDiff, e24, q, kw_flies K1 hk2, hc, c1, kw_mdraw kw_100n, hx, e29, c2', kv_suc, q4]
end
