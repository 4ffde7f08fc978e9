/-! wax, move, splice -/
section
variable {d n B W : Nat} {z zK zM : Nat → Nat → Int32} {zl zlM : Nat → Nat → Int64}
theorem kw_fa_ext {p : Nat → Bool} (q : Nat) : ∀ (m k : Nat), (∀ i, k + m ≤ i → p i = false) → kv_fa (m + q) k p = kv_fa m k p := by
  intro m
  induction m with
  | zero =>
    intro k h
    rw [Nat.zero_add]
    have : ∀ q k, (∀ i, k ≤ i → p i = false) → kv_fa q k p = false := by
      intro q
      induction q with
      | zero => intro k _; rfl
      | succ q ih => intro k h; rw [kv_fa_s, h k (by omega), ih (k + 1) (fun i hi => h i (by omega))]; rfl
    rw [this q k (fun i hi => h i (by omega))]
    rfl
  | succ m ih =>
    intro k h
    rw [show m + 1 + q = (m + q) + 1 from by omega, kv_fa_s, kv_fa_s, ih (k + 1) (fun i hi => h i (by omega))]
theorem kw_lt_pred {W : Nat} (hW : W ≤ 20) (p : Int32) : (p ≤ Int32.ofNat W - 1) = (p < Int32.ofNat W) := by
  have h1 : (Int32.ofNat W - 1).toInt = (W : Int) - 1 := by
    rw [kw_tsub, kv_ti (by omega)]
    · rfl
    · rw [kv_ti (by omega), show (1 : Int32).toInt = 1 from rfl]; omega
    · rw [kv_ti (by omega), show (1 : Int32).toInt = 1 from rfl]; omega
  rw [Int32.le_iff_toInt_le, Int32.lt_iff_toInt_lt, h1, kv_ti (by omega)]
  exact propext (by omega)
theorem kw_misFree (hK : kw_K n z) {W : Nat} (hW : W ≤ 20) (hw : z 14 0 = Int32.ofNat W) (p : Int32) : kv_Rn (d + 3) 223 0 [some (.ref 0), some (.int p), none] [] (kv_m z zl) = some (some (.int (if 0 ≤ p ∧ p < z 14 0 ∧ kw_hd (km z) p = false then 1 else 0)), kv_m z zl) := by
  have h8 := hK.1.2
  have he : kw_hd (km z) p = kv_fa n 0 (fun k => decide (¬ km z k 11 = 0 ∧ km z k 0 = p)) := by
    unfold kw_hd
    have := kw_fa_ext (p := fun k => decide (¬ km z k 11 = 0 ∧ km z k 0 = p)) (8 - n) n 0 (fun i hi => decide_eq_false (fun q => q.1 ((hK.2 i).2 (by omega))))
    rw [show n + (8 - n) = 8 from by omega] at this
    exact this
  rw [he]
  have hl := kv_up (fun k => kv_Rn (d + 3) 223 2 [some (.ref 0), some (.int p), some (.int (Int32.ofNat k))] [] (kv_m z zl) = some (some (.int (if 0 ≤ p ∧ p < z 14 0 ∧ kv_fa (n - k) k (fun k => decide (¬ km z k 11 = 0 ∧ km z k 0 = p)) = false then 1 else 0)), kv_m z zl)) n ?_ ?_
  · simp only [kv_e223_0, kv_e223_1, kv_e223_3, kv_e223_4, kv_e223_7, kv_e223_10, kv_e223_11, kv_e223_12, kv_e223_15, kv_e223_18, kv_e223_19, kv_e223_20, kv_e223_21, kv_e223_24, kv_e223_25, kv_e223_28, kv_e223_29, kv_e223_30, kv_e223_33, kv_e223_36, kv_e223_37, kv_e223_38, kv_e223_39, kv_e223_42, kv_e223_43, kv_e223_44, kv_e223_45, kv_e223_46, kv_e223_49, kv_o10, not_false_eq_true, not_true, if_true, if_false, kv_then_s, kv_then_v, kv_then_n, List.cons_append, List.nil_append, kv_Ci, kv_Cr, kv_Cn, kv_Cu, kv_C0, kv_catc, kv_gCi, kv_gCl, kv_gCr, kv_nb0, kv_nb1, kv_nbi, kv_nb01, Nat.reduceAdd, Nat.reduceLeDiff]
    exact hl
  · rw [kv_e223_2]
    simp only [kv_e223_3, kv_e223_4, kv_e223_7, kv_e223_36, kv_e223_37, kv_e223_38, kv_e223_39, kv_e223_42, kv_e223_43, kv_e223_44, kv_e223_45, kv_e223_46, kv_e223_49, kv_o10, not_false_eq_true, not_true, if_true, if_false, kv_then_s, kv_then_v, kv_then_n, List.cons_append, List.nil_append, kv_Ci, kv_Cr, kv_Cn, kv_Cu, kv_C0, kv_catc, kv_gCi, kv_gCl, kv_gCr, kv_nb0, kv_nb1, kv_nbi, kv_nb01, Nat.reduceAdd, Nat.reduceLeDiff, hK.1.1, kw_ln2 h8 (show n < 2147483648 by omega), Nat.le_refl, kv_ar_lt (show 14 < 300 by omega), kv_rd_lt (show 14 < 300 by omega), kv_am14, kw_p0, kw_t0, or_self, kw_in, hw, kw_lt_pred hW, Nat.sub_self, kv_fa, and_true]
  · intro k hk ih
    have hk8 : k < 8 := by omega
    have hk2 : k < 2147483648 := by omega
    rw [kv_e223_2]
    rw [show n - k = (n - (k + 1)) + 1 from by omega, kv_fa_s]
    by_cases hc : km z k 11 = 0
    · simp only [kv_e223_3, kv_e223_4, kv_e223_7, kv_e223_10, kv_e223_11, kv_e223_12, kv_e223_15, kv_e223_30, kv_e223_33, kv_o10, not_false_eq_true, not_true, if_true, if_false, kv_then_s, kv_then_v, kv_then_n, List.cons_append, List.nil_append, kv_Ci, kv_Cr, kv_Cn, kv_Cu, kv_C0, kv_catc, kv_gCi, kv_gCl, kv_gCr, kv_nb0, kv_nb1, kv_nbi, kv_nb01, Nat.reduceAdd, Nat.reduceLeDiff, hK.1.1, kw_ln2 h8 hk2, eq_false (show ¬ n ≤ k by omega), kw_flies hK hk2, hc, eq_self, kv_suc, false_and, decide_false, Bool.false_or]
      exact ih
    · by_cases h0 : km z k 0 = p
      · simp only [kv_e223_3, kv_e223_4, kv_e223_7, kv_e223_10, kv_e223_11, kv_e223_12, kv_e223_15, kv_e223_18, kv_e223_19, kv_e223_20, kv_e223_21, kv_e223_24, kv_e223_25, kv_e223_28, kv_e223_29, kv_o10, not_false_eq_true, not_true, if_true, if_false, kv_then_s, kv_then_v, kv_then_n, List.cons_append, List.nil_append, kv_Ci, kv_Cr, kv_Cn, kv_Cu, kv_C0, kv_catc, kv_gCi, kv_gCl, kv_gCr, kv_nb0, kv_nb1, kv_nbi, kv_nb01, Nat.reduceAdd, Nat.reduceLeDiff, hK.1.1, kw_ln2 h8 hk2, eq_false (show ¬ n ≤ k by omega), kw_flies hK hk2, hc, kw_of0 hk8, h0, and_self, decide_true, Bool.true_or, Bool.true_eq_false, and_false]
      · simp only [kv_e223_3, kv_e223_4, kv_e223_7, kv_e223_10, kv_e223_11, kv_e223_12, kv_e223_15, kv_e223_18, kv_e223_19, kv_e223_20, kv_e223_21, kv_e223_24, kv_e223_25, kv_e223_30, kv_e223_33, kv_o10, not_false_eq_true, not_true, if_true, if_false, kv_then_s, kv_then_v, kv_then_n, List.cons_append, List.nil_append, kv_Ci, kv_Cr, kv_Cn, kv_Cu, kv_C0, kv_catc, kv_gCi, kv_gCl, kv_gCr, kv_nb0, kv_nb1, kv_nbi, kv_nb01, Nat.reduceAdd, Nat.reduceLeDiff, hK.1.1, kw_ln2 h8 hk2, eq_false (show ¬ n ≤ k by omega), kw_flies hK hk2, hc, kw_of0 hk8, h0, kv_suc, and_false, decide_false, Bool.false_or]
        exact ih
theorem kw_pt_c (c : Nat → Nat → Int32) {k w k' w' : Nat} (v v' : Int32) (h : ¬ (k = k' ∧ w = w')) : kv_pt (kv_pt c k w v) k' w' v' = kv_pt (kv_pt c k' w' v') k w v := by
  funext i j
  unfold kv_pt
  by_cases h1 : i = k ∧ j = w
  · rw [if_pos h1, if_neg (by omega), if_pos h1]
  · rw [if_neg h1, if_neg h1]
theorem kw_pt_at (c : Nat → Nat → Int32) (k w : Nat) (v : Int32) : kv_pt c k w v k w = v := if_pos ⟨rfl, rfl⟩
theorem kw_pt_ne (c : Nat → Nat → Int32) {k w k' w' : Nat} (v : Int32) (h : ¬ (k' = k ∧ w' = w)) : kv_pt c k w v k' w' = c k' w' := if_neg h
theorem kw_f_wax (h : kw_R n B W zK zM) (x : Int32) : kw_A (d + 12) 95 222 [some (.ref 0), some (.int x)] [some (.ref 0), some (.int x)] zK zM zl zlM := by
  have hKK := kw_R_KK h
  have hI := kw_R_I h
  have ek := kw_R_km h.2.1.1
  by_cases c0 : x < 0
  · refine kw_A0 (r := -1) h ?_ ?_
    · simp only [kv_e95_0, kv_e95_1, kv_e95_2, kv_e95_5, kv_e95_8, kv_e95_9, kv_e95_12, kv_e95_13, kv_e95_15, kv_e95_18, kv_e95_21, kv_e95_22, kv_e95_25, kv_e95_26, kv_e95_28, kv_e95_31, kv_e95_33, kv_e95_36, kv_e95_37, kv_e95_38, kv_e95_39, kv_e95_42, kv_e95_43, kv_e95_46, kv_e95_49, kv_e95_50, kv_e95_53, kv_e95_54, kv_e95_56, kv_e95_57, kv_e95_60, kv_e95_61, kv_e95_64, kv_e95_65, kv_e95_67, kv_e95_68, kv_e95_71, kv_e95_72, kv_e95_74, kv_e95_77, kv_e95_78, kv_e95_79, kv_e95_82, kv_e95_83, kv_e95_86, kv_e95_87, kv_e95_89, kv_e95_92, kv_o10, not_false_eq_true, not_true, if_true, if_false, kv_then_s, kv_then_v, kv_then_n, List.cons_append, List.nil_append, kv_Ci, kv_Cr, kv_Cn, kv_Cu, kv_C0, kv_catc, kv_gCi, kv_gCl, kv_gCr, kv_nb0, kv_nb1, kv_nbi, kv_nb01, Nat.reduceAdd, Nat.reduceLeDiff, kw_KfliesN c0, eq_self]
    · simp only [kv_e222_0, kv_e222_1, kv_e222_2, kv_e222_5, kv_e222_8, kv_e222_9, kv_e222_10, kv_e222_12, kv_e222_15, kv_e222_16, kv_e222_19, kv_e222_20, kv_e222_21, kv_e222_22, kv_e222_25, kv_e222_27, kv_e222_30, kv_e222_31, kv_e222_32, kv_e222_33, kv_e222_36, kv_e222_37, kv_e222_38, kv_e222_39, kv_e222_40, kv_e222_41, kv_e222_42, kv_e222_45, kv_e222_46, kv_e222_47, kv_e222_50, kv_e222_51, kv_e222_52, kv_e222_54, kv_e222_55, kv_e222_58, kv_e222_59, kv_e222_60, kv_e222_61, kv_e222_64, kv_o10, not_false_eq_true, not_true, if_true, if_false, kv_then_s, kv_then_v, kv_then_n, List.cons_append, List.nil_append, kv_Ci, kv_Cr, kv_Cn, kv_Cu, kv_C0, kv_catc, kv_gCi, kv_gCl, kv_gCr, kv_nb0, kv_nb1, kv_nbi, kv_nb01, Nat.reduceAdd, Nat.reduceLeDiff, kw_fliesN c0, eq_self]
  · obtain ⟨k, hk, rfl⟩ := kv_nat (kv_nn0 c0)
    by_cases c1 : km zM k 11 = 0
    · refine kw_A0 (r := -1) h ?_ ?_
      · simp only [kv_e95_0, kv_e95_1, kv_e95_2, kv_e95_5, kv_e95_8, kv_e95_9, kv_e95_12, kv_e95_13, kv_e95_15, kv_e95_18, kv_e95_21, kv_e95_22, kv_e95_25, kv_e95_26, kv_e95_28, kv_e95_31, kv_e95_33, kv_e95_36, kv_e95_37, kv_e95_38, kv_e95_39, kv_e95_42, kv_e95_43, kv_e95_46, kv_e95_49, kv_e95_50, kv_e95_53, kv_e95_54, kv_e95_56, kv_e95_57, kv_e95_60, kv_e95_61, kv_e95_64, kv_e95_65, kv_e95_67, kv_e95_68, kv_e95_71, kv_e95_72, kv_e95_74, kv_e95_77, kv_e95_78, kv_e95_79, kv_e95_82, kv_e95_83, kv_e95_86, kv_e95_87, kv_e95_89, kv_e95_92, kv_o10, not_false_eq_true, not_true, if_true, if_false, kv_then_s, kv_then_v, kv_then_n, List.cons_append, List.nil_append, kv_Ci, kv_Cr, kv_Cn, kv_Cu, kv_C0, kv_catc, kv_gCi, kv_gCl, kv_gCr, kv_nb0, kv_nb1, kv_nbi, kv_nb01, Nat.reduceAdd, Nat.reduceLeDiff, kw_Kflies hKK hk, ek, c1, eq_self]
      · simp only [kv_e222_0, kv_e222_1, kv_e222_2, kv_e222_5, kv_e222_8, kv_e222_9, kv_e222_10, kv_e222_12, kv_e222_15, kv_e222_16, kv_e222_19, kv_e222_20, kv_e222_21, kv_e222_22, kv_e222_25, kv_e222_27, kv_e222_30, kv_e222_31, kv_e222_32, kv_e222_33, kv_e222_36, kv_e222_37, kv_e222_38, kv_e222_39, kv_e222_40, kv_e222_41, kv_e222_42, kv_e222_45, kv_e222_46, kv_e222_47, kv_e222_50, kv_e222_51, kv_e222_52, kv_e222_54, kv_e222_55, kv_e222_58, kv_e222_59, kv_e222_60, kv_e222_61, kv_e222_64, kv_o10, not_false_eq_true, not_true, if_true, if_false, kv_then_s, kv_then_v, kv_then_n, List.cons_append, List.nil_append, kv_Ci, kv_Cr, kv_Cn, kv_Cu, kv_C0, kv_catc, kv_gCi, kv_gCl, kv_gCr, kv_nb0, kv_nb1, kv_nbi, kv_nb01, Nat.reduceAdd, Nat.reduceLeDiff, kw_flies hI.1.1 hk, c1, eq_self]
    · have hk8 := (kw_lt8 h c1).2
      have w01 : km zM k 12 = 0 ∨ km zM k 12 = 1 := by
        have := (h.2.1.1.2.2.2.2.1 k).1
        have e2 : (kw_vk zK 36).1 = km zM := ek
        rw [e2] at this
        exact this
      rcases w01 with c2 | c2
      · have hx6 := (hI.2.2.2.1 k).1.2
        by_cases c3 : km zM k 6 = 9
        · refine kw_A0 (r := -1) h ?_ ?_
          · simp only [kv_e95_0, kv_e95_1, kv_e95_2, kv_e95_5, kv_e95_8, kv_e95_9, kv_e95_12, kv_e95_13, kv_e95_15, kv_e95_18, kv_e95_21, kv_e95_22, kv_e95_25, kv_e95_26, kv_e95_28, kv_e95_31, kv_e95_33, kv_e95_36, kv_e95_37, kv_e95_38, kv_e95_39, kv_e95_42, kv_e95_43, kv_e95_46, kv_e95_49, kv_e95_50, kv_e95_53, kv_e95_54, kv_e95_56, kv_e95_57, kv_e95_60, kv_e95_61, kv_e95_64, kv_e95_65, kv_e95_67, kv_e95_68, kv_e95_71, kv_e95_72, kv_e95_74, kv_e95_77, kv_e95_78, kv_e95_79, kv_e95_82, kv_e95_83, kv_e95_86, kv_e95_87, kv_e95_89, kv_e95_92, kv_o10, not_false_eq_true, not_true, if_true, if_false, kv_then_s, kv_then_v, kv_then_n, List.cons_append, List.nil_append, kv_Ci, kv_Cr, kv_Cn, kv_Cu, kv_C0, kv_catc, kv_gCi, kv_gCl, kv_gCr, kv_nb0, kv_nb1, kv_nbi, kv_nb01, Nat.reduceAdd, Nat.reduceLeDiff, kw_Kflies hKK hk, ek, c1, kv_isS36, kv_get, kv_g12 zK 36 hk8, kv_g6 zK 36 hk8, c2, c3, eq_self, show ((9 : Int32) < 9) = False from by decide]
          · simp only [kv_e222_0, kv_e222_1, kv_e222_2, kv_e222_5, kv_e222_8, kv_e222_9, kv_e222_10, kv_e222_12, kv_e222_15, kv_e222_16, kv_e222_19, kv_e222_20, kv_e222_21, kv_e222_22, kv_e222_25, kv_e222_27, kv_e222_30, kv_e222_31, kv_e222_32, kv_e222_33, kv_e222_36, kv_e222_37, kv_e222_38, kv_e222_39, kv_e222_40, kv_e222_41, kv_e222_42, kv_e222_45, kv_e222_46, kv_e222_47, kv_e222_50, kv_e222_51, kv_e222_52, kv_e222_54, kv_e222_55, kv_e222_58, kv_e222_59, kv_e222_60, kv_e222_61, kv_e222_64, kv_o10, not_false_eq_true, not_true, if_true, if_false, kv_then_s, kv_then_v, kv_then_n, List.cons_append, List.nil_append, kv_Ci, kv_Cr, kv_Cn, kv_Cu, kv_C0, kv_catc, kv_gCi, kv_gCl, kv_gCr, kv_nb0, kv_nb1, kv_nbi, kv_nb01, Nat.reduceAdd, Nat.reduceLeDiff, kw_flies hI.1.1 hk, c1, kw_of12 hk8, kw_of5 hk8, c2, c3, eq_self, show ((0 : Int32) = 1) = False from by decide]
        · have c4 : km zM k 6 < 9 := by
            rw [Int32.lt_iff_toInt_lt]
            unfold kw_rg at hx6
            have : (km zM k 6).toInt ≠ 9 := fun q => c3 (Int32.toInt_inj.mp q)
            show (km zM k 6).toInt < 9
            omega
          obtain ⟨zK1, zM1, ⟨r1, r2⟩, R1, k1, m1, m0⟩ := kw_keepR (d := d + 9) (dM := d + 11) (e := []) (zl := zl) (zlM := zlM) h
          obtain ⟨s1, s2⟩ := kw_R_sv R1
          have em : km zM1 = km zM := kw_km_fr (m1 16 (by omega) (by omega))
          have ekk : kc zK1 36 = km zM := by rw [kw_kc_fr (k1 37 (by omega))]; exact ek
          have g1 : kv_gt (kv_su zK1 36 (Int32.ofNat k) 12 1) 36 (Int32.ofNat k) 6 = km zM k 6 := by
            rw [kv_g6 _ 36 hk8, kw_sk12 _ 36 hk8, kw_pt_ne _ _ (by omega), ekk]
          have g2 : kv_gt (kv_su (kv_su zK1 36 (Int32.ofNat k) 12 1) 36 (Int32.ofNat k) 6 (km zM k 6 + 1)) 36 (Int32.ofNat k) 6 = km zM k 6 + 1 := by
            rw [kv_g6 _ 36 hk8, kw_sk6 _ 36 hk8, kw_pt_at]
          have g3 : km (kw_mu (kw_mu zM1 k 6 (km zM k 6 + 1)) k 12 1) k 6 = km zM k 6 + 1 := by
            rw [kw_mu_km _ hk8 (by omega), kw_pt_ne _ _ (by omega), kw_mu_km _ hk8 (by omega), kw_pt_at]
          have t6 : (km zM k 6 + 1).toInt = (km zM k 6).toInt + 1 := by
            unfold kw_rg at hx6
            rw [kw_tadd] <;> rw [show (1 : Int32).toInt = 1 from rfl] <;> omega
          refine kw_A1 (r := km zM k 6 + 1) (zK' := kv_su (kv_su zK1 36 (Int32.ofNat k) 12 1) 36 (Int32.ofNat k) 6 (km zM k 6 + 1)) (zM' := kw_mu (kw_mu zM1 k 6 (km zM k 6 + 1)) k 12 1) (kw_R_both (V := kw_vp (kw_vp (kw_vm zM1 16 0) k 6 (km zM k 6 + 1)) k 12 1) R1 (fun c hc => (kw_su_fr _ _ _ _ _ (by omega)).trans (kw_su_fr _ _ _ _ _ (by omega))) (fun c hc => (kw_mu_fr _ _ _ _ hc).trans (kw_mu_fr _ _ _ _ hc)) ?_ ?_ ?_) ?_ ?_
          · rw [kw_vk_su _ (w := 6) (x := 6) hk8 (by omega) rfl, kw_vk_su _ (w := 12) (x := 12) hk8 (by omega) rfl, s2]
            unfold kw_vp
            rw [kw_pt_c _ _ _ (by omega)]
          · rw [kw_vm_mu _ hk8 (by omega), kw_vm_mu _ hk8 (by omega)]
          · obtain ⟨⟨h1, h2⟩, h3, h4, h5, h6⟩ := s1
            refine ⟨⟨fun i => ?_, fun i => ?_⟩, h3, h4, fun i => ?_, fun i hi => ?_⟩
            · by_cases hi : i = k
              · subst hi
                obtain ⟨⟨a1, a2⟩, a3, a4⟩ := h1 i
                have ew : ∀ w, w ≠ 6 → w ≠ 12 → (kw_vp (kw_vp (kw_vm zM1 16 0) i 6 (km zM i 6 + 1)) i 12 1).1 i w = (kw_vm zM1 16 0).1 i w := by
                  intro w w1 w2
                  show kv_pt (kv_pt _ i 6 _) i 12 _ i w = _
                  rw [kw_pt_ne _ _ (by omega), kw_pt_ne _ _ (by omega)]
                have e6 : (kw_vp (kw_vp (kw_vm zM1 16 0) i 6 (km zM i 6 + 1)) i 12 1).1 i 6 = km zM i 6 + 1 := by
                  show kv_pt (kv_pt _ i 6 _) i 12 _ i 6 = _
                  rw [kw_pt_ne _ _ (by omega), kw_pt_at]
                have b6 : kw_rg (km zM i 6 + 1) 0 9 := by
                  unfold kw_rg at hx6 ⊢
                  rw [Int32.lt_iff_toInt_lt] at c4
                  have c5 : (km zM i 6).toInt < 9 := c4
                  omega
                unfold kw_okr
                rw [ew 1 (by omega) (by omega), e6, ew 4 (by omega) (by omega), ew 3 (by omega) (by omega), ew 2 (by omega) (by omega)]
                exact ⟨⟨a1, b6⟩, a3, a4⟩
              · refine kw_okr_pt (h1 i) (fun w _ => ?_)
                show kv_pt (kv_pt _ k 6 _) k 12 _ i w = _
                rw [kw_pt_ne _ _ (by omega), kw_pt_ne _ _ (by omega)]
            · have : (kw_vp (kw_vp (kw_vm zM1 16 0) k 6 (km zM k 6 + 1)) k 12 1).1 i 11 = (kw_vm zM1 16 0).1 i 11 := by
                show kv_pt (kv_pt _ k 6 _) k 12 _ i 11 = _
                rw [kw_pt_ne _ _ (by omega), kw_pt_ne _ _ (by omega)]
              rw [this]
              exact h2 i
            · by_cases hi : i = k
              · subst hi
                exact ⟨Or.inr (kw_pt_at _ _ _ _), fun q => absurd q (by have := (kw_lt8 h c1).1; omega)⟩
              · have : (kw_vp (kw_vp (kw_vm zM1 16 0) k 6 (km zM k 6 + 1)) k 12 1).1 i 12 = (kw_vm zM1 16 0).1 i 12 := by
                  show kv_pt (kv_pt _ k 6 _) k 12 _ i 12 = _
                  rw [kw_pt_ne _ _ (by omega), kw_pt_ne _ _ (by omega)]
                rw [this]
                exact h5 i
            · have e1 : ∀ w, w ≠ 6 → w ≠ 12 → (kw_vp (kw_vp (kw_vm zM1 16 0) k 6 (km zM k 6 + 1)) k 12 1).1 i w = (kw_vm zM1 16 0).1 i w := by
                intro w w1 w2
                show kv_pt (kv_pt _ k 6 _) k 12 _ i w = _
                rw [kw_pt_ne _ _ (by omega), kw_pt_ne _ _ (by omega)]
              rw [e1 11 (by omega) (by omega)] at hi
              rw [e1 0 (by omega) (by omega)]
              exact h6 i hi
          · simp only [kv_e95_0, kv_e95_1, kv_e95_2, kv_e95_5, kv_e95_8, kv_e95_9, kv_e95_12, kv_e95_13, kv_e95_15, kv_e95_18, kv_e95_21, kv_e95_22, kv_e95_25, kv_e95_26, kv_e95_28, kv_e95_31, kv_e95_33, kv_e95_36, kv_e95_37, kv_e95_38, kv_e95_39, kv_e95_42, kv_e95_43, kv_e95_46, kv_e95_49, kv_e95_50, kv_e95_53, kv_e95_54, kv_e95_56, kv_e95_57, kv_e95_60, kv_e95_61, kv_e95_64, kv_e95_65, kv_e95_67, kv_e95_68, kv_e95_71, kv_e95_72, kv_e95_74, kv_e95_77, kv_e95_78, kv_e95_79, kv_e95_82, kv_e95_83, kv_e95_86, kv_e95_87, kv_e95_89, kv_e95_92, kv_o10, not_false_eq_true, not_true, if_true, if_false, kv_then_s, kv_then_v, kv_then_n, List.cons_append, List.nil_append, kv_Ci, kv_Cr, kv_Cn, kv_Cu, kv_C0, kv_catc, kv_gCi, kv_gCl, kv_gCr, kv_nb0, kv_nb1, kv_nbi, kv_nb01, Nat.reduceAdd, Nat.reduceLeDiff, kw_Kflies hKK hk, ek, c1, kv_isS36, kv_get, kv_g12 zK 36 hk8, kv_g6 zK 36 hk8, c2, c4, eq_self, r1, kv_set, g1, g2]
          · simp only [kv_e222_0, kv_e222_1, kv_e222_2, kv_e222_5, kv_e222_8, kv_e222_9, kv_e222_10, kv_e222_12, kv_e222_15, kv_e222_16, kv_e222_19, kv_e222_20, kv_e222_21, kv_e222_22, kv_e222_25, kv_e222_27, kv_e222_30, kv_e222_31, kv_e222_32, kv_e222_33, kv_e222_36, kv_e222_37, kv_e222_38, kv_e222_39, kv_e222_40, kv_e222_41, kv_e222_42, kv_e222_45, kv_e222_46, kv_e222_47, kv_e222_50, kv_e222_51, kv_e222_52, kv_e222_54, kv_e222_55, kv_e222_58, kv_e222_59, kv_e222_60, kv_e222_61, kv_e222_64, kv_o10, not_false_eq_true, not_true, if_true, if_false, kv_then_s, kv_then_v, kv_then_n, List.cons_append, List.nil_append, kv_Ci, kv_Cr, kv_Cn, kv_Cu, kv_C0, kv_catc, kv_gCi, kv_gCl, kv_gCr, kv_nb0, kv_nb1, kv_nbi, kv_nb01, Nat.reduceAdd, Nat.reduceLeDiff, kw_flies hI.1.1 hk, c1, kw_of12 hk8, kw_of5 hk8, c2, c3, show ((0 : Int32) = 1) = False from by decide, r2, em, kw_put5 hk8, kw_put12 hk8, g3]
      · refine kw_A0 (r := -1) h ?_ ?_
        · simp only [kv_e95_0, kv_e95_1, kv_e95_2, kv_e95_5, kv_e95_8, kv_e95_9, kv_e95_12, kv_e95_13, kv_e95_15, kv_e95_18, kv_e95_21, kv_e95_22, kv_e95_25, kv_e95_26, kv_e95_28, kv_e95_31, kv_e95_33, kv_e95_36, kv_e95_37, kv_e95_38, kv_e95_39, kv_e95_42, kv_e95_43, kv_e95_46, kv_e95_49, kv_e95_50, kv_e95_53, kv_e95_54, kv_e95_56, kv_e95_57, kv_e95_60, kv_e95_61, kv_e95_64, kv_e95_65, kv_e95_67, kv_e95_68, kv_e95_71, kv_e95_72, kv_e95_74, kv_e95_77, kv_e95_78, kv_e95_79, kv_e95_82, kv_e95_83, kv_e95_86, kv_e95_87, kv_e95_89, kv_e95_92, kv_o10, not_false_eq_true, not_true, if_true, if_false, kv_then_s, kv_then_v, kv_then_n, List.cons_append, List.nil_append, kv_Ci, kv_Cr, kv_Cn, kv_Cu, kv_C0, kv_catc, kv_gCi, kv_gCl, kv_gCr, kv_nb0, kv_nb1, kv_nbi, kv_nb01, Nat.reduceAdd, Nat.reduceLeDiff, kw_Kflies hKK hk, ek, c1, kv_isS36, kv_get, kv_g12 zK 36 hk8, c2]
        · simp only [kv_e222_0, kv_e222_1, kv_e222_2, kv_e222_5, kv_e222_8, kv_e222_9, kv_e222_10, kv_e222_12, kv_e222_15, kv_e222_16, kv_e222_19, kv_e222_20, kv_e222_21, kv_e222_22, kv_e222_25, kv_e222_27, kv_e222_30, kv_e222_31, kv_e222_32, kv_e222_33, kv_e222_36, kv_e222_37, kv_e222_38, kv_e222_39, kv_e222_40, kv_e222_41, kv_e222_42, kv_e222_45, kv_e222_46, kv_e222_47, kv_e222_50, kv_e222_51, kv_e222_52, kv_e222_54, kv_e222_55, kv_e222_58, kv_e222_59, kv_e222_60, kv_e222_61, kv_e222_64, kv_o10, not_false_eq_true, not_true, if_true, if_false, kv_then_s, kv_then_v, kv_then_n, List.cons_append, List.nil_append, kv_Ci, kv_Cr, kv_Cn, kv_Cu, kv_C0, kv_catc, kv_gCi, kv_gCl, kv_gCr, kv_nb0, kv_nb1, kv_nbi, kv_nb01, Nat.reduceAdd, Nat.reduceLeDiff, kw_flies hI.1.1 hk, c1, kw_of12 hk8, c2, eq_self]
theorem kw_f_move (h : kw_R n B W zK zM) (x y : Int32) : kw_A (d + 12) 96 224 [some (.ref 0), some (.int x), some (.int y), none] [some (.ref 0), some (.int x), some (.int y)] zK zM zl zlM := by
  have hKK := kw_R_KK h
  have hI := kw_R_I h
  have ek := kw_R_km h.2.1.1
  have e30 := h.1.2.2.1.2.1 0 (by omega)
  obtain ⟨hW, hw⟩ := h.1.2.2.1.2.2.2.1
  by_cases c0 : x < 0
  · refine kw_A0 (r := -1) h ?_ ?_
    · simp only [kv_e96_0, kv_e96_1, kv_e96_2, kv_e96_5, kv_e96_8, kv_e96_9, kv_e96_10, kv_e96_13, kv_e96_14, kv_e96_15, kv_e96_18, kv_e96_19, kv_e96_20, kv_e96_21, kv_e96_24, kv_e96_25, kv_e96_26, kv_e96_29, kv_e96_30, kv_e96_31, kv_e96_32, kv_e96_33, kv_e96_34, kv_e96_37, kv_e96_40, kv_e96_41, kv_e96_42, kv_e96_43, kv_e96_46, kv_e96_47, kv_e96_50, kv_e96_53, kv_e96_54, kv_e96_57, kv_e96_58, kv_e96_59, kv_e96_60, kv_e96_63, kv_e96_64, kv_o10, not_false_eq_true, not_true, if_true, if_false, kv_then_s, kv_then_v, kv_then_n, List.cons_append, List.nil_append, kv_Ci, kv_Cr, kv_Cn, kv_Cu, kv_C0, kv_catc, kv_gCi, kv_gCl, kv_gCr, kv_nb0, kv_nb1, kv_nbi, kv_nb01, Nat.reduceAdd, Nat.reduceLeDiff, kw_KfliesN c0, eq_self]
    · simp only [kv_e224_0, kv_e224_1, kv_e224_2, kv_e224_5, kv_e224_8, kv_e224_9, kv_e224_10, kv_e224_13, kv_e224_14, kv_e224_15, kv_e224_18, kv_e224_19, kv_e224_20, kv_e224_21, kv_e224_22, kv_e224_25, kv_e224_26, kv_e224_27, kv_e224_30, kv_e224_33, kv_e224_34, kv_e224_35, kv_e224_36, kv_e224_39, kv_e224_40, kv_e224_41, kv_e224_42, kv_e224_43, kv_e224_44, kv_e224_45, kv_e224_48, kv_e224_49, kv_e224_50, kv_e224_53, kv_e224_54, kv_e224_55, kv_e224_56, kv_e224_59, kv_o10, not_false_eq_true, not_true, if_true, if_false, kv_then_s, kv_then_v, kv_then_n, List.cons_append, List.nil_append, kv_Ci, kv_Cr, kv_Cn, kv_Cu, kv_C0, kv_catc, kv_gCi, kv_gCl, kv_gCr, kv_nb0, kv_nb1, kv_nbi, kv_nb01, Nat.reduceAdd, Nat.reduceLeDiff, kw_fliesN c0, eq_self]
  · obtain ⟨k, hk, rfl⟩ := kv_nat (kv_nn0 c0)
    by_cases c1 : km zM k 11 = 0
    · refine kw_A0 (r := -1) h ?_ ?_
      · simp only [kv_e96_0, kv_e96_1, kv_e96_2, kv_e96_5, kv_e96_8, kv_e96_9, kv_e96_10, kv_e96_13, kv_e96_14, kv_e96_15, kv_e96_18, kv_e96_19, kv_e96_20, kv_e96_21, kv_e96_24, kv_e96_25, kv_e96_26, kv_e96_29, kv_e96_30, kv_e96_31, kv_e96_32, kv_e96_33, kv_e96_34, kv_e96_37, kv_e96_40, kv_e96_41, kv_e96_42, kv_e96_43, kv_e96_46, kv_e96_47, kv_e96_50, kv_e96_53, kv_e96_54, kv_e96_57, kv_e96_58, kv_e96_59, kv_e96_60, kv_e96_63, kv_e96_64, kv_o10, not_false_eq_true, not_true, if_true, if_false, kv_then_s, kv_then_v, kv_then_n, List.cons_append, List.nil_append, kv_Ci, kv_Cr, kv_Cn, kv_Cu, kv_C0, kv_catc, kv_gCi, kv_gCl, kv_gCr, kv_nb0, kv_nb1, kv_nbi, kv_nb01, Nat.reduceAdd, Nat.reduceLeDiff, kw_Kflies hKK hk, ek, c1, eq_self]
      · simp only [kv_e224_0, kv_e224_1, kv_e224_2, kv_e224_5, kv_e224_8, kv_e224_9, kv_e224_10, kv_e224_13, kv_e224_14, kv_e224_15, kv_e224_18, kv_e224_19, kv_e224_20, kv_e224_21, kv_e224_22, kv_e224_25, kv_e224_26, kv_e224_27, kv_e224_30, kv_e224_33, kv_e224_34, kv_e224_35, kv_e224_36, kv_e224_39, kv_e224_40, kv_e224_41, kv_e224_42, kv_e224_43, kv_e224_44, kv_e224_45, kv_e224_48, kv_e224_49, kv_e224_50, kv_e224_53, kv_e224_54, kv_e224_55, kv_e224_56, kv_e224_59, kv_o10, not_false_eq_true, not_true, if_true, if_false, kv_then_s, kv_then_v, kv_then_n, List.cons_append, List.nil_append, kv_Ci, kv_Cr, kv_Cn, kv_Cu, kv_C0, kv_catc, kv_gCi, kv_gCl, kv_gCr, kv_nb0, kv_nb1, kv_nbi, kv_nb01, Nat.reduceAdd, Nat.reduceLeDiff, kw_flies hI.1.1 hk, c1, eq_self]
    · have hk8 := (kw_lt8 h c1).2
      have fr := kw_misFree (d := d + 8) (zl := zlM) hI.1.1 hW (by rw [← e30]; exact hw) (km zM k 0 + y)
      rw [← e30] at fr
      by_cases c2 : y = -1 ∨ y = 1
      · by_cases c3 : 0 ≤ km zM k 0 + y ∧ km zM k 0 + y < zK 3 0 ∧ kw_hd (km zM) (km zM k 0 + y) = false
        · obtain ⟨zK1, zM1, ⟨r1, r2⟩, R1, k1, m1, m0⟩ := kw_keepR (d := d + 9) (dM := d + 11) (e := []) (zl := zl) (zlM := zlM) h
          obtain ⟨s1, s2⟩ := kw_R_sv R1
          have em : km zM1 = km zM := kw_km_fr (m1 16 (by omega) (by omega))
          have g3 : km (kw_mu zM1 k 0 (km zM k 0 + y)) k 0 = km zM k 0 + y := by
            rw [kw_mu_km _ hk8 (by omega), kw_pt_at]
          refine kw_A1 (r := km zM k 0 + y) (zK' := kv_su zK1 36 (Int32.ofNat k) 0 (km zM k 0 + y)) (zM' := kw_mu zM1 k 0 (km zM k 0 + y)) (kw_R_both R1 (fun c hc => kw_su_fr _ _ _ _ _ (by omega)) (fun c hc => kw_mu_fr _ _ _ _ hc) ((kw_vk_su zK1 (w := 0) hk8 (by omega) rfl).trans (by rw [s2])) (kw_vm_mu zM1 hk8 (by omega)) (kw_SV_pt s1 (by omega) (fun _ => by
            obtain ⟨m, hm, e⟩ := kv_nat c3.1
            have c4 := c3.2.1
            rw [e, hw, kv_nlt hm (by omega)] at c4
            exact ⟨m, c4, e⟩))) ?_ ?_
          · rcases c2 with c2 | c2
            · simp only [kv_e96_0, kv_e96_1, kv_e96_2, kv_e96_5, kv_e96_8, kv_e96_9, kv_e96_10, kv_e96_13, kv_e96_14, kv_e96_15, kv_e96_18, kv_e96_19, kv_e96_20, kv_e96_21, kv_e96_24, kv_e96_25, kv_e96_26, kv_e96_29, kv_e96_30, kv_e96_31, kv_e96_32, kv_e96_33, kv_e96_34, kv_e96_37, kv_e96_40, kv_e96_41, kv_e96_42, kv_e96_43, kv_e96_46, kv_e96_47, kv_e96_50, kv_e96_53, kv_e96_54, kv_e96_57, kv_e96_58, kv_e96_59, kv_e96_60, kv_e96_63, kv_e96_64, kv_o10, not_false_eq_true, not_true, if_true, if_false, kv_then_s, kv_then_v, kv_then_n, List.cons_append, List.nil_append, kv_Ci, kv_Cr, kv_Cn, kv_Cu, kv_C0, kv_catc, kv_gCi, kv_gCl, kv_gCr, kv_nb0, kv_nb1, kv_nbi, kv_nb01, Nat.reduceAdd, Nat.reduceLeDiff, kw_Kflies hKK hk, ek, c1, c2, eq_self, kv_isS36, kv_get, kv_g0 zK 36 hk8, kw_KisFree]
              rw [c2] at c3
              simp only [c3, and_self, kv_o10, not_false_eq_true, not_true, if_true, if_false, kv_then_s, kv_then_v, kv_then_n, List.cons_append, List.nil_append, kv_Ci, kv_Cr, kv_Cn, kv_Cu, kv_C0, kv_catc, kv_gCi, kv_gCl, kv_gCr, kv_nb0, kv_nb1, kv_nbi, kv_nb01, Nat.reduceAdd, Nat.reduceLeDiff, kv_e96_0, kv_e96_1, kv_e96_2, kv_e96_5, kv_e96_8, kv_e96_9, kv_e96_10, kv_e96_13, kv_e96_14, kv_e96_15, kv_e96_18, kv_e96_19, kv_e96_20, kv_e96_21, kv_e96_24, kv_e96_25, kv_e96_26, kv_e96_29, kv_e96_30, kv_e96_31, kv_e96_32, kv_e96_33, kv_e96_34, kv_e96_37, kv_e96_40, kv_e96_41, kv_e96_42, kv_e96_43, kv_e96_46, kv_e96_47, kv_e96_50, kv_e96_53, kv_e96_54, kv_e96_57, kv_e96_58, kv_e96_59, kv_e96_60, kv_e96_63, kv_e96_64, kv_isS36, r1, kv_set]
            · simp only [kv_e96_0, kv_e96_1, kv_e96_2, kv_e96_5, kv_e96_8, kv_e96_9, kv_e96_10, kv_e96_13, kv_e96_14, kv_e96_15, kv_e96_18, kv_e96_19, kv_e96_20, kv_e96_21, kv_e96_24, kv_e96_25, kv_e96_26, kv_e96_29, kv_e96_30, kv_e96_31, kv_e96_32, kv_e96_33, kv_e96_34, kv_e96_37, kv_e96_40, kv_e96_41, kv_e96_42, kv_e96_43, kv_e96_46, kv_e96_47, kv_e96_50, kv_e96_53, kv_e96_54, kv_e96_57, kv_e96_58, kv_e96_59, kv_e96_60, kv_e96_63, kv_e96_64, kv_o10, not_false_eq_true, not_true, if_true, if_false, kv_then_s, kv_then_v, kv_then_n, List.cons_append, List.nil_append, kv_Ci, kv_Cr, kv_Cn, kv_Cu, kv_C0, kv_catc, kv_gCi, kv_gCl, kv_gCr, kv_nb0, kv_nb1, kv_nbi, kv_nb01, Nat.reduceAdd, Nat.reduceLeDiff, kw_Kflies hKK hk, ek, c1, c2, eq_self, show ((1 : Int32) = -1) = False from by decide, kv_isS36, kv_get, kv_g0 zK 36 hk8, kw_KisFree]
              rw [c2] at c3
              simp only [c3, and_self, kv_o10, not_false_eq_true, not_true, if_true, if_false, kv_then_s, kv_then_v, kv_then_n, List.cons_append, List.nil_append, kv_Ci, kv_Cr, kv_Cn, kv_Cu, kv_C0, kv_catc, kv_gCi, kv_gCl, kv_gCr, kv_nb0, kv_nb1, kv_nbi, kv_nb01, Nat.reduceAdd, Nat.reduceLeDiff, kv_e96_0, kv_e96_1, kv_e96_2, kv_e96_5, kv_e96_8, kv_e96_9, kv_e96_10, kv_e96_13, kv_e96_14, kv_e96_15, kv_e96_18, kv_e96_19, kv_e96_20, kv_e96_21, kv_e96_24, kv_e96_25, kv_e96_26, kv_e96_29, kv_e96_30, kv_e96_31, kv_e96_32, kv_e96_33, kv_e96_34, kv_e96_37, kv_e96_40, kv_e96_41, kv_e96_42, kv_e96_43, kv_e96_46, kv_e96_47, kv_e96_50, kv_e96_53, kv_e96_54, kv_e96_57, kv_e96_58, kv_e96_59, kv_e96_60, kv_e96_63, kv_e96_64, kv_isS36, r1, kv_set]
          · rcases c2 with c2 | c2
            · simp only [kv_e224_0, kv_e224_1, kv_e224_2, kv_e224_5, kv_e224_8, kv_e224_9, kv_e224_10, kv_e224_13, kv_e224_14, kv_e224_15, kv_e224_18, kv_e224_19, kv_e224_20, kv_e224_21, kv_e224_22, kv_e224_25, kv_e224_26, kv_e224_27, kv_e224_30, kv_e224_33, kv_e224_34, kv_e224_35, kv_e224_36, kv_e224_39, kv_e224_40, kv_e224_41, kv_e224_42, kv_e224_43, kv_e224_44, kv_e224_45, kv_e224_48, kv_e224_49, kv_e224_50, kv_e224_53, kv_e224_54, kv_e224_55, kv_e224_56, kv_e224_59, kv_o10, not_false_eq_true, not_true, if_true, if_false, kv_then_s, kv_then_v, kv_then_n, List.cons_append, List.nil_append, kv_Ci, kv_Cr, kv_Cn, kv_Cu, kv_C0, kv_catc, kv_gCi, kv_gCl, kv_gCr, kv_nb0, kv_nb1, kv_nbi, kv_nb01, Nat.reduceAdd, Nat.reduceLeDiff, kw_flies hI.1.1 hk, c1, c2, eq_self, kw_of0 hk8]
              rw [c2] at fr c3 g3
              simp only [fr, c3, and_self, kv_o10, not_false_eq_true, not_true, if_true, if_false, kv_then_s, kv_then_v, kv_then_n, List.cons_append, List.nil_append, kv_Ci, kv_Cr, kv_Cn, kv_Cu, kv_C0, kv_catc, kv_gCi, kv_gCl, kv_gCr, kv_nb0, kv_nb1, kv_nbi, kv_nb01, Nat.reduceAdd, Nat.reduceLeDiff, kv_e224_0, kv_e224_1, kv_e224_2, kv_e224_5, kv_e224_8, kv_e224_9, kv_e224_10, kv_e224_13, kv_e224_14, kv_e224_15, kv_e224_18, kv_e224_19, kv_e224_20, kv_e224_21, kv_e224_22, kv_e224_25, kv_e224_26, kv_e224_27, kv_e224_30, kv_e224_33, kv_e224_34, kv_e224_35, kv_e224_36, kv_e224_39, kv_e224_40, kv_e224_41, kv_e224_42, kv_e224_43, kv_e224_44, kv_e224_45, kv_e224_48, kv_e224_49, kv_e224_50, kv_e224_53, kv_e224_54, kv_e224_55, kv_e224_56, kv_e224_59, r2, em, kw_of0 hk8, kw_put0 hk8, g3]
            · simp only [kv_e224_0, kv_e224_1, kv_e224_2, kv_e224_5, kv_e224_8, kv_e224_9, kv_e224_10, kv_e224_13, kv_e224_14, kv_e224_15, kv_e224_18, kv_e224_19, kv_e224_20, kv_e224_21, kv_e224_22, kv_e224_25, kv_e224_26, kv_e224_27, kv_e224_30, kv_e224_33, kv_e224_34, kv_e224_35, kv_e224_36, kv_e224_39, kv_e224_40, kv_e224_41, kv_e224_42, kv_e224_43, kv_e224_44, kv_e224_45, kv_e224_48, kv_e224_49, kv_e224_50, kv_e224_53, kv_e224_54, kv_e224_55, kv_e224_56, kv_e224_59, kv_o10, not_false_eq_true, not_true, if_true, if_false, kv_then_s, kv_then_v, kv_then_n, List.cons_append, List.nil_append, kv_Ci, kv_Cr, kv_Cn, kv_Cu, kv_C0, kv_catc, kv_gCi, kv_gCl, kv_gCr, kv_nb0, kv_nb1, kv_nbi, kv_nb01, Nat.reduceAdd, Nat.reduceLeDiff, kw_flies hI.1.1 hk, c1, c2, eq_self, show ((1 : Int32) = -1) = False from by decide, kw_of0 hk8]
              rw [c2] at fr c3 g3
              simp only [fr, c3, and_self, kv_o10, not_false_eq_true, not_true, if_true, if_false, kv_then_s, kv_then_v, kv_then_n, List.cons_append, List.nil_append, kv_Ci, kv_Cr, kv_Cn, kv_Cu, kv_C0, kv_catc, kv_gCi, kv_gCl, kv_gCr, kv_nb0, kv_nb1, kv_nbi, kv_nb01, Nat.reduceAdd, Nat.reduceLeDiff, kv_e224_0, kv_e224_1, kv_e224_2, kv_e224_5, kv_e224_8, kv_e224_9, kv_e224_10, kv_e224_13, kv_e224_14, kv_e224_15, kv_e224_18, kv_e224_19, kv_e224_20, kv_e224_21, kv_e224_22, kv_e224_25, kv_e224_26, kv_e224_27, kv_e224_30, kv_e224_33, kv_e224_34, kv_e224_35, kv_e224_36, kv_e224_39, kv_e224_40, kv_e224_41, kv_e224_42, kv_e224_43, kv_e224_44, kv_e224_45, kv_e224_48, kv_e224_49, kv_e224_50, kv_e224_53, kv_e224_54, kv_e224_55, kv_e224_56, kv_e224_59, r2, em, kw_of0 hk8, kw_put0 hk8, g3]
        · refine kw_A0 (r := -1) h ?_ ?_
          · rcases c2 with c2 | c2
            · rw [c2] at c3
              simp only [kv_e96_0, kv_e96_1, kv_e96_2, kv_e96_5, kv_e96_8, kv_e96_9, kv_e96_10, kv_e96_13, kv_e96_14, kv_e96_15, kv_e96_18, kv_e96_19, kv_e96_20, kv_e96_21, kv_e96_24, kv_e96_25, kv_e96_26, kv_e96_29, kv_e96_30, kv_e96_31, kv_e96_32, kv_e96_33, kv_e96_34, kv_e96_37, kv_e96_40, kv_e96_41, kv_e96_42, kv_e96_43, kv_e96_46, kv_e96_47, kv_e96_50, kv_e96_53, kv_e96_54, kv_e96_57, kv_e96_58, kv_e96_59, kv_e96_60, kv_e96_63, kv_e96_64, kv_o10, not_false_eq_true, not_true, if_true, if_false, kv_then_s, kv_then_v, kv_then_n, List.cons_append, List.nil_append, kv_Ci, kv_Cr, kv_Cn, kv_Cu, kv_C0, kv_catc, kv_gCi, kv_gCl, kv_gCr, kv_nb0, kv_nb1, kv_nbi, kv_nb01, Nat.reduceAdd, Nat.reduceLeDiff, kw_Kflies hKK hk, ek, c1, c2, eq_self, kv_isS36, kv_get, kv_g0 zK 36 hk8, kw_KisFree, c3]
            · rw [c2] at c3
              simp only [kv_e96_0, kv_e96_1, kv_e96_2, kv_e96_5, kv_e96_8, kv_e96_9, kv_e96_10, kv_e96_13, kv_e96_14, kv_e96_15, kv_e96_18, kv_e96_19, kv_e96_20, kv_e96_21, kv_e96_24, kv_e96_25, kv_e96_26, kv_e96_29, kv_e96_30, kv_e96_31, kv_e96_32, kv_e96_33, kv_e96_34, kv_e96_37, kv_e96_40, kv_e96_41, kv_e96_42, kv_e96_43, kv_e96_46, kv_e96_47, kv_e96_50, kv_e96_53, kv_e96_54, kv_e96_57, kv_e96_58, kv_e96_59, kv_e96_60, kv_e96_63, kv_e96_64, kv_o10, not_false_eq_true, not_true, if_true, if_false, kv_then_s, kv_then_v, kv_then_n, List.cons_append, List.nil_append, kv_Ci, kv_Cr, kv_Cn, kv_Cu, kv_C0, kv_catc, kv_gCi, kv_gCl, kv_gCr, kv_nb0, kv_nb1, kv_nbi, kv_nb01, Nat.reduceAdd, Nat.reduceLeDiff, kw_Kflies hKK hk, ek, c1, c2, eq_self, show ((1 : Int32) = -1) = False from by decide, kv_isS36, kv_get, kv_g0 zK 36 hk8, kw_KisFree, c3]
          · rcases c2 with c2 | c2
            · rw [c2] at fr c3
              simp only [kv_e224_0, kv_e224_1, kv_e224_2, kv_e224_5, kv_e224_8, kv_e224_9, kv_e224_10, kv_e224_13, kv_e224_14, kv_e224_15, kv_e224_18, kv_e224_19, kv_e224_20, kv_e224_21, kv_e224_22, kv_e224_25, kv_e224_26, kv_e224_27, kv_e224_30, kv_e224_33, kv_e224_34, kv_e224_35, kv_e224_36, kv_e224_39, kv_e224_40, kv_e224_41, kv_e224_42, kv_e224_43, kv_e224_44, kv_e224_45, kv_e224_48, kv_e224_49, kv_e224_50, kv_e224_53, kv_e224_54, kv_e224_55, kv_e224_56, kv_e224_59, kv_o10, not_false_eq_true, not_true, if_true, if_false, kv_then_s, kv_then_v, kv_then_n, List.cons_append, List.nil_append, kv_Ci, kv_Cr, kv_Cn, kv_Cu, kv_C0, kv_catc, kv_gCi, kv_gCl, kv_gCr, kv_nb0, kv_nb1, kv_nbi, kv_nb01, Nat.reduceAdd, Nat.reduceLeDiff, kw_flies hI.1.1 hk, c1, c2, eq_self, kw_of0 hk8, fr, c3]
            · rw [c2] at fr c3
              simp only [kv_e224_0, kv_e224_1, kv_e224_2, kv_e224_5, kv_e224_8, kv_e224_9, kv_e224_10, kv_e224_13, kv_e224_14, kv_e224_15, kv_e224_18, kv_e224_19, kv_e224_20, kv_e224_21, kv_e224_22, kv_e224_25, kv_e224_26, kv_e224_27, kv_e224_30, kv_e224_33, kv_e224_34, kv_e224_35, kv_e224_36, kv_e224_39, kv_e224_40, kv_e224_41, kv_e224_42, kv_e224_43, kv_e224_44, kv_e224_45, kv_e224_48, kv_e224_49, kv_e224_50, kv_e224_53, kv_e224_54, kv_e224_55, kv_e224_56, kv_e224_59, kv_o10, not_false_eq_true, not_true, if_true, if_false, kv_then_s, kv_then_v, kv_then_n, List.cons_append, List.nil_append, kv_Ci, kv_Cr, kv_Cn, kv_Cu, kv_C0, kv_catc, kv_gCi, kv_gCl, kv_gCr, kv_nb0, kv_nb1, kv_nbi, kv_nb01, Nat.reduceAdd, Nat.reduceLeDiff, kw_flies hI.1.1 hk, c1, c2, eq_self, show ((1 : Int32) = -1) = False from by decide, kw_of0 hk8, fr, c3]
      · have n1 : ¬ y = -1 := fun q => c2 (Or.inl q)
        have n2 : ¬ y = 1 := fun q => c2 (Or.inr q)
        refine kw_A0 (r := -1) h ?_ ?_
        · simp only [kv_e96_0, kv_e96_1, kv_e96_2, kv_e96_5, kv_e96_8, kv_e96_9, kv_e96_10, kv_e96_13, kv_e96_14, kv_e96_15, kv_e96_18, kv_e96_19, kv_e96_20, kv_e96_21, kv_e96_24, kv_e96_25, kv_e96_26, kv_e96_29, kv_e96_30, kv_e96_31, kv_e96_32, kv_e96_33, kv_e96_34, kv_e96_37, kv_e96_40, kv_e96_41, kv_e96_42, kv_e96_43, kv_e96_46, kv_e96_47, kv_e96_50, kv_e96_53, kv_e96_54, kv_e96_57, kv_e96_58, kv_e96_59, kv_e96_60, kv_e96_63, kv_e96_64, kv_o10, not_false_eq_true, not_true, if_true, if_false, kv_then_s, kv_then_v, kv_then_n, List.cons_append, List.nil_append, kv_Ci, kv_Cr, kv_Cn, kv_Cu, kv_C0, kv_catc, kv_gCi, kv_gCl, kv_gCr, kv_nb0, kv_nb1, kv_nbi, kv_nb01, Nat.reduceAdd, Nat.reduceLeDiff, kw_Kflies hKK hk, ek, c1, n1, n2]
        · simp only [kv_e224_0, kv_e224_1, kv_e224_2, kv_e224_5, kv_e224_8, kv_e224_9, kv_e224_10, kv_e224_13, kv_e224_14, kv_e224_15, kv_e224_18, kv_e224_19, kv_e224_20, kv_e224_21, kv_e224_22, kv_e224_25, kv_e224_26, kv_e224_27, kv_e224_30, kv_e224_33, kv_e224_34, kv_e224_35, kv_e224_36, kv_e224_39, kv_e224_40, kv_e224_41, kv_e224_42, kv_e224_43, kv_e224_44, kv_e224_45, kv_e224_48, kv_e224_49, kv_e224_50, kv_e224_53, kv_e224_54, kv_e224_55, kv_e224_56, kv_e224_59, kv_o10, not_false_eq_true, not_true, if_true, if_false, kv_then_s, kv_then_v, kv_then_n, List.cons_append, List.nil_append, kv_Ci, kv_Cr, kv_Cn, kv_Cu, kv_C0, kv_catc, kv_gCi, kv_gCl, kv_gCr, kv_nb0, kv_nb1, kv_nbi, kv_nb01, Nat.reduceAdd, Nat.reduceLeDiff, kw_flies hI.1.1 hk, c1, n1, n2]
end
