/-! cross, prey, stand -/
section
variable {d n B W : Nat} {e : List kv_E} {z zK zM zK' zM' : Nat → Nat → Int32} {zl zlM : Nat → Nat → Int64}
theorem kw_A2 {r : Int32} {zK' zM' : Nat → Nat → Int32} {jK jM : Nat} {lK lM : kv_L} (h : kw_R n B W zK zM) (h1 : kv_Rn d jK 0 lK [] (kv_h [] zK zl) = some (some (.int r), kv_h [] zK' zl)) (h2 : kv_Rn d jM 0 lM [] (kv_m zM zlM) = some (some (.int r), kv_m zM' zlM)) (hk : kw_XK zK zK') (hm : kw_XM zM zM') : kw_A d jK jM lK lM zK zM zl zlM := kw_A_ h h1 h2 hk hm
theorem kw_f_cross (h : kw_R n B W zK zM) (x y : Int32) : kw_A (d + 12) 112 248 [some (.ref 0), some (.int x), some (.int y)] [some (.ref 0), some (.int x), some (.int y)] zK zM zl zlM := by
  have hKK := kw_R_KK h
  have hI := kw_R_I h
  have ek := kw_R_km h.2.1.1
  obtain ⟨em, M, m1, m2, m3, m4, m5⟩ := kw_R_min h
  by_cases c0 : x < 0
  · refine kw_A0 (r := -1) h ?_ ?_
    · simp only [kv_e112_0, kv_e112_1, kv_e112_2, kv_e112_3, kv_e112_6, kv_e112_9, kv_e112_10, kv_e112_11, kv_e112_12, kv_e112_15, kv_e112_18, kv_e112_19, kv_o10, not_false_eq_true, not_true, if_true, if_false, kv_then_s, kv_then_v, kv_then_n, List.cons_append, List.nil_append, kv_Ci, kv_Cr, kv_Cn, kv_Cu, kv_C0, kv_catc, kv_gCi, kv_gCl, kv_gCr, kv_nb0, kv_nb1, kv_nbi, kv_nb01, Nat.reduceAdd, Nat.reduceLeDiff, kw_KareTwoN1 c0, eq_self]
    · simp only [kv_e248_0, kv_e248_1, kv_e248_2, kv_e248_3, kv_e248_6, kv_e248_9, kv_e248_10, kv_e248_11, kv_e248_12, kv_e248_15, kv_e248_18, kv_e248_19, kv_e197_0, kv_e197_1, kv_e197_2, kv_e197_5, kv_e197_8, kv_e197_9, kv_e197_10, kv_e197_13, kv_e197_16, kv_e197_17, kv_e197_18, kv_e197_21, kv_e197_22, kv_e197_25, kv_e197_26, kv_o10, not_false_eq_true, not_true, if_true, if_false, kv_then_s, kv_then_v, kv_then_n, List.cons_append, List.nil_append, kv_Ci, kv_Cr, kv_Cn, kv_Cu, kv_C0, kv_catc, kv_gCi, kv_gCl, kv_gCr, kv_nb0, kv_nb1, kv_nbi, kv_nb01, Nat.reduceAdd, Nat.reduceLeDiff, kw_fliesN c0, eq_self]
  · obtain ⟨k, hk, rfl⟩ := kv_nat (kv_nn0 c0)
    by_cases c2 : y < 0
    · refine kw_A0 (r := -1) h ?_ ?_
      · simp only [kv_e112_0, kv_e112_1, kv_e112_2, kv_e112_3, kv_e112_6, kv_e112_9, kv_e112_10, kv_e112_11, kv_e112_12, kv_e112_15, kv_e112_18, kv_e112_19, kv_o10, not_false_eq_true, not_true, if_true, if_false, kv_then_s, kv_then_v, kv_then_n, List.cons_append, List.nil_append, kv_Ci, kv_Cr, kv_Cn, kv_Cu, kv_C0, kv_catc, kv_gCi, kv_gCl, kv_gCr, kv_nb0, kv_nb1, kv_nbi, kv_nb01, Nat.reduceAdd, Nat.reduceLeDiff, kw_KareTwoN2 hKK hk c2, eq_self]
      · simp only [kv_e248_0, kv_e248_1, kv_e248_2, kv_e248_3, kv_e248_6, kv_e248_9, kv_e248_10, kv_e248_11, kv_e248_12, kv_e248_15, kv_e248_18, kv_e248_19, kv_e197_0, kv_e197_1, kv_e197_2, kv_e197_5, kv_e197_8, kv_e197_9, kv_e197_10, kv_e197_13, kv_e197_16, kv_e197_17, kv_e197_18, kv_e197_21, kv_e197_22, kv_e197_25, kv_e197_26, kv_o10, not_false_eq_true, not_true, if_true, if_false, kv_then_s, kv_then_v, kv_then_n, List.cons_append, List.nil_append, kv_Ci, kv_Cr, kv_Cn, kv_Cu, kv_C0, kv_catc, kv_gCi, kv_gCl, kv_gCr, kv_nb0, kv_nb1, kv_nbi, kv_nb01, Nat.reduceAdd, Nat.reduceLeDiff, kw_flies hI.1.1 hk, kw_fliesN c2, eq_self, kv_i01]
        by_cases c1 : km zM k 11 = 0 <;> simp only [c1, kv_o10, not_false_eq_true, not_true, if_true, if_false, kv_then_s, kv_then_v, kv_then_n, List.cons_append, List.nil_append, kv_Ci, kv_Cr, kv_Cn, kv_Cu, kv_C0, kv_catc, kv_gCi, kv_gCl, kv_gCr, kv_nb0, kv_nb1, kv_nbi, kv_nb01, Nat.reduceAdd, Nat.reduceLeDiff, kv_e248_0, kv_e248_1, kv_e248_2, kv_e248_3, kv_e248_6, kv_e248_9, kv_e248_10, kv_e248_11, kv_e248_12, kv_e248_15, kv_e248_18, kv_e248_19, eq_self]
    · obtain ⟨o, ho, rfl⟩ := kv_nat (kv_nn0 c2)
      by_cases c1 : ¬ km zM k 11 = 0 ∧ ¬ km zM o 11 = 0 ∧ ¬ k = o
      · have hk8 := (kw_lt8 h c1.1).2
        have ho8 := (kw_lt8 h c1.2.1).2
        obtain ⟨z1, r1, x1⟩ := kw_crossingK (d := d + 4) (e := []) (zl := zl) h m3 m1 (kw_XK_rf zK) hk8 ho8
        obtain ⟨z2, r2, x2⟩ := kw_crossOfM (d := d + 2) (zlM := zlM) h m3 m1 (kw_XM_rf zM) hk8 ho8 c1.1 c1.2.1
        refine kw_A2 (r := kw_cr zK zM B M k o) h ?_ ?_ x1 x2
        · simp only [kv_e112_0, kv_e112_1, kv_e112_2, kv_e112_3, kv_e112_6, kv_e112_9, kv_e112_10, kv_e112_11, kv_e112_12, kv_e112_15, kv_e112_18, kv_e112_19, kv_o10, not_false_eq_true, not_true, if_true, if_false, kv_then_s, kv_then_v, kv_then_n, List.cons_append, List.nil_append, kv_Ci, kv_Cr, kv_Cn, kv_Cu, kv_C0, kv_catc, kv_gCi, kv_gCl, kv_gCr, kv_nb0, kv_nb1, kv_nbi, kv_nb01, Nat.reduceAdd, Nat.reduceLeDiff, kw_KareTwo hKK hk ho, ek, c1, and_self, r1]
        · simp only [kv_e248_0, kv_e248_1, kv_e248_2, kv_e248_3, kv_e248_6, kv_e248_9, kv_e248_10, kv_e248_11, kv_e248_12, kv_e248_15, kv_e248_18, kv_e248_19, kv_o10, not_false_eq_true, not_true, if_true, if_false, kv_then_s, kv_then_v, kv_then_n, List.cons_append, List.nil_append, kv_Ci, kv_Cr, kv_Cn, kv_Cu, kv_C0, kv_catc, kv_gCi, kv_gCl, kv_gCr, kv_nb0, kv_nb1, kv_nbi, kv_nb01, Nat.reduceAdd, Nat.reduceLeDiff, kw_areTwo hI.1.1 hk ho, c1, and_self, r2]
      · refine kw_A0 (r := -1) h ?_ ?_
        · simp only [kv_e112_0, kv_e112_1, kv_e112_2, kv_e112_3, kv_e112_6, kv_e112_9, kv_e112_10, kv_e112_11, kv_e112_12, kv_e112_15, kv_e112_18, kv_e112_19, kv_o10, not_false_eq_true, not_true, if_true, if_false, kv_then_s, kv_then_v, kv_then_n, List.cons_append, List.nil_append, kv_Ci, kv_Cr, kv_Cn, kv_Cu, kv_C0, kv_catc, kv_gCi, kv_gCl, kv_gCr, kv_nb0, kv_nb1, kv_nbi, kv_nb01, Nat.reduceAdd, Nat.reduceLeDiff, kw_KareTwo hKK hk ho, ek, c1, eq_self]
        · simp only [kv_e248_0, kv_e248_1, kv_e248_2, kv_e248_3, kv_e248_6, kv_e248_9, kv_e248_10, kv_e248_11, kv_e248_12, kv_e248_15, kv_e248_18, kv_e248_19, kv_o10, not_false_eq_true, not_true, if_true, if_false, kv_then_s, kv_then_v, kv_then_n, List.cons_append, List.nil_append, kv_Ci, kv_Cr, kv_Cn, kv_Cu, kv_C0, kv_catc, kv_gCi, kv_gCl, kv_gCr, kv_nb0, kv_nb1, kv_nbi, kv_nb01, Nat.reduceAdd, Nat.reduceLeDiff, kw_areTwo hI.1.1 hk ho, c1, eq_self]
theorem kw_XK_KK (h : kw_R n B W zK zM) (hx : kw_XK zK z) : kw_KK n z ∧ kc z 36 = km zM ∧ z 3 = zK 3 ∧ z 36 = zK 36 := by
  have e37 : kc z 36 = kc zK 36 := kw_kc_fr (hx 37 (by omega) (by omega) (by omega) (by omega) (by omega) (by omega))
  have e3 := hx 3 (by omega) (by omega) (by omega) (by omega) (by omega) (by omega)
  obtain ⟨a1, a2⟩ := kw_R_KK h
  exact ⟨⟨by rw [e3]; exact a1, by rw [e37]; exact a2⟩, by rw [e37]; exact kw_R_km h.2.1.1, e3, hx 36 (by omega) (by omega) (by omega) (by omega) (by omega) (by omega)⟩
noncomputable def kw_pb (zK zM : Nat → Nat → Int32) (B M k : Nat) (o : Nat) : Bool := decide (¬ km zM k 11 = 0 ∧ ¬ km zM o 11 = 0 ∧ ¬ k = o ∧ kw_cr zK zM B M k o = 2)
theorem kw_pb_t {M k o : Nat} (h : ¬ km zM k 11 = 0 ∧ ¬ km zM o 11 = 0 ∧ ¬ k = o ∧ kw_cr zK zM B M k o = 2) : kw_pb zK zM B M k o = true := decide_eq_true h
theorem kw_pb_f {M k o : Nat} (h : ¬ (¬ km zM k 11 = 0 ∧ ¬ km zM o 11 = 0 ∧ ¬ k = o ∧ kw_cr zK zM B M k o = 2)) : kw_pb zK zM B M k o = false := decide_eq_false h
theorem kw_f_prey (h : kw_R n B W zK zM) (x : Int32) : kw_A (d + 12) 115 249 [some (.ref 0), some (.int x), none, none] [some (.ref 0), some (.int x), none, none] zK zM zl zlM := by
  have hKK := kw_R_KK h
  have hI := kw_R_I h
  have h8 := hI.1.1.1.2
  have ek := kw_R_km h.2.1.1
  obtain ⟨em, M, m1, m2, m3, m4, m5⟩ := kw_R_min h
  by_cases c0 : x < 0
  · refine kw_A0 (r := -1) h ?_ ?_
    · simp only [kv_e115_0, kv_e115_1, kv_e115_2, kv_e115_5, kv_e115_8, kv_e115_9, kv_e115_10, kv_e115_11, kv_e115_12, kv_e115_13, kv_e115_15, kv_e115_16, kv_e115_19, kv_e115_22, kv_e115_25, kv_e115_26, kv_e115_27, kv_e115_28, kv_e115_31, kv_e115_34, kv_e115_35, kv_e115_36, kv_e115_37, kv_e115_40, kv_e115_41, kv_e115_44, kv_e115_45, kv_e115_46, kv_e115_47, kv_e115_48, kv_e115_49, kv_e115_50, kv_e115_53, kv_e115_56, kv_e115_57, kv_o10, not_false_eq_true, not_true, if_true, if_false, kv_then_s, kv_then_v, kv_then_n, List.cons_append, List.nil_append, kv_Ci, kv_Cr, kv_Cn, kv_Cu, kv_C0, kv_catc, kv_gCi, kv_gCl, kv_gCr, kv_nb0, kv_nb1, kv_nbi, kv_nb01, Nat.reduceAdd, Nat.reduceLeDiff, kw_KfliesN c0, eq_self]
    · simp only [kv_e249_0, kv_e249_1, kv_e249_2, kv_e249_5, kv_e249_8, kv_e249_9, kv_e249_10, kv_e249_11, kv_e249_12, kv_e249_13, kv_e249_15, kv_e249_16, kv_e249_19, kv_e249_22, kv_e249_23, kv_e249_24, kv_e249_25, kv_e249_26, kv_e249_29, kv_e249_32, kv_e249_33, kv_e249_34, kv_e249_35, kv_e249_38, kv_e249_39, kv_e249_42, kv_e249_43, kv_e249_44, kv_e249_45, kv_e249_48, kv_e249_49, kv_e249_50, kv_e249_51, kv_e249_54, kv_e249_57, kv_e249_58, kv_o10, not_false_eq_true, not_true, if_true, if_false, kv_then_s, kv_then_v, kv_then_n, List.cons_append, List.nil_append, kv_Ci, kv_Cr, kv_Cn, kv_Cu, kv_C0, kv_catc, kv_gCi, kv_gCl, kv_gCr, kv_nb0, kv_nb1, kv_nbi, kv_nb01, Nat.reduceAdd, Nat.reduceLeDiff, kw_fliesN c0, eq_self]
  · obtain ⟨k, hk, rfl⟩ := kv_nat (kv_nn0 c0)
    by_cases c1 : km zM k 11 = 0
    · refine kw_A0 (r := -1) h ?_ ?_
      · simp only [kv_e115_0, kv_e115_1, kv_e115_2, kv_e115_5, kv_e115_8, kv_e115_9, kv_e115_10, kv_e115_11, kv_e115_12, kv_e115_13, kv_e115_15, kv_e115_16, kv_e115_19, kv_e115_22, kv_e115_25, kv_e115_26, kv_e115_27, kv_e115_28, kv_e115_31, kv_e115_34, kv_e115_35, kv_e115_36, kv_e115_37, kv_e115_40, kv_e115_41, kv_e115_44, kv_e115_45, kv_e115_46, kv_e115_47, kv_e115_48, kv_e115_49, kv_e115_50, kv_e115_53, kv_e115_56, kv_e115_57, kv_o10, not_false_eq_true, not_true, if_true, if_false, kv_then_s, kv_then_v, kv_then_n, List.cons_append, List.nil_append, kv_Ci, kv_Cr, kv_Cn, kv_Cu, kv_C0, kv_catc, kv_gCi, kv_gCl, kv_gCr, kv_nb0, kv_nb1, kv_nbi, kv_nb01, Nat.reduceAdd, Nat.reduceLeDiff, kw_Kflies hKK hk, ek, c1, eq_self]
      · simp only [kv_e249_0, kv_e249_1, kv_e249_2, kv_e249_5, kv_e249_8, kv_e249_9, kv_e249_10, kv_e249_11, kv_e249_12, kv_e249_13, kv_e249_15, kv_e249_16, kv_e249_19, kv_e249_22, kv_e249_23, kv_e249_24, kv_e249_25, kv_e249_26, kv_e249_29, kv_e249_32, kv_e249_33, kv_e249_34, kv_e249_35, kv_e249_38, kv_e249_39, kv_e249_42, kv_e249_43, kv_e249_44, kv_e249_45, kv_e249_48, kv_e249_49, kv_e249_50, kv_e249_51, kv_e249_54, kv_e249_57, kv_e249_58, kv_o10, not_false_eq_true, not_true, if_true, if_false, kv_then_s, kv_then_v, kv_then_n, List.cons_append, List.nil_append, kv_Ci, kv_Cr, kv_Cn, kv_Cu, kv_C0, kv_catc, kv_gCi, kv_gCl, kv_gCr, kv_nb0, kv_nb1, kv_nbi, kv_nb01, Nat.reduceAdd, Nat.reduceLeDiff, kw_flies hI.1.1 hk, c1, eq_self]
    · have hk8 := (kw_lt8 h c1).2
      have hlK := kv_up (fun o => ∀ z, kw_XK zK z → ∃ z', kv_Rn (d + 12) 115 14 [some (.ref 0), some (.int (Int32.ofNat k)), some (.int (kv_bs o (kw_pb zK zM B M k))), some (.int (Int32.ofNat o))] [] (kv_h [] z zl) = some (some (.int (kv_bs n (kw_pb zK zM B M k))), kv_h [] z' zl) ∧ kw_XK zK z') n ?_ ?_
      · have hlM := kv_up (fun o => ∀ z, kw_XM zM z → ∃ z', kv_Rn (d + 12) 249 14 [some (.ref 0), some (.int (Int32.ofNat k)), some (.int (kv_bs o (kw_pb zK zM B M k))), some (.int (Int32.ofNat o))] [] (kv_m z zlM) = some (some (.int (kv_bs n (kw_pb zK zM B M k))), kv_m z' zlM) ∧ kw_XM zM z') n ?_ ?_
        · obtain ⟨z1, r1, x1⟩ := hlK zK (kw_XK_rf zK)
          obtain ⟨z2, r2, x2⟩ := hlM zM (kw_XM_rf zM)
          refine kw_A2 (r := kv_bs n (kw_pb zK zM B M k)) h ?_ ?_ x1 x2
          · simp only [kv_e115_0, kv_e115_1, kv_e115_2, kv_e115_5, kv_e115_10, kv_e115_11, kv_e115_12, kv_e115_13, kv_o10, not_false_eq_true, not_true, if_true, if_false, kv_then_s, kv_then_v, kv_then_n, List.cons_append, List.nil_append, kv_Ci, kv_Cr, kv_Cn, kv_Cu, kv_C0, kv_catc, kv_gCi, kv_gCl, kv_gCr, kv_nb0, kv_nb1, kv_nbi, kv_nb01, Nat.reduceAdd, Nat.reduceLeDiff, kw_Kflies hKK hk, ek, c1]
            exact r1
          · simp only [kv_e249_0, kv_e249_1, kv_e249_2, kv_e249_5, kv_e249_10, kv_e249_11, kv_e249_12, kv_e249_13, kv_o10, not_false_eq_true, not_true, if_true, if_false, kv_then_s, kv_then_v, kv_then_n, List.cons_append, List.nil_append, kv_Ci, kv_Cr, kv_Cn, kv_Cu, kv_C0, kv_catc, kv_gCi, kv_gCl, kv_gCr, kv_nb0, kv_nb1, kv_nbi, kv_nb01, Nat.reduceAdd, Nat.reduceLeDiff, kw_flies hI.1.1 hk, c1]
            exact r2
        · intro z hx
          refine ⟨z, ?_, hx⟩
          have hK := kw_J_K h hx
          rw [kv_e249_14]
          simp only [kv_e249_0, kv_e249_1, kv_e249_2, kv_e249_5, kv_e249_8, kv_e249_9, kv_e249_10, kv_e249_11, kv_e249_12, kv_e249_13, kv_e249_15, kv_e249_16, kv_e249_19, kv_e249_22, kv_e249_23, kv_e249_24, kv_e249_25, kv_e249_26, kv_e249_29, kv_e249_32, kv_e249_33, kv_e249_34, kv_e249_35, kv_e249_38, kv_e249_39, kv_e249_42, kv_e249_43, kv_e249_44, kv_e249_45, kv_e249_48, kv_e249_49, kv_e249_50, kv_e249_51, kv_e249_54, kv_e249_57, kv_e249_58, kv_o10, not_false_eq_true, not_true, if_true, if_false, kv_then_s, kv_then_v, kv_then_n, List.cons_append, List.nil_append, kv_Ci, kv_Cr, kv_Cn, kv_Cu, kv_C0, kv_catc, kv_gCi, kv_gCl, kv_gCr, kv_nb0, kv_nb1, kv_nbi, kv_nb01, Nat.reduceAdd, Nat.reduceLeDiff, hK.1.1, kw_ln2 h8 (show n < 2147483648 by omega), Nat.le_refl]
        · intro o ho ih z hx
          have ho2 : o < 2147483648 := by omega
          have hK := kw_J_K h hx
          have ekz : km z = km zM := kw_km_fr (hx 16 (by omega) (by omega) (by omega) (by omega) (by omega) (by omega))
          rw [kv_bs_s] at ih
          by_cases c2 : ¬ km zM k 11 = 0 ∧ ¬ km zM o 11 = 0 ∧ ¬ k = o
          · obtain ⟨z2, r2, x2⟩ := kw_crossOfM (d := d + 2) (zlM := zlM) h m3 m1 hx hk8 (show o < 8 by omega) c2.1 c2.2.1
            obtain ⟨z', r', x'⟩ := ih z2 x2
            refine ⟨z', ?_, x'⟩
            rw [← r', kv_e249_14]
            by_cases c3 : kw_cr zK zM B M k o = 2
            · simp only [kv_e249_0, kv_e249_1, kv_e249_2, kv_e249_5, kv_e249_8, kv_e249_9, kv_e249_10, kv_e249_11, kv_e249_12, kv_e249_13, kv_e249_15, kv_e249_16, kv_e249_19, kv_e249_22, kv_e249_23, kv_e249_24, kv_e249_25, kv_e249_26, kv_e249_29, kv_e249_32, kv_e249_33, kv_e249_34, kv_e249_35, kv_e249_38, kv_e249_39, kv_e249_42, kv_e249_43, kv_e249_44, kv_e249_45, kv_e249_48, kv_e249_49, kv_e249_50, kv_e249_51, kv_e249_54, kv_e249_57, kv_e249_58, kv_o10, not_false_eq_true, not_true, if_true, if_false, kv_then_s, kv_then_v, kv_then_n, List.cons_append, List.nil_append, kv_Ci, kv_Cr, kv_Cn, kv_Cu, kv_C0, kv_catc, kv_gCi, kv_gCl, kv_gCr, kv_nb0, kv_nb1, kv_nbi, kv_nb01, Nat.reduceAdd, Nat.reduceLeDiff, hK.1.1, kw_ln2 h8 ho2, eq_false (show ¬ n ≤ o by omega), kw_areTwo hK hk ho2, ekz, c2, and_self, r2, c3, kw_pb_t ⟨c2.1, c2.2.1, c2.2.2, c3⟩, kv_suc]
            · simp only [kv_e249_0, kv_e249_1, kv_e249_2, kv_e249_5, kv_e249_8, kv_e249_9, kv_e249_10, kv_e249_11, kv_e249_12, kv_e249_13, kv_e249_15, kv_e249_16, kv_e249_19, kv_e249_22, kv_e249_23, kv_e249_24, kv_e249_25, kv_e249_26, kv_e249_29, kv_e249_32, kv_e249_33, kv_e249_34, kv_e249_35, kv_e249_38, kv_e249_39, kv_e249_42, kv_e249_43, kv_e249_44, kv_e249_45, kv_e249_48, kv_e249_49, kv_e249_50, kv_e249_51, kv_e249_54, kv_e249_57, kv_e249_58, kv_o10, not_false_eq_true, not_true, if_true, if_false, kv_then_s, kv_then_v, kv_then_n, List.cons_append, List.nil_append, kv_Ci, kv_Cr, kv_Cn, kv_Cu, kv_C0, kv_catc, kv_gCi, kv_gCl, kv_gCr, kv_nb0, kv_nb1, kv_nbi, kv_nb01, Nat.reduceAdd, Nat.reduceLeDiff, hK.1.1, kw_ln2 h8 ho2, eq_false (show ¬ n ≤ o by omega), kw_areTwo hK hk ho2, ekz, c2, and_self, r2, c3, kw_pb_f (fun q => c3 q.2.2.2), kv_suc, Int32.or_zero, Bool.false_eq_true]
          · obtain ⟨z', r', x'⟩ := ih z hx
            refine ⟨z', ?_, x'⟩
            rw [← r', kv_e249_14]
            simp only [kv_e249_0, kv_e249_1, kv_e249_2, kv_e249_5, kv_e249_8, kv_e249_9, kv_e249_10, kv_e249_11, kv_e249_12, kv_e249_13, kv_e249_15, kv_e249_16, kv_e249_19, kv_e249_22, kv_e249_23, kv_e249_24, kv_e249_25, kv_e249_26, kv_e249_29, kv_e249_32, kv_e249_33, kv_e249_34, kv_e249_35, kv_e249_38, kv_e249_39, kv_e249_42, kv_e249_43, kv_e249_44, kv_e249_45, kv_e249_48, kv_e249_49, kv_e249_50, kv_e249_51, kv_e249_54, kv_e249_57, kv_e249_58, kv_o10, not_false_eq_true, not_true, if_true, if_false, kv_then_s, kv_then_v, kv_then_n, List.cons_append, List.nil_append, kv_Ci, kv_Cr, kv_Cn, kv_Cu, kv_C0, kv_catc, kv_gCi, kv_gCl, kv_gCr, kv_nb0, kv_nb1, kv_nbi, kv_nb01, Nat.reduceAdd, Nat.reduceLeDiff, hK.1.1, kw_ln2 h8 ho2, eq_false (show ¬ n ≤ o by omega), kw_areTwo hK hk ho2, ekz, c2, eq_self, kw_pb_f (fun q => c2 ⟨q.1, q.2.1, q.2.2.1⟩), kv_suc, Int32.or_zero, Bool.false_eq_true]
      · intro z hx
        refine ⟨z, ?_, hx⟩
        obtain ⟨hK, ekz, e3, e36⟩ := kw_XK_KK h hx
        rw [kv_e115_14]
        simp only [kv_e115_0, kv_e115_1, kv_e115_2, kv_e115_5, kv_e115_8, kv_e115_9, kv_e115_10, kv_e115_11, kv_e115_12, kv_e115_13, kv_e115_15, kv_e115_16, kv_e115_19, kv_e115_22, kv_e115_25, kv_e115_26, kv_e115_27, kv_e115_28, kv_e115_31, kv_e115_34, kv_e115_35, kv_e115_36, kv_e115_37, kv_e115_40, kv_e115_41, kv_e115_44, kv_e115_45, kv_e115_46, kv_e115_47, kv_e115_48, kv_e115_49, kv_e115_50, kv_e115_53, kv_e115_56, kv_e115_57, kv_o10, not_false_eq_true, not_true, if_true, if_false, kv_then_s, kv_then_v, kv_then_n, List.cons_append, List.nil_append, kv_Ci, kv_Cr, kv_Cn, kv_Cu, kv_C0, kv_catc, kv_gCi, kv_gCl, kv_gCr, kv_nb0, kv_nb1, kv_nbi, kv_nb01, Nat.reduceAdd, Nat.reduceLeDiff, kv_isF3, hK.1.1, kw_ln2 h8 (show n < 2147483648 by omega), Nat.le_refl]
      · intro o ho ih z hx
        have ho2 : o < 2147483648 := by omega
        obtain ⟨hK, ekz, e3, e36⟩ := kw_XK_KK h hx
        rw [kv_bs_s] at ih
        by_cases c2 : ¬ km zM k 11 = 0 ∧ ¬ km zM o 11 = 0 ∧ ¬ k = o
        · obtain ⟨z2, r2, x2⟩ := kw_crossingK (d := d + 4) (e := []) (zl := zl) h m3 m1 hx hk8 (show o < 8 by omega)
          obtain ⟨z', r', x'⟩ := ih z2 x2
          refine ⟨z', ?_, x'⟩
          rw [← r', kv_e115_14]
          by_cases c3 : kw_cr zK zM B M k o = 2
          · simp only [kv_e115_0, kv_e115_1, kv_e115_2, kv_e115_5, kv_e115_8, kv_e115_9, kv_e115_10, kv_e115_11, kv_e115_12, kv_e115_13, kv_e115_15, kv_e115_16, kv_e115_19, kv_e115_22, kv_e115_25, kv_e115_26, kv_e115_27, kv_e115_28, kv_e115_31, kv_e115_34, kv_e115_35, kv_e115_36, kv_e115_37, kv_e115_40, kv_e115_41, kv_e115_44, kv_e115_45, kv_e115_46, kv_e115_47, kv_e115_48, kv_e115_49, kv_e115_50, kv_e115_53, kv_e115_56, kv_e115_57, kv_o10, not_false_eq_true, not_true, if_true, if_false, kv_then_s, kv_then_v, kv_then_n, List.cons_append, List.nil_append, kv_Ci, kv_Cr, kv_Cn, kv_Cu, kv_C0, kv_catc, kv_gCi, kv_gCl, kv_gCr, kv_nb0, kv_nb1, kv_nbi, kv_nb01, Nat.reduceAdd, Nat.reduceLeDiff, kv_isF3, hK.1.1, kw_ln2 h8 ho2, eq_false (show ¬ n ≤ o by omega), kw_KareTwo hK hk ho2, ekz, c2, and_self, r2, c3, kw_pb_t ⟨c2.1, c2.2.1, c2.2.2, c3⟩, kv_suc]
          · simp only [kv_e115_0, kv_e115_1, kv_e115_2, kv_e115_5, kv_e115_8, kv_e115_9, kv_e115_10, kv_e115_11, kv_e115_12, kv_e115_13, kv_e115_15, kv_e115_16, kv_e115_19, kv_e115_22, kv_e115_25, kv_e115_26, kv_e115_27, kv_e115_28, kv_e115_31, kv_e115_34, kv_e115_35, kv_e115_36, kv_e115_37, kv_e115_40, kv_e115_41, kv_e115_44, kv_e115_45, kv_e115_46, kv_e115_47, kv_e115_48, kv_e115_49, kv_e115_50, kv_e115_53, kv_e115_56, kv_e115_57, kv_o10, not_false_eq_true, not_true, if_true, if_false, kv_then_s, kv_then_v, kv_then_n, List.cons_append, List.nil_append, kv_Ci, kv_Cr, kv_Cn, kv_Cu, kv_C0, kv_catc, kv_gCi, kv_gCl, kv_gCr, kv_nb0, kv_nb1, kv_nbi, kv_nb01, Nat.reduceAdd, Nat.reduceLeDiff, kv_isF3, hK.1.1, kw_ln2 h8 ho2, eq_false (show ¬ n ≤ o by omega), kw_KareTwo hK hk ho2, ekz, c2, and_self, r2, c3, kw_pb_f (fun q => c3 q.2.2.2), kv_suc, Bool.false_eq_true]
        · obtain ⟨z', r', x'⟩ := ih z hx
          refine ⟨z', ?_, x'⟩
          rw [← r', kv_e115_14]
          simp only [kv_e115_0, kv_e115_1, kv_e115_2, kv_e115_5, kv_e115_8, kv_e115_9, kv_e115_10, kv_e115_11, kv_e115_12, kv_e115_13, kv_e115_15, kv_e115_16, kv_e115_19, kv_e115_22, kv_e115_25, kv_e115_26, kv_e115_27, kv_e115_28, kv_e115_31, kv_e115_34, kv_e115_35, kv_e115_36, kv_e115_37, kv_e115_40, kv_e115_41, kv_e115_44, kv_e115_45, kv_e115_46, kv_e115_47, kv_e115_48, kv_e115_49, kv_e115_50, kv_e115_53, kv_e115_56, kv_e115_57, kv_o10, not_false_eq_true, not_true, if_true, if_false, kv_then_s, kv_then_v, kv_then_n, List.cons_append, List.nil_append, kv_Ci, kv_Cr, kv_Cn, kv_Cu, kv_C0, kv_catc, kv_gCi, kv_gCl, kv_gCr, kv_nb0, kv_nb1, kv_nbi, kv_nb01, Nat.reduceAdd, Nat.reduceLeDiff, kv_isF3, hK.1.1, kw_ln2 h8 ho2, eq_false (show ¬ n ≤ o by omega), kw_KareTwo hK hk ho2, ekz, c2, eq_self, kw_pb_f (fun q => c2 ⟨q.1, q.2.1, q.2.2.1⟩), kv_suc, Bool.false_eq_true]
end
