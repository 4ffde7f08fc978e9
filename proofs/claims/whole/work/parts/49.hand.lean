/-! acts by hand -/
section
variable {d n B W : Nat} {zK zM : Nat → Nat → Int32} {zl zlM : Nat → Nat → Int64}
def kw_vp (V : kw_V) (k w : Nat) (v : Int32) : kw_V := (kv_pt V.1 k w v, V.2)
theorem kw_vk_su (z : Nat → Nat → Int32) {a k w : Nat} {x v : Int32} (hk : k < 8) (hw : w < 13) (hx : x = Int32.ofNat w) : kw_vk (kv_su z a (Int32.ofNat k) x v) a = kw_vp (kw_vk z a) k w v := by
  unfold kw_vk kw_vp
  rw [kw_su_kc z a hk hw hx, kw_su_fr _ _ _ _ _ (show a + 2 ≠ a + 1 by omega), kw_su_fr _ _ _ _ _ (show a ≠ a + 1 by omega)]
theorem kw_vm_mu (z : Nat → Nat → Int32) {k w : Nat} {v : Int32} (hk : k < 8) (hw : w < 13) : kw_vm (kw_mu z k w v) 16 0 = kw_vp (kw_vm z 16 0) k w v := by
  have h1 := kw_mu_km z (v := v) hk hw
  rw [← kw_vm_km, ← kw_vm_km] at h1
  have s1 := kw_sg_lt hw
  have h2 : ∀ i, 104 ≤ i → kw_mu z k w v 16 i = z 16 i := fun i hi => (kw_N_mu (z := z) (v := v) hk hw).2 i hi
  refine Prod.ext h1 (Prod.ext ?_ (Prod.ext ?_ (Prod.ext ?_ ?_)))
  · funext i
    unfold kw_vm kw_vp
    dsimp only
    rw [h2 _ (by omega)]
  · exact h2 _ (by omega)
  · exact h2 _ (by omega)
  · exact h2 _ (by omega)
/-- both now's changed in the same way -/
theorem kw_R_both {zK' zM' : Nat → Nat → Int32} {V : kw_V} (h : kw_R n B W zK zM) (k : ∀ c, c < 36 ∨ 38 < c → zK' c = zK c) (m : ∀ c, c ≠ 16 → zM' c = zM c) (h1 : kw_vk zK' 36 = V) (h2 : kw_vm zM' 16 0 = V) (hs : kw_SV n B W V) : kw_R n B W zK' zM' := kw_R_now h k m ⟨h1.trans h2.symm, h1 ▸ hs⟩
theorem kw_R_sv (h : kw_R n B W zK zM) : kw_SV n B W (kw_vm zM 16 0) ∧ kw_vk zK 36 = kw_vm zM 16 0 := ⟨h.2.1.1.1 ▸ h.2.1.1.2, h.2.1.1.1⟩
theorem kw_okr_pt {r r' : Nat → Int32} (h : kw_okr r) (g : ∀ w, w = 1 ∨ w = 2 ∨ w = 3 ∨ w = 4 ∨ w = 6 → r' w = r w) : kw_okr r' := by
  unfold kw_okr
  rw [g 1 (by omega), g 2 (by omega), g 3 (by omega), g 4 (by omega), g 6 (by omega)]
  exact h
theorem kw_SV_pt {V : kw_V} {k w : Nat} {v : Int32} (h : kw_SV n B W V) (hw : w ≠ 1 ∧ w ≠ 2 ∧ w ≠ 3 ∧ w ≠ 4 ∧ w ≠ 6 ∧ w ≠ 11 ∧ w ≠ 12) (h0 : w = 0 → ∃ p, p < W ∧ v = Int32.ofNat p) : kw_SV n B W (kw_vp V k w v) := by
  obtain ⟨⟨h1, h2⟩, h3, h4, h5, h6⟩ := h
  refine ⟨⟨fun i => kw_okr_pt (h1 i) (fun x hx => ?_), fun i => ?_⟩, h3, h4, fun i => ?_, fun i hi => ?_⟩
  · exact if_neg (fun q => by clear h1 h2 h3 h4 h5 h6 h0; omega)
  · have : (kw_vp V k w v).1 i 11 = V.1 i 11 := if_neg (fun q => by clear h1 h2 h3 h4 h5 h6 h0; omega)
    rw [this]
    exact h2 i
  · have : (kw_vp V k w v).1 i 12 = V.1 i 12 := if_neg (fun q => by clear h1 h2 h3 h4 h5 h6 h0; omega)
    rw [this]
    exact h5 i
  · have e11 : (kw_vp V k w v).1 i 11 = V.1 i 11 := if_neg (fun q => by clear h1 h2 h3 h4 h5 h6 h0; omega)
    rw [e11] at hi
    by_cases q : i = k ∧ w = 0
    · obtain ⟨p, p1, p2⟩ := h0 q.2
      refine ⟨p, p1, ?_⟩
      rw [← p2]
      exact if_pos ⟨q.1, q.2.symm⟩
    · have e0 : (kw_vp V k w v).1 i 0 = V.1 i 0 := if_neg (fun q => by clear h1 h2 h3 h4 h5 h6 h0; omega)
      rw [e0]
      exact h6 i hi
theorem kw_b10 {c : Prop} {dc : Decidable c} : ((@ite Int32 c dc 1 0) = 1) = c := by
  cases dc with
  | isTrue h => exact propext ⟨fun _ => h, fun _ => rfl⟩
  | isFalse h => exact propext ⟨fun q => absurd q (show ¬ ((0 : Int32) = 1) from by decide), fun q => absurd q h⟩
theorem kw_A1 {r : Int32} {zK' zM' : Nat → Nat → Int32} {jK jM : Nat} {lK lM : kv_L} (h : kw_R n B W zK' zM') (h1 : kv_Rn d jK 0 lK [] (kv_h [] zK zl) = some (some (.int r), kv_h [] zK' zl)) (h2 : kv_Rn d jM 0 lM [] (kv_m zM zlM) = some (some (.int r), kv_m zM' zlM)) : kw_A d jK jM lK lM zK zM zl zlM :=
  ⟨r, [], zK', zl, zM', zlM, ⟨h1, h2⟩, ⟨n, B, W, h⟩, Nat.zero_le _, Nat.zero_le _⟩
theorem kw_f_mode (h : kw_R n B W zK zM) (x v : Int32) : kw_A (d + 12) 94 221 [some (.ref 0), some (.int x), some (.int v)] [some (.ref 0), some (.int x), some (.int v)] zK zM zl zlM := by
  have hKK := kw_R_KK h
  have hI := kw_R_I h
  have ek := kw_R_km h.2.1.1
  by_cases c0 : x < 0
  · refine kw_A0 (r := 0) h ?_ ?_
    · simp only [kv_e94_0, kv_e94_1, kv_e94_2, kv_e94_4, kv_e94_5, kv_e94_6, kv_e94_9, kv_e99_0, kv_e99_1, kv_e99_2, kv_e99_5, kv_e99_8, kv_e99_9, kv_e99_11, kv_e99_14, kv_e99_17, kv_e99_18, kv_e99_21, kv_e99_22, kv_e99_23, kv_e99_26, kv_e99_27, kv_e99_30, kv_e99_31, kv_e99_32, kv_e99_33, kv_e99_36, kv_e99_37, kv_e99_40, kv_e99_43, kv_e99_44, kv_e99_47, kv_e99_48, kv_e99_49, kv_e99_50, kv_e99_53, kv_e99_54, kv_o10, not_false_eq_true, not_true, if_true, if_false, kv_then_s, kv_then_v, kv_then_n, List.cons_append, List.nil_append, kv_Ci, kv_Cr, kv_Cn, kv_Cu, kv_C0, kv_catc, kv_gCi, kv_gCl, kv_gCr, kv_nb0, kv_nb1, kv_nbi, kv_nb01, Nat.reduceAdd, Nat.reduceLeDiff, kw_KfliesN c0, eq_self]
    · simp only [kv_e221_0, kv_e221_1, kv_e221_2, kv_e221_5, kv_e221_8, kv_e221_9, kv_e221_10, kv_e221_11, kv_e221_14, kv_e221_17, kv_e221_18, kv_e221_19, kv_e221_21, kv_e221_24, kv_e221_25, kv_e221_28, kv_e221_29, kv_e221_30, kv_e221_31, kv_e221_34, kv_e221_35, kv_e221_36, kv_e221_38, kv_e221_39, kv_e221_42, kv_e221_43, kv_o10, not_false_eq_true, not_true, if_true, if_false, kv_then_s, kv_then_v, kv_then_n, List.cons_append, List.nil_append, kv_Ci, kv_Cr, kv_Cn, kv_Cu, kv_C0, kv_catc, kv_gCi, kv_gCl, kv_gCr, kv_nb0, kv_nb1, kv_nbi, kv_nb01, Nat.reduceAdd, Nat.reduceLeDiff, kw_fliesN c0, eq_self]
  · obtain ⟨k, hk, rfl⟩ := kv_nat (kv_nn0 c0)
    by_cases c1 : km zM k 11 = 0
    · refine kw_A0 (r := 0) h ?_ ?_
      · simp only [kv_e94_0, kv_e94_1, kv_e94_2, kv_e94_4, kv_e94_5, kv_e94_6, kv_e94_9, kv_e99_0, kv_e99_1, kv_e99_2, kv_e99_5, kv_e99_8, kv_e99_9, kv_e99_11, kv_e99_14, kv_e99_17, kv_e99_18, kv_e99_21, kv_e99_22, kv_e99_23, kv_e99_26, kv_e99_27, kv_e99_30, kv_e99_31, kv_e99_32, kv_e99_33, kv_e99_36, kv_e99_37, kv_e99_40, kv_e99_43, kv_e99_44, kv_e99_47, kv_e99_48, kv_e99_49, kv_e99_50, kv_e99_53, kv_e99_54, kv_o10, not_false_eq_true, not_true, if_true, if_false, kv_then_s, kv_then_v, kv_then_n, List.cons_append, List.nil_append, kv_Ci, kv_Cr, kv_Cn, kv_Cu, kv_C0, kv_catc, kv_gCi, kv_gCl, kv_gCr, kv_nb0, kv_nb1, kv_nbi, kv_nb01, Nat.reduceAdd, Nat.reduceLeDiff, kw_Kflies hKK hk, ek, c1, eq_self]
      · simp only [kv_e221_0, kv_e221_1, kv_e221_2, kv_e221_5, kv_e221_8, kv_e221_9, kv_e221_10, kv_e221_11, kv_e221_14, kv_e221_17, kv_e221_18, kv_e221_19, kv_e221_21, kv_e221_24, kv_e221_25, kv_e221_28, kv_e221_29, kv_e221_30, kv_e221_31, kv_e221_34, kv_e221_35, kv_e221_36, kv_e221_38, kv_e221_39, kv_e221_42, kv_e221_43, kv_o10, not_false_eq_true, not_true, if_true, if_false, kv_then_s, kv_then_v, kv_then_n, List.cons_append, List.nil_append, kv_Ci, kv_Cr, kv_Cn, kv_Cu, kv_C0, kv_catc, kv_gCi, kv_gCl, kv_gCr, kv_nb0, kv_nb1, kv_nbi, kv_nb01, Nat.reduceAdd, Nat.reduceLeDiff, kw_flies hI.1.1 hk, c1, eq_self]
    · have hk8 := (kw_lt8 h c1).2
      by_cases c2 : 0 ≤ v ∧ v ≤ 2
      · by_cases c3 : km zM k 8 = v
        · refine kw_A0 (r := 0) h ?_ ?_
          · simp only [kv_e94_0, kv_e94_1, kv_e94_2, kv_e94_4, kv_e94_5, kv_e94_6, kv_e94_9, kv_e99_0, kv_e99_1, kv_e99_2, kv_e99_5, kv_e99_8, kv_e99_9, kv_e99_11, kv_e99_14, kv_e99_17, kv_e99_18, kv_e99_21, kv_e99_22, kv_e99_23, kv_e99_26, kv_e99_27, kv_e99_30, kv_e99_31, kv_e99_32, kv_e99_33, kv_e99_36, kv_e99_37, kv_e99_40, kv_e99_43, kv_e99_44, kv_e99_47, kv_e99_48, kv_e99_49, kv_e99_50, kv_e99_53, kv_e99_54, kv_o10, not_false_eq_true, not_true, if_true, if_false, kv_then_s, kv_then_v, kv_then_n, List.cons_append, List.nil_append, kv_Ci, kv_Cr, kv_Cn, kv_Cu, kv_C0, kv_catc, kv_gCi, kv_gCl, kv_gCr, kv_nb0, kv_nb1, kv_nbi, kv_nb01, Nat.reduceAdd, Nat.reduceLeDiff, kw_Kflies hKK hk, ek, c1, kw_isOut, c2, and_self, kv_isS36, kv_get, kv_g8 zK 36 hk8, c3, eq_self]
          · simp only [kv_e221_0, kv_e221_1, kv_e221_2, kv_e221_5, kv_e221_8, kv_e221_9, kv_e221_10, kv_e221_11, kv_e221_14, kv_e221_17, kv_e221_18, kv_e221_19, kv_e221_21, kv_e221_24, kv_e221_25, kv_e221_28, kv_e221_29, kv_e221_30, kv_e221_31, kv_e221_34, kv_e221_35, kv_e221_36, kv_e221_38, kv_e221_39, kv_e221_42, kv_e221_43, kv_o10, not_false_eq_true, not_true, if_true, if_false, kv_then_s, kv_then_v, kv_then_n, List.cons_append, List.nil_append, kv_Ci, kv_Cr, kv_Cn, kv_Cu, kv_C0, kv_catc, kv_gCi, kv_gCl, kv_gCr, kv_nb0, kv_nb1, kv_nbi, kv_nb01, Nat.reduceAdd, Nat.reduceLeDiff, kw_flies hI.1.1 hk, c1, kw_in, c2, and_self, kw_of7 hk8, c3, eq_self]
        · obtain ⟨zK1, zM1, ⟨r1, r2⟩, R1, k1, m1, m0⟩ := kw_keepR (d := d + 8) (dM := d + 11) (e := []) (zl := zl) (zlM := zlM) h
          obtain ⟨s1, s2⟩ := kw_R_sv R1
          refine kw_A1 (r := 1) (zK' := kv_su zK1 36 (Int32.ofNat k) 8 v) (zM' := kw_mu zM1 k 8 v) (kw_R_both R1 (fun c hc => kw_su_fr _ _ _ _ _ (by omega)) (fun c hc => kw_mu_fr _ _ _ _ hc) ((kw_vk_su zK1 (w := 8) hk8 (by omega) rfl).trans (by rw [s2])) (kw_vm_mu zM1 hk8 (by omega)) (kw_SV_pt s1 (by omega) (fun q => by omega))) ?_ ?_
          · simp only [kv_e94_0, kv_e94_1, kv_e94_2, kv_e94_4, kv_e94_5, kv_e94_6, kv_e94_9, kv_e99_0, kv_e99_1, kv_e99_2, kv_e99_5, kv_e99_8, kv_e99_9, kv_e99_11, kv_e99_14, kv_e99_17, kv_e99_18, kv_e99_21, kv_e99_22, kv_e99_23, kv_e99_26, kv_e99_27, kv_e99_30, kv_e99_31, kv_e99_32, kv_e99_33, kv_e99_36, kv_e99_37, kv_e99_40, kv_e99_43, kv_e99_44, kv_e99_47, kv_e99_48, kv_e99_49, kv_e99_50, kv_e99_53, kv_e99_54, kv_o10, not_false_eq_true, not_true, if_true, if_false, kv_then_s, kv_then_v, kv_then_n, List.cons_append, List.nil_append, kv_Ci, kv_Cr, kv_Cn, kv_Cu, kv_C0, kv_catc, kv_gCi, kv_gCl, kv_gCr, kv_nb0, kv_nb1, kv_nbi, kv_nb01, Nat.reduceAdd, Nat.reduceLeDiff, kw_Kflies hKK hk, ek, c1, kw_isOut, c2, and_self, kv_isS36, kv_get, kv_g8 zK 36 hk8, c3, eq_self, r1, kv_set]
          · simp only [kv_e221_0, kv_e221_1, kv_e221_2, kv_e221_5, kv_e221_8, kv_e221_9, kv_e221_10, kv_e221_11, kv_e221_14, kv_e221_17, kv_e221_18, kv_e221_19, kv_e221_21, kv_e221_24, kv_e221_25, kv_e221_28, kv_e221_29, kv_e221_30, kv_e221_31, kv_e221_34, kv_e221_35, kv_e221_36, kv_e221_38, kv_e221_39, kv_e221_42, kv_e221_43, kv_o10, not_false_eq_true, not_true, if_true, if_false, kv_then_s, kv_then_v, kv_then_n, List.cons_append, List.nil_append, kv_Ci, kv_Cr, kv_Cn, kv_Cu, kv_C0, kv_catc, kv_gCi, kv_gCl, kv_gCr, kv_nb0, kv_nb1, kv_nbi, kv_nb01, Nat.reduceAdd, Nat.reduceLeDiff, kw_flies hI.1.1 hk, c1, kw_in, c2, and_self, kw_of7 hk8, c3, r2, kw_put7 hk8]
      · refine kw_A0 (r := 0) h ?_ ?_
        · simp only [kv_e94_0, kv_e94_1, kv_e94_2, kv_e94_4, kv_e94_5, kv_e94_6, kv_e94_9, kv_e99_0, kv_e99_1, kv_e99_2, kv_e99_5, kv_e99_8, kv_e99_9, kv_e99_11, kv_e99_14, kv_e99_17, kv_e99_18, kv_e99_21, kv_e99_22, kv_e99_23, kv_e99_26, kv_e99_27, kv_e99_30, kv_e99_31, kv_e99_32, kv_e99_33, kv_e99_36, kv_e99_37, kv_e99_40, kv_e99_43, kv_e99_44, kv_e99_47, kv_e99_48, kv_e99_49, kv_e99_50, kv_e99_53, kv_e99_54, kv_o10, not_false_eq_true, not_true, if_true, if_false, kv_then_s, kv_then_v, kv_then_n, List.cons_append, List.nil_append, kv_Ci, kv_Cr, kv_Cn, kv_Cu, kv_C0, kv_catc, kv_gCi, kv_gCl, kv_gCr, kv_nb0, kv_nb1, kv_nbi, kv_nb01, Nat.reduceAdd, Nat.reduceLeDiff, kw_Kflies hKK hk, ek, c1, kw_isOut, c2, eq_self]
        · simp only [kv_e221_0, kv_e221_1, kv_e221_2, kv_e221_5, kv_e221_8, kv_e221_9, kv_e221_10, kv_e221_11, kv_e221_14, kv_e221_17, kv_e221_18, kv_e221_19, kv_e221_21, kv_e221_24, kv_e221_25, kv_e221_28, kv_e221_29, kv_e221_30, kv_e221_31, kv_e221_34, kv_e221_35, kv_e221_36, kv_e221_38, kv_e221_39, kv_e221_42, kv_e221_43, kv_o10, not_false_eq_true, not_true, if_true, if_false, kv_then_s, kv_then_v, kv_then_n, List.cons_append, List.nil_append, kv_Ci, kv_Cr, kv_Cn, kv_Cu, kv_C0, kv_catc, kv_gCi, kv_gCl, kv_gCr, kv_nb0, kv_nb1, kv_nbi, kv_nb01, Nat.reduceAdd, Nat.reduceLeDiff, kw_flies hI.1.1 hk, c1, kw_in, c2, eq_self]
theorem kw_f_talk (h : kw_R n B W zK zM) (x v : Int32) : kw_A (d + 12) 98 226 [some (.ref 0), some (.int x), some (.int v)] [some (.ref 0), some (.int x), some (.int v)] zK zM zl zlM := by
  have hKK := kw_R_KK h
  have hI := kw_R_I h
  have ek := kw_R_km h.2.1.1
  by_cases c0 : x < 0
  · refine kw_A0 (r := 0) h ?_ ?_
    · simp only [kv_e98_0, kv_e98_1, kv_e98_2, kv_e98_3, kv_e98_4, kv_e98_5, kv_e98_8, kv_e99_0, kv_e99_1, kv_e99_2, kv_e99_5, kv_e99_8, kv_e99_9, kv_e99_11, kv_e99_14, kv_e99_17, kv_e99_18, kv_e99_21, kv_e99_22, kv_e99_23, kv_e99_26, kv_e99_27, kv_e99_30, kv_e99_31, kv_e99_32, kv_e99_33, kv_e99_36, kv_e99_37, kv_e99_40, kv_e99_43, kv_e99_44, kv_e99_47, kv_e99_48, kv_e99_49, kv_e99_50, kv_e99_53, kv_e99_54, kv_o10, not_false_eq_true, not_true, if_true, if_false, kv_then_s, kv_then_v, kv_then_n, List.cons_append, List.nil_append, kv_Ci, kv_Cr, kv_Cn, kv_Cu, kv_C0, kv_catc, kv_gCi, kv_gCl, kv_gCr, kv_nb0, kv_nb1, kv_nbi, kv_nb01, Nat.reduceAdd, Nat.reduceLeDiff, kw_KfliesN c0, eq_self]
    · simp only [kv_e226_0, kv_e226_1, kv_e226_2, kv_e226_5, kv_e226_8, kv_e226_9, kv_e226_10, kv_e226_11, kv_e226_14, kv_e226_17, kv_e226_18, kv_e226_19, kv_e226_20, kv_e226_23, kv_e226_24, kv_e226_27, kv_e226_28, kv_e226_29, kv_e226_30, kv_e226_33, kv_e226_34, kv_e226_35, kv_e226_36, kv_e226_37, kv_e226_40, kv_e226_41, kv_o10, not_false_eq_true, not_true, if_true, if_false, kv_then_s, kv_then_v, kv_then_n, List.cons_append, List.nil_append, kv_Ci, kv_Cr, kv_Cn, kv_Cu, kv_C0, kv_catc, kv_gCi, kv_gCl, kv_gCr, kv_nb0, kv_nb1, kv_nbi, kv_nb01, Nat.reduceAdd, Nat.reduceLeDiff, kw_fliesN c0, eq_self]
  · obtain ⟨k, hk, rfl⟩ := kv_nat (kv_nn0 c0)
    by_cases c1 : km zM k 11 = 0
    · refine kw_A0 (r := 0) h ?_ ?_
      · simp only [kv_e98_0, kv_e98_1, kv_e98_2, kv_e98_3, kv_e98_4, kv_e98_5, kv_e98_8, kv_e99_0, kv_e99_1, kv_e99_2, kv_e99_5, kv_e99_8, kv_e99_9, kv_e99_11, kv_e99_14, kv_e99_17, kv_e99_18, kv_e99_21, kv_e99_22, kv_e99_23, kv_e99_26, kv_e99_27, kv_e99_30, kv_e99_31, kv_e99_32, kv_e99_33, kv_e99_36, kv_e99_37, kv_e99_40, kv_e99_43, kv_e99_44, kv_e99_47, kv_e99_48, kv_e99_49, kv_e99_50, kv_e99_53, kv_e99_54, kv_o10, not_false_eq_true, not_true, if_true, if_false, kv_then_s, kv_then_v, kv_then_n, List.cons_append, List.nil_append, kv_Ci, kv_Cr, kv_Cn, kv_Cu, kv_C0, kv_catc, kv_gCi, kv_gCl, kv_gCr, kv_nb0, kv_nb1, kv_nbi, kv_nb01, Nat.reduceAdd, Nat.reduceLeDiff, kw_Kflies hKK hk, ek, c1, eq_self]
      · simp only [kv_e226_0, kv_e226_1, kv_e226_2, kv_e226_5, kv_e226_8, kv_e226_9, kv_e226_10, kv_e226_11, kv_e226_14, kv_e226_17, kv_e226_18, kv_e226_19, kv_e226_20, kv_e226_23, kv_e226_24, kv_e226_27, kv_e226_28, kv_e226_29, kv_e226_30, kv_e226_33, kv_e226_34, kv_e226_35, kv_e226_36, kv_e226_37, kv_e226_40, kv_e226_41, kv_o10, not_false_eq_true, not_true, if_true, if_false, kv_then_s, kv_then_v, kv_then_n, List.cons_append, List.nil_append, kv_Ci, kv_Cr, kv_Cn, kv_Cu, kv_C0, kv_catc, kv_gCi, kv_gCl, kv_gCr, kv_nb0, kv_nb1, kv_nbi, kv_nb01, Nat.reduceAdd, Nat.reduceLeDiff, kw_flies hI.1.1 hk, c1, eq_self]
    · have hk8 := (kw_lt8 h c1).2
      by_cases c2 : 0 ≤ v ∧ v ≤ 2
      · by_cases c3 : km zM k 5 = v
        · refine kw_A0 (r := 0) h ?_ ?_
          · simp only [kv_e98_0, kv_e98_1, kv_e98_2, kv_e98_3, kv_e98_4, kv_e98_5, kv_e98_8, kv_e99_0, kv_e99_1, kv_e99_2, kv_e99_5, kv_e99_8, kv_e99_9, kv_e99_11, kv_e99_14, kv_e99_17, kv_e99_18, kv_e99_21, kv_e99_22, kv_e99_23, kv_e99_26, kv_e99_27, kv_e99_30, kv_e99_31, kv_e99_32, kv_e99_33, kv_e99_36, kv_e99_37, kv_e99_40, kv_e99_43, kv_e99_44, kv_e99_47, kv_e99_48, kv_e99_49, kv_e99_50, kv_e99_53, kv_e99_54, kv_o10, not_false_eq_true, not_true, if_true, if_false, kv_then_s, kv_then_v, kv_then_n, List.cons_append, List.nil_append, kv_Ci, kv_Cr, kv_Cn, kv_Cu, kv_C0, kv_catc, kv_gCi, kv_gCl, kv_gCr, kv_nb0, kv_nb1, kv_nbi, kv_nb01, Nat.reduceAdd, Nat.reduceLeDiff, kw_Kflies hKK hk, ek, c1, kw_isOut, c2, and_self, kv_isS36, kv_get, kv_g5 zK 36 hk8, c3, eq_self]
          · simp only [kv_e226_0, kv_e226_1, kv_e226_2, kv_e226_5, kv_e226_8, kv_e226_9, kv_e226_10, kv_e226_11, kv_e226_14, kv_e226_17, kv_e226_18, kv_e226_19, kv_e226_20, kv_e226_23, kv_e226_24, kv_e226_27, kv_e226_28, kv_e226_29, kv_e226_30, kv_e226_33, kv_e226_34, kv_e226_35, kv_e226_36, kv_e226_37, kv_e226_40, kv_e226_41, kv_o10, not_false_eq_true, not_true, if_true, if_false, kv_then_s, kv_then_v, kv_then_n, List.cons_append, List.nil_append, kv_Ci, kv_Cr, kv_Cn, kv_Cu, kv_C0, kv_catc, kv_gCi, kv_gCl, kv_gCr, kv_nb0, kv_nb1, kv_nbi, kv_nb01, Nat.reduceAdd, Nat.reduceLeDiff, kw_flies hI.1.1 hk, c1, kw_in, c2, and_self, kw_of4 hk8, c3, eq_self]
        · obtain ⟨zK1, zM1, ⟨r1, r2⟩, R1, k1, m1, m0⟩ := kw_keepR (d := d + 8) (dM := d + 11) (e := []) (zl := zl) (zlM := zlM) h
          obtain ⟨s1, s2⟩ := kw_R_sv R1
          refine kw_A1 (r := 1) (zK' := kv_su zK1 36 (Int32.ofNat k) 5 v) (zM' := kw_mu zM1 k 5 v) (kw_R_both R1 (fun c hc => kw_su_fr _ _ _ _ _ (by omega)) (fun c hc => kw_mu_fr _ _ _ _ hc) ((kw_vk_su zK1 (w := 5) hk8 (by omega) rfl).trans (by rw [s2])) (kw_vm_mu zM1 hk8 (by omega)) (kw_SV_pt s1 (by omega) (fun q => by omega))) ?_ ?_
          · simp only [kv_e98_0, kv_e98_1, kv_e98_2, kv_e98_3, kv_e98_4, kv_e98_5, kv_e98_8, kv_e99_0, kv_e99_1, kv_e99_2, kv_e99_5, kv_e99_8, kv_e99_9, kv_e99_11, kv_e99_14, kv_e99_17, kv_e99_18, kv_e99_21, kv_e99_22, kv_e99_23, kv_e99_26, kv_e99_27, kv_e99_30, kv_e99_31, kv_e99_32, kv_e99_33, kv_e99_36, kv_e99_37, kv_e99_40, kv_e99_43, kv_e99_44, kv_e99_47, kv_e99_48, kv_e99_49, kv_e99_50, kv_e99_53, kv_e99_54, kv_o10, not_false_eq_true, not_true, if_true, if_false, kv_then_s, kv_then_v, kv_then_n, List.cons_append, List.nil_append, kv_Ci, kv_Cr, kv_Cn, kv_Cu, kv_C0, kv_catc, kv_gCi, kv_gCl, kv_gCr, kv_nb0, kv_nb1, kv_nbi, kv_nb01, Nat.reduceAdd, Nat.reduceLeDiff, kw_Kflies hKK hk, ek, c1, kw_isOut, c2, and_self, kv_isS36, kv_get, kv_g5 zK 36 hk8, c3, eq_self, r1, kv_set]
          · simp only [kv_e226_0, kv_e226_1, kv_e226_2, kv_e226_5, kv_e226_8, kv_e226_9, kv_e226_10, kv_e226_11, kv_e226_14, kv_e226_17, kv_e226_18, kv_e226_19, kv_e226_20, kv_e226_23, kv_e226_24, kv_e226_27, kv_e226_28, kv_e226_29, kv_e226_30, kv_e226_33, kv_e226_34, kv_e226_35, kv_e226_36, kv_e226_37, kv_e226_40, kv_e226_41, kv_o10, not_false_eq_true, not_true, if_true, if_false, kv_then_s, kv_then_v, kv_then_n, List.cons_append, List.nil_append, kv_Ci, kv_Cr, kv_Cn, kv_Cu, kv_C0, kv_catc, kv_gCi, kv_gCl, kv_gCr, kv_nb0, kv_nb1, kv_nbi, kv_nb01, Nat.reduceAdd, Nat.reduceLeDiff, kw_flies hI.1.1 hk, c1, kw_in, c2, and_self, kw_of4 hk8, c3, r2, kw_put4 hk8]
      · refine kw_A0 (r := 0) h ?_ ?_
        · simp only [kv_e98_0, kv_e98_1, kv_e98_2, kv_e98_3, kv_e98_4, kv_e98_5, kv_e98_8, kv_e99_0, kv_e99_1, kv_e99_2, kv_e99_5, kv_e99_8, kv_e99_9, kv_e99_11, kv_e99_14, kv_e99_17, kv_e99_18, kv_e99_21, kv_e99_22, kv_e99_23, kv_e99_26, kv_e99_27, kv_e99_30, kv_e99_31, kv_e99_32, kv_e99_33, kv_e99_36, kv_e99_37, kv_e99_40, kv_e99_43, kv_e99_44, kv_e99_47, kv_e99_48, kv_e99_49, kv_e99_50, kv_e99_53, kv_e99_54, kv_o10, not_false_eq_true, not_true, if_true, if_false, kv_then_s, kv_then_v, kv_then_n, List.cons_append, List.nil_append, kv_Ci, kv_Cr, kv_Cn, kv_Cu, kv_C0, kv_catc, kv_gCi, kv_gCl, kv_gCr, kv_nb0, kv_nb1, kv_nbi, kv_nb01, Nat.reduceAdd, Nat.reduceLeDiff, kw_Kflies hKK hk, ek, c1, kw_isOut, c2, eq_self]
        · simp only [kv_e226_0, kv_e226_1, kv_e226_2, kv_e226_5, kv_e226_8, kv_e226_9, kv_e226_10, kv_e226_11, kv_e226_14, kv_e226_17, kv_e226_18, kv_e226_19, kv_e226_20, kv_e226_23, kv_e226_24, kv_e226_27, kv_e226_28, kv_e226_29, kv_e226_30, kv_e226_33, kv_e226_34, kv_e226_35, kv_e226_36, kv_e226_37, kv_e226_40, kv_e226_41, kv_o10, not_false_eq_true, not_true, if_true, if_false, kv_then_s, kv_then_v, kv_then_n, List.cons_append, List.nil_append, kv_Ci, kv_Cr, kv_Cn, kv_Cu, kv_C0, kv_catc, kv_gCi, kv_gCl, kv_gCr, kv_nb0, kv_nb1, kv_nbi, kv_nb01, Nat.reduceAdd, Nat.reduceLeDiff, kw_flies hI.1.1 hk, c1, kw_in, c2, eq_self]
end
