/-! cross, prey -/
section
variable {d n B W : Nat} {e : List kv_E} {z zK zM zK' zM' : Nat → Nat → Int32} {zl zlM : Nat → Nat → Int64}
theorem kw_bs_bit (p : Nat → Bool) {k : Nat} (hk : k < 8) : ((kv_bs 8 p >>> (Int32.ofNat k &&& 31)) &&& 1) = if p k = true then 1 else 0 := by
  have key : ∀ q : List Bool, q.length = 8 → ∀ k, k < 8 → ((kv_bs 8 (fun i => q.getD i false) >>> (Int32.ofNat k &&& 31)) &&& 1) = if q.getD k false = true then 1 else 0 := by
    have all : ∀ b0 b1 b2 b3 b4 b5 b6 b7 : Bool, ∀ k, k < 8 → ((kv_bs 8 (fun i => [b0, b1, b2, b3, b4, b5, b6, b7].getD i false) >>> (Int32.ofNat k &&& 31)) &&& 1) = if [b0, b1, b2, b3, b4, b5, b6, b7].getD k false = true then 1 else 0 := by decide +kernel
    intro q hq k hk
    match q, hq with
    | [b0, b1, b2, b3, b4, b5, b6, b7], _ => exact all b0 b1 b2 b3 b4 b5 b6 b7 k hk
  have h1 := key ((List.range 8).map p) (by simp) k hk
  have h2 : ∀ i, i < 8 → ((List.range 8).map p).getD i false = p i := by
    intro i hi
    simp [List.getD_eq_getElem?_getD, List.getElem?_map, List.getElem?_range, hi]
  rw [kw_bs_congr (p := fun i => ((List.range 8).map p).getD i false) (q := p) h2, h2 k hk] at h1
  exact h1
theorem kw_has (s : Int32) (k : Nat) {h : kv_H} : kv_Rn d 150 0 [some (.int s), some (.int (Int32.ofNat k))] [] h = some (some (.int (if (s >>> (Int32.ofNat k &&& 31)) &&& 1 = 1 then 1 else 0)), h) := by
  simp only [kv_e150_0, kv_e150_1, kv_e150_2, kv_e150_3, kv_e150_4, kv_e150_5, kv_e150_6, kv_e150_9, kv_e150_10, kv_e150_13, kv_e150_14, kv_o10, not_false_eq_true, not_true, if_true, if_false, kv_then_s, kv_then_v, kv_then_n, List.cons_append, List.nil_append, kv_Ci, kv_Cr, kv_Cn, kv_Cu, kv_C0, kv_catc, kv_gCi, kv_gCl, kv_gCr, kv_nb0, kv_nb1, kv_nbi, kv_nb01, Nat.reduceAdd, Nat.reduceLeDiff]
  by_cases c : (s >>> (Int32.ofNat k &&& 31)) &&& 1 = 1 <;> simp only [c, kv_o10, not_false_eq_true, not_true, if_true, if_false, kv_then_s, kv_then_v, kv_then_n, List.cons_append, List.nil_append, kv_Ci, kv_Cr, kv_Cn, kv_Cu, kv_C0, kv_catc, kv_gCi, kv_gCl, kv_gCr, kv_nb0, kv_nb1, kv_nbi, kv_nb01, Nat.reduceAdd, Nat.reduceLeDiff]
theorem kw_has_cb (c c' : Nat → Nat → Int32) {k : Nat} (hk : k < 8) : ((kw_cb c c' 8 >>> (Int32.ofNat k &&& 31)) &&& 1 = 1) = (¬ c k 11 = 0 ∧ c' k 11 = 0) := by
  unfold kw_cb
  rw [kw_bs_bit _ hk]
  by_cases q : ¬ c k 11 = 0 ∧ c' k 11 = 0
  · rw [if_pos (decide_eq_true q)]
    exact propext ⟨fun _ => q, fun _ => rfl⟩
  · rw [if_neg (by simpa using q)]
    exact propext ⟨fun r => absurd r (by decide), fun r => absurd r q⟩
theorem kw_aside' (h : kw_XM zM z) : ∃ z', kv_Rn (d + 1) 236 0 [some (.ref 0), none] [] (kv_m z zlM) = some (none, kv_m z' zlM) ∧ kw_J zM z' := by
  obtain ⟨z', r, j⟩ := kw_aside (d := d) (zM := z) (zlM := zlM)
  have e16 : z 16 = zM 16 := h 16 (by omega) (by omega) (by omega) (by omega) (by omega) (by omega)
  exact ⟨z', r, kw_XM_tr h j.1, fun i hi => by rw [← e16]; exact j.2.1 i hi, j.2.2⟩
def kw_free (c : Nat → Nat → Int32) (W p : Int32) : Prop := 0 ≤ p ∧ p < W ∧ kw_hd c p = false
noncomputable def kw_to (c : Nat → Nat → Int32) (W : Int32) (i j : Nat) : Int32 :=
  @ite _ (c i 0 - c j 0 = 1 ∨ c i 0 - c j 0 = -1) (Classical.propDecidable _) (c i 0) (@ite _ (kw_free c W (c j 0 - 1)) (Classical.propDecidable _) (c j 0 - 1) (@ite _ (kw_free c W (c j 0 + 1)) (Classical.propDecidable _) (c j 0 + 1) (-1)))
theorem kw_sub1 (x y : Int32) : (x = y + 1) = (x - y = 1) := by
  refine propext ⟨fun q => ?_, fun q => ?_⟩
  · rw [q, Int32.add_comm]
    exact Int32.add_sub_cancel _ _
  · rw [← q, Int32.add_comm]
    exact (Int32.sub_add_cancel _ _).symm
theorem kw_subm1 (x y : Int32) : (x = y - 1) = (x - y = -1) := by
  refine propext ⟨fun q => ?_, fun q => ?_⟩
  · rw [q, Int32.sub_eq_add_neg y 1, Int32.add_comm y]
    exact Int32.add_sub_cancel _ _
  · have h : x = (x - y) + y := (Int32.sub_add_cancel _ _).symm
    rw [q, Int32.add_comm, ← Int32.sub_eq_add_neg] at h
    exact h
theorem kw_place {i j : Nat} (hi : i < 8) (hj : j < 8) : kv_Rn (d + 4) 114 0 [some (.ref 0), some (.int (Int32.ofNat i)), some (.int (Int32.ofNat j)), none, none] [] (kv_h e z zl) = some (some (.int (kw_to (kc z 36) (z 3 0) i j)), kv_h e z zl) := by
  unfold kw_to
  by_cases c1 : kc z 36 i 0 - kc z 36 j 0 = 1 ∨ kc z 36 i 0 - kc z 36 j 0 = -1
  · rw [if_pos c1]
    rcases c1 with c1 | c1
    · by_cases c2 : kc z 36 i 0 - kc z 36 j 0 = -1
      · exact absurd (c1.symm.trans c2) (by decide)
      · simp only [kv_e114_0, kv_e114_1, kv_e114_4, kv_e114_5, kv_e114_6, kv_e114_9, kv_e114_10, kv_e114_11, kv_e114_14, kv_e114_15, kv_e114_16, kv_e114_19, kv_e114_21, kv_e114_22, kv_e114_24, kv_e114_25, kv_e114_26, kv_e114_29, kv_e114_30, kv_e114_32, kv_e114_33, kv_e114_34, kv_e114_37, kv_e114_38, kv_e114_39, kv_e114_40, kv_e114_42, kv_e114_43, kv_e114_44, kv_e114_47, kv_e114_50, kv_e114_52, kv_e114_53, kv_e114_54, kv_e114_55, kv_e114_56, kv_e114_58, kv_e114_59, kv_e114_60, kv_e114_63, kv_e114_66, kv_e114_68, kv_e114_69, kv_e114_70, kv_e114_73, kv_e114_74, kv_o10, not_false_eq_true, not_true, if_true, if_false, kv_then_s, kv_then_v, kv_then_n, List.cons_append, List.nil_append, kv_Ci, kv_Cr, kv_Cn, kv_Cu, kv_C0, kv_catc, kv_gCi, kv_gCl, kv_gCr, kv_nb0, kv_nb1, kv_nbi, kv_nb01, Nat.reduceAdd, Nat.reduceLeDiff, kv_isS36, kv_get, kv_g0 z 36 hi, kv_g0 z 36 hj, kw_sub1, kw_subm1, c1, c2, eq_self, show ((1 : Int32) = -1) = False from by decide]
    · simp only [kv_e114_0, kv_e114_1, kv_e114_4, kv_e114_5, kv_e114_6, kv_e114_9, kv_e114_10, kv_e114_11, kv_e114_14, kv_e114_15, kv_e114_16, kv_e114_19, kv_e114_21, kv_e114_22, kv_e114_24, kv_e114_25, kv_e114_26, kv_e114_29, kv_e114_30, kv_e114_32, kv_e114_33, kv_e114_34, kv_e114_37, kv_e114_38, kv_e114_39, kv_e114_40, kv_e114_42, kv_e114_43, kv_e114_44, kv_e114_47, kv_e114_50, kv_e114_52, kv_e114_53, kv_e114_54, kv_e114_55, kv_e114_56, kv_e114_58, kv_e114_59, kv_e114_60, kv_e114_63, kv_e114_66, kv_e114_68, kv_e114_69, kv_e114_70, kv_e114_73, kv_e114_74, kv_o10, not_false_eq_true, not_true, if_true, if_false, kv_then_s, kv_then_v, kv_then_n, List.cons_append, List.nil_append, kv_Ci, kv_Cr, kv_Cn, kv_Cu, kv_C0, kv_catc, kv_gCi, kv_gCl, kv_gCr, kv_nb0, kv_nb1, kv_nbi, kv_nb01, Nat.reduceAdd, Nat.reduceLeDiff, kv_isS36, kv_get, kv_g0 z 36 hi, kv_g0 z 36 hj, kw_sub1, kw_subm1, c1, eq_self]
  · rw [if_neg c1]
    have c2 : ¬ kc z 36 i 0 - kc z 36 j 0 = 1 := fun q => c1 (Or.inl q)
    have c3 : ¬ kc z 36 i 0 - kc z 36 j 0 = -1 := fun q => c1 (Or.inr q)
    by_cases c4 : kw_free (kc z 36) (z 3 0) (kc z 36 j 0 - 1)
    · rw [if_pos c4]
      unfold kw_free at c4
      simp only [kv_e114_0, kv_e114_1, kv_e114_4, kv_e114_5, kv_e114_6, kv_e114_9, kv_e114_10, kv_e114_11, kv_e114_14, kv_e114_15, kv_e114_16, kv_e114_19, kv_e114_21, kv_e114_22, kv_e114_24, kv_e114_25, kv_e114_26, kv_e114_29, kv_e114_30, kv_e114_32, kv_e114_33, kv_e114_34, kv_e114_37, kv_e114_38, kv_e114_39, kv_e114_40, kv_e114_42, kv_e114_43, kv_e114_44, kv_e114_47, kv_e114_50, kv_e114_52, kv_e114_53, kv_e114_54, kv_e114_55, kv_e114_56, kv_e114_58, kv_e114_59, kv_e114_60, kv_e114_63, kv_e114_66, kv_e114_68, kv_e114_69, kv_e114_70, kv_e114_73, kv_e114_74, kv_o10, not_false_eq_true, not_true, if_true, if_false, kv_then_s, kv_then_v, kv_then_n, List.cons_append, List.nil_append, kv_Ci, kv_Cr, kv_Cn, kv_Cu, kv_C0, kv_catc, kv_gCi, kv_gCl, kv_gCr, kv_nb0, kv_nb1, kv_nbi, kv_nb01, Nat.reduceAdd, Nat.reduceLeDiff, kv_isS36, kv_get, kv_g0 z 36 hi, kv_g0 z 36 hj, kw_sub1, kw_subm1, c2, c3, kw_KisFree, c4, and_self]
    · rw [if_neg c4]
      unfold kw_free at c4
      by_cases c5 : kw_free (kc z 36) (z 3 0) (kc z 36 j 0 + 1)
      · rw [if_pos c5]
        unfold kw_free at c5
        simp only [kv_e114_0, kv_e114_1, kv_e114_4, kv_e114_5, kv_e114_6, kv_e114_9, kv_e114_10, kv_e114_11, kv_e114_14, kv_e114_15, kv_e114_16, kv_e114_19, kv_e114_21, kv_e114_22, kv_e114_24, kv_e114_25, kv_e114_26, kv_e114_29, kv_e114_30, kv_e114_32, kv_e114_33, kv_e114_34, kv_e114_37, kv_e114_38, kv_e114_39, kv_e114_40, kv_e114_42, kv_e114_43, kv_e114_44, kv_e114_47, kv_e114_50, kv_e114_52, kv_e114_53, kv_e114_54, kv_e114_55, kv_e114_56, kv_e114_58, kv_e114_59, kv_e114_60, kv_e114_63, kv_e114_66, kv_e114_68, kv_e114_69, kv_e114_70, kv_e114_73, kv_e114_74, kv_o10, not_false_eq_true, not_true, if_true, if_false, kv_then_s, kv_then_v, kv_then_n, List.cons_append, List.nil_append, kv_Ci, kv_Cr, kv_Cn, kv_Cu, kv_C0, kv_catc, kv_gCi, kv_gCl, kv_gCr, kv_nb0, kv_nb1, kv_nbi, kv_nb01, Nat.reduceAdd, Nat.reduceLeDiff, kv_isS36, kv_get, kv_g0 z 36 hi, kv_g0 z 36 hj, kw_sub1, kw_subm1, c2, c3, kw_KisFree, c4, c5, and_self, eq_self]
      · rw [if_neg c5]
        unfold kw_free at c5
        simp only [kv_e114_0, kv_e114_1, kv_e114_4, kv_e114_5, kv_e114_6, kv_e114_9, kv_e114_10, kv_e114_11, kv_e114_14, kv_e114_15, kv_e114_16, kv_e114_19, kv_e114_21, kv_e114_22, kv_e114_24, kv_e114_25, kv_e114_26, kv_e114_29, kv_e114_30, kv_e114_32, kv_e114_33, kv_e114_34, kv_e114_37, kv_e114_38, kv_e114_39, kv_e114_40, kv_e114_42, kv_e114_43, kv_e114_44, kv_e114_47, kv_e114_50, kv_e114_52, kv_e114_53, kv_e114_54, kv_e114_55, kv_e114_56, kv_e114_58, kv_e114_59, kv_e114_60, kv_e114_63, kv_e114_66, kv_e114_68, kv_e114_69, kv_e114_70, kv_e114_73, kv_e114_74, kv_o10, not_false_eq_true, not_true, if_true, if_false, kv_then_s, kv_then_v, kv_then_n, List.cons_append, List.nil_append, kv_Ci, kv_Cr, kv_Cn, kv_Cu, kv_C0, kv_catc, kv_gCi, kv_gCl, kv_gCr, kv_nb0, kv_nb1, kv_nbi, kv_nb01, Nat.reduceAdd, Nat.reduceLeDiff, kv_isS36, kv_get, kv_g0 z 36 hi, kv_g0 z 36 hj, kw_sub1, kw_subm1, c2, c3, kw_KisFree, c4, c5, eq_self]
noncomputable def kw_cr (zK zM : Nat → Nat → Int32) (B M : Nat) (i j : Nat) : Int32 :=
  if kw_to (km zM) (zM 14 0) i j = -1 then -1 else (if kw_Fl zK zM B M (fun _ => -1) (kv_pt (km zM) i 0 (kw_to (km zM) (zM 14 0) i j)) i 11 = 0 then 1 else 0) + (if kw_Fl zK zM B M (fun _ => -1) (kv_pt (km zM) i 0 (kw_to (km zM) (zM 14 0) i j)) j 11 = 0 then 2 else 0)
theorem kw_crossingK (h : kw_R n B W zK zM) {M : Nat} (hM : zK 36 3 = Int32.ofNat M) (hB : M ≤ B) (hx : kw_XK zK z) {i j : Nat} (hi : i < 8) (hj : j < 8) : ∃ z', kv_Rn (d + 7) 113 0 [some (.ref 0), some (.int (Int32.ofNat i)), some (.int (Int32.ofNat j)), none] [] (kv_h e z zl) = some (some (.int (kw_cr zK zM B M i j)), kv_h e z' zl) ∧ kw_XK zK z' := by
  have e37 : kc z 36 = km zM := by
    rw [kw_kc_fr (hx 37 (by omega) (by omega) (by omega) (by omega) (by omega) (by omega))]
    exact kw_R_km h.2.1.1
  have e3 : z 3 0 = zM 14 0 := by
    rw [hx 3 (by omega) (by omega) (by omega) (by omega) (by omega) (by omega)]
    exact h.1.2.2.1.2.1 0 (by omega)
  have hp : kv_Rn (d + 6) 114 0 [some (.ref 0), some (.int (Int32.ofNat i)), some (.int (Int32.ofNat j)), none, none] [] (kv_h e z zl) = some (some (.int (kw_to (km zM) (zM 14 0) i j)), kv_h e z zl) := by
    rw [← e37, ← e3]
    exact kw_place (d := d + 2) hi hj
  unfold kw_cr
  generalize kw_to (km zM) (zM 14 0) i j = p at hp
  by_cases c1 : p = -1
  · refine ⟨z, ?_, hx⟩
    simp only [kv_e113_0, kv_e113_1, kv_e113_2, kv_e113_3, kv_e113_6, kv_e113_7, kv_e113_8, kv_e113_9, kv_e113_12, kv_e113_13, kv_e113_14, kv_e113_15, kv_e113_18, kv_e113_19, kv_e113_22, kv_e113_25, kv_e113_26, kv_e113_29, kv_e113_30, kv_e113_31, kv_e113_32, kv_e113_35, kv_e113_36, kv_e113_39, kv_e113_40, kv_e113_43, kv_e113_44, kv_e113_47, kv_e113_50, kv_e113_51, kv_e113_54, kv_e113_55, kv_e113_56, kv_e113_59, kv_e113_60, kv_e113_63, kv_e113_66, kv_e113_67, kv_e113_70, kv_e113_71, kv_e113_72, kv_o10, not_false_eq_true, not_true, if_true, if_false, kv_then_s, kv_then_v, kv_then_n, List.cons_append, List.nil_append, kv_Ci, kv_Cr, kv_Cn, kv_Cu, kv_C0, kv_catc, kv_gCi, kv_gCl, kv_gCr, kv_nb0, kv_nb1, kv_nbi, kv_nb01, Nat.reduceAdd, Nat.reduceLeDiff, hp, c1, eq_self]
  · have fr : ∀ c, c ≠ 39 → c ≠ 40 → c ≠ 41 → kv_su (kv_sc z 39 36) 39 (Int32.ofNat i) 0 p c = z c := fun c a1 a2 a3 => (kw_su_fr _ _ _ _ _ a2).trans (kw_sc_fr z a1 a2 a3)
    obtain ⟨z1, r1, x1, k1, b1⟩ := kw_flyK (d := d) (e := e) (zl := zl) (z := kv_su (kv_sc z 39 36) 39 (Int32.ofNat i) 0 p) (c := kv_pt (km zM) i 0 p) h hM hB (fun c a1 a2 a3 a4 a5 a6 => (fr c a3 a4 a5).trans (hx c a1 a2 a3 a4 a5 a6)) (by rw [kw_sk0 _ 39 hi, kw_sc_kc, e37]) (by
      rw [kw_su_fr _ _ _ _ _ (by omega), kw_sc_0 z (by omega)]
      show z 36 3 = _
      rw [hx 36 (by omega) (by omega) (by omega) (by omega) (by omega) (by omega)]
      exact hM)
    refine ⟨z1, ?_, x1⟩
    simp only [kv_e113_0, kv_e113_1, kv_e113_2, kv_e113_3, kv_e113_6, kv_e113_7, kv_e113_8, kv_e113_9, kv_e113_12, kv_e113_13, kv_e113_14, kv_e113_15, kv_e113_18, kv_e113_19, kv_e113_22, kv_e113_25, kv_e113_26, kv_e113_29, kv_e113_30, kv_e113_31, kv_e113_32, kv_e113_35, kv_e113_36, kv_e113_39, kv_e113_40, kv_e113_43, kv_e113_44, kv_e113_47, kv_e113_50, kv_e113_51, kv_e113_54, kv_e113_55, kv_e113_56, kv_e113_59, kv_e113_60, kv_e113_63, kv_e113_66, kv_e113_67, kv_e113_70, kv_e113_71, kv_e113_72, kv_o10, not_false_eq_true, not_true, if_true, if_false, kv_then_s, kv_then_v, kv_then_n, List.cons_append, List.nil_append, kv_Ci, kv_Cr, kv_Cn, kv_Cu, kv_C0, kv_catc, kv_gCi, kv_gCl, kv_gCr, kv_nb0, kv_nb1, kv_nbi, kv_nb01, Nat.reduceAdd, Nat.reduceLeDiff, hp, c1, kv_isS36, kv_isS39, kv_copyS, kv_set, r1, kv_flies, kv_g11 z1 39 hi, kv_g11 z1 39 hj, k1, kv_i01]
    by_cases q1 : kw_Fl zK zM B M (fun _ => -1) (kv_pt (km zM) i 0 p) i 11 = 0
    · by_cases q2 : kw_Fl zK zM B M (fun _ => -1) (kv_pt (km zM) i 0 p) j 11 = 0 <;> simp only [q1, q2, kv_o10, not_false_eq_true, not_true, if_true, if_false, kv_then_s, kv_then_v, kv_then_n, List.cons_append, List.nil_append, kv_Ci, kv_Cr, kv_Cn, kv_Cu, kv_C0, kv_catc, kv_gCi, kv_gCl, kv_gCr, kv_nb0, kv_nb1, kv_nbi, kv_nb01, Nat.reduceAdd, Nat.reduceLeDiff, kv_e113_0, kv_e113_1, kv_e113_2, kv_e113_3, kv_e113_6, kv_e113_7, kv_e113_8, kv_e113_9, kv_e113_12, kv_e113_13, kv_e113_14, kv_e113_15, kv_e113_18, kv_e113_19, kv_e113_22, kv_e113_25, kv_e113_26, kv_e113_29, kv_e113_30, kv_e113_31, kv_e113_32, kv_e113_35, kv_e113_36, kv_e113_39, kv_e113_40, kv_e113_43, kv_e113_44, kv_e113_47, kv_e113_50, kv_e113_51, kv_e113_54, kv_e113_55, kv_e113_56, kv_e113_59, kv_e113_60, kv_e113_63, kv_e113_66, kv_e113_67, kv_e113_70, kv_e113_71, kv_e113_72, kv_isS39, kv_flies, kv_g11 z1 39 hi, kv_g11 z1 39 hj, k1, kv_i01]
    · by_cases q2 : kw_Fl zK zM B M (fun _ => -1) (kv_pt (km zM) i 0 p) j 11 = 0 <;> simp only [q1, q2, kv_o10, not_false_eq_true, not_true, if_true, if_false, kv_then_s, kv_then_v, kv_then_n, List.cons_append, List.nil_append, kv_Ci, kv_Cr, kv_Cn, kv_Cu, kv_C0, kv_catc, kv_gCi, kv_gCl, kv_gCr, kv_nb0, kv_nb1, kv_nbi, kv_nb01, Nat.reduceAdd, Nat.reduceLeDiff, kv_e113_0, kv_e113_1, kv_e113_2, kv_e113_3, kv_e113_6, kv_e113_7, kv_e113_8, kv_e113_9, kv_e113_12, kv_e113_13, kv_e113_14, kv_e113_15, kv_e113_18, kv_e113_19, kv_e113_22, kv_e113_25, kv_e113_26, kv_e113_29, kv_e113_30, kv_e113_31, kv_e113_32, kv_e113_35, kv_e113_36, kv_e113_39, kv_e113_40, kv_e113_43, kv_e113_44, kv_e113_47, kv_e113_50, kv_e113_51, kv_e113_54, kv_e113_55, kv_e113_56, kv_e113_59, kv_e113_60, kv_e113_63, kv_e113_66, kv_e113_67, kv_e113_70, kv_e113_71, kv_e113_72, kv_isS39, kv_flies, kv_g11 z1 39 hi, kv_g11 z1 39 hj, k1, kv_i01]
theorem kw_J_K (h : kw_R n B W zK zM) (hj : kw_XM zM z) : kw_K n z := by
  obtain ⟨a1, a2⟩ := (kw_R_I h).1.1
  exact ⟨by rw [hj 0 (by omega) (by omega) (by omega) (by omega) (by omega) (by omega)]; exact a1, by rw [kw_km_fr (hj 16 (by omega) (by omega) (by omega) (by omega) (by omega) (by omega))]; exact a2⟩
theorem kw_okc_pt {c : Nat → Nat → Int32} {k w : Nat} {v : Int32} (h : kw_okc c) (hw : w ≠ 1 ∧ w ≠ 2 ∧ w ≠ 3 ∧ w ≠ 4 ∧ w ≠ 6) : kw_okc (kv_pt c k w v) := fun i => kw_okr_pt (h i) (fun x hx => if_neg (by omega))
theorem kw_01_pt {c : Nat → Nat → Int32} {k w : Nat} {v : Int32} (h : kw_01 n c) (hw : w ≠ 11) : kw_01 n (kv_pt c k w v) := fun i => by
  have : kv_pt c k w v i 11 = c i 11 := if_neg (by omega)
  rw [this]
  exact h i
theorem kw_Z_mu {k w : Nat} {v : Int32} (hk : k < 8) (hw : w < 13) (h : kw_Z zM z) : kw_Z zM (kw_mu z k w v) := by
  refine ⟨fun c a1 a2 a3 a4 a5 a6 a7 => (kw_mu_fr _ _ _ _ a3).trans (h.1 c a1 a2 a3 a4 a5 a6 a7), fun i hi => ((kw_N_mu (z := z) (v := v) hk hw).2 i (by omega)).trans (h.2.1 i hi), fun i hi => ?_⟩
  rw [kw_mu_fr _ _ _ _ (by omega)]
  exact h.2.2 i hi
theorem kw_crossOfM (h : kw_R n B W zK zM) {M : Nat} (hM : zK 36 3 = Int32.ofNat M) (hB : M ≤ B) (hx : kw_XM zM z) {i j : Nat} (hi : i < 8) (hj : j < 8) (fi : ¬ km zM i 11 = 0) (fj : ¬ km zM j 11 = 0) : ∃ z', kv_Rn (d + 9) 247 0 [some (.ref 0), some (.int (Int32.ofNat i)), some (.int (Int32.ofNat j)), none, none, none] [] (kv_m z zlM) = some (some (.int (kw_cr zK zM B M i j)), kv_m z' zlM) ∧ kw_XM zM z' := by
  have hI := kw_R_I h
  have hK := kw_J_K h hx
  have ek : km z = km zM := kw_km_fr (hx 16 (by omega) (by omega) (by omega) (by omega) (by omega) (by omega))
  have e14 : z 14 = zM 14 := hx 14 (by omega) (by omega) (by omega) (by omega) (by omega) (by omega)
  obtain ⟨hW, hw⟩ := h.1.2.2.1.2.2.2.1
  have hw2 : z 14 0 = Int32.ofNat W := by rw [e14, ← h.1.2.2.1.2.1 0 (by omega)]; exact hw
  obtain ⟨em, -⟩ := kw_R_min h
  rw [hM] at em
  have fr := fun p => @kw_misFree (d + 5) n z zlM hK W hW hw2 p
  rw [e14, ek] at fr
  -- up to the place
  have hA : kv_Rn (d + 9) 247 0 [some (.ref 0), some (.int (Int32.ofNat i)), some (.int (Int32.ofNat j)), none, none, none] [] (kv_m z zlM) = kv_Rn (d + 9) 247 64 [some (.ref 0), some (.int (Int32.ofNat i)), some (.int (Int32.ofNat j)), some (.int (km zM j 0)), none, none] [.int (kw_to (km zM) (zM 14 0) i j)] (kv_m z zlM) := by
    unfold kw_to
    by_cases c1 : km zM i 0 - km zM j 0 = 1 ∨ km zM i 0 - km zM j 0 = -1
    · rw [if_pos c1]
      simp only [kv_e247_0, kv_e247_1, kv_e247_2, kv_e247_3, kv_e247_6, kv_e247_7, kv_e247_8, kv_e247_9, kv_e247_10, kv_e247_13, kv_e247_14, kv_e247_15, kv_e247_18, kv_e247_19, kv_e247_22, kv_e247_23, kv_e247_24, kv_e247_25, kv_e247_28, kv_o10, not_false_eq_true, not_true, if_true, if_false, kv_then_s, kv_then_v, kv_then_n, List.cons_append, List.nil_append, kv_Ci, kv_Cr, kv_Cn, kv_Cu, kv_C0, kv_catc, kv_gCi, kv_gCl, kv_gCr, kv_nb0, kv_nb1, kv_nbi, kv_nb01, Nat.reduceAdd, Nat.reduceLeDiff, kw_of0 hi, kw_of0 hj, ek, kw_ab1, c1]
    · rw [if_neg c1]
      by_cases c4 : kw_free (km zM) (zM 14 0) (km zM j 0 - 1)
      · rw [if_pos c4]
        unfold kw_free at c4
        simp only [kv_e247_0, kv_e247_1, kv_e247_2, kv_e247_3, kv_e247_6, kv_e247_7, kv_e247_8, kv_e247_9, kv_e247_10, kv_e247_13, kv_e247_14, kv_e247_15, kv_e247_18, kv_e247_19, kv_e247_31, kv_e247_32, kv_e247_33, kv_e247_34, kv_e247_35, kv_e247_38, kv_e247_41, kv_e247_42, kv_e247_43, kv_e247_44, kv_o10, not_false_eq_true, not_true, if_true, if_false, kv_then_s, kv_then_v, kv_then_n, List.cons_append, List.nil_append, kv_Ci, kv_Cr, kv_Cn, kv_Cu, kv_C0, kv_catc, kv_gCi, kv_gCl, kv_gCr, kv_nb0, kv_nb1, kv_nbi, kv_nb01, Nat.reduceAdd, Nat.reduceLeDiff, kw_of0 hi, kw_of0 hj, ek, kw_ab1, c1, fr, c4, and_self]
      · rw [if_neg c4]
        unfold kw_free at c4
        by_cases c5 : kw_free (km zM) (zM 14 0) (km zM j 0 + 1)
        · rw [if_pos c5]
          unfold kw_free at c5
          simp only [kv_e247_0, kv_e247_1, kv_e247_2, kv_e247_3, kv_e247_6, kv_e247_7, kv_e247_8, kv_e247_9, kv_e247_10, kv_e247_13, kv_e247_14, kv_e247_15, kv_e247_18, kv_e247_19, kv_e247_31, kv_e247_32, kv_e247_33, kv_e247_34, kv_e247_35, kv_e247_38, kv_e247_47, kv_e247_48, kv_e247_49, kv_e247_50, kv_e247_51, kv_e247_54, kv_e247_57, kv_e247_58, kv_e247_59, kv_e247_60, kv_o10, not_false_eq_true, not_true, if_true, if_false, kv_then_s, kv_then_v, kv_then_n, List.cons_append, List.nil_append, kv_Ci, kv_Cr, kv_Cn, kv_Cu, kv_C0, kv_catc, kv_gCi, kv_gCl, kv_gCr, kv_nb0, kv_nb1, kv_nbi, kv_nb01, Nat.reduceAdd, Nat.reduceLeDiff, kw_of0 hi, kw_of0 hj, ek, kw_ab1, c1, fr, c4, c5, and_self, eq_self]
        · rw [if_neg c5]
          unfold kw_free at c5
          simp only [kv_e247_0, kv_e247_1, kv_e247_2, kv_e247_3, kv_e247_6, kv_e247_7, kv_e247_8, kv_e247_9, kv_e247_10, kv_e247_13, kv_e247_14, kv_e247_15, kv_e247_18, kv_e247_19, kv_e247_31, kv_e247_32, kv_e247_33, kv_e247_34, kv_e247_35, kv_e247_38, kv_e247_47, kv_e247_48, kv_e247_49, kv_e247_50, kv_e247_51, kv_e247_54, kv_e247_63, kv_o10, not_false_eq_true, not_true, if_true, if_false, kv_then_s, kv_then_v, kv_then_n, List.cons_append, List.nil_append, kv_Ci, kv_Cr, kv_Cn, kv_Cu, kv_C0, kv_catc, kv_gCi, kv_gCl, kv_gCr, kv_nb0, kv_nb1, kv_nbi, kv_nb01, Nat.reduceAdd, Nat.reduceLeDiff, kw_of0 hi, kw_of0 hj, ek, kw_ab1, c1, fr, c4, c5, eq_self]
  rw [hA]
  unfold kw_cr
  generalize kw_to (km zM) (zM 14 0) i j = p
  by_cases c1 : p = -1
  · refine ⟨z, ?_, hx⟩
    simp only [kv_e247_64, kv_e247_66, kv_e247_68, kv_e247_69, kv_e247_72, kv_e247_73, kv_o10, not_false_eq_true, not_true, if_true, if_false, kv_then_s, kv_then_v, kv_then_n, List.cons_append, List.nil_append, kv_Ci, kv_Cr, kv_Cn, kv_Cu, kv_C0, kv_catc, kv_gCi, kv_gCl, kv_gCr, kv_nb0, kv_nb1, kv_nbi, kv_nb01, Nat.reduceAdd, Nat.reduceLeDiff, c1, eq_self]
  · obtain ⟨y1, s1, j1⟩ := kw_aside' (d := d + 7) (zlM := zlM) hx
    obtain ⟨y2, s2, j2, k2, I2, b2, mo⟩ := kw_flyM (d := d) (zlM := zlM) (z := kw_mu y1 i 0 p) (c := kv_pt (km zM) i 0 p) (dl := fun _ => -1) h hB (kw_Z_mu hi (by omega) (kw_J_Z j1)) (by rw [kw_mu_km _ hi (by omega), kw_J_km j1]) (by rw [(kw_N_mu (z := y1) (v := p) hi (show 0 < 13 by omega)).2 104 (by omega), kw_J_m j1, ← em]) (fun k hk => by rw [kw_mu_fr _ _ _ _ (by omega)]; exact j1.2.2 k (by have := hI.1.1.1.2; omega)) (kw_01_pt hI.1.1.2 (by omega)) (kw_okc_pt hI.2.2.2.1 (by omega))
    obtain ⟨y3, s3, j3⟩ := kw_backM (d := d + 7) (zlM := zlM) j2
    refine ⟨y3, ?_, j3.1⟩
    have fi' : ¬ kv_pt (km zM) i 0 p i 11 = 0 := by rw [kw_pt_ne _ _ (by omega)]; exact fi
    have fj' : ¬ kv_pt (km zM) i 0 p j 11 = 0 := by rw [kw_pt_ne _ _ (by omega)]; exact fj
    have b1 : ∀ {c : Prop} {dc : Decidable c}, ((@ite Int32 c dc 1 0) = 0) = ¬ c := kv_i10
    simp only [kv_e247_64, kv_e247_66, kv_e247_68, kv_e247_69, kv_e247_74, kv_e247_75, kv_e247_78, kv_e247_79, kv_e247_80, kv_e247_81, kv_e247_83, kv_e247_86, kv_e247_87, kv_e247_90, kv_e247_92, kv_e247_93, kv_e247_96, kv_e247_98, kv_e247_99, kv_e247_102, kv_o10, not_false_eq_true, not_true, if_true, if_false, kv_then_s, kv_then_v, kv_then_n, List.cons_append, List.nil_append, kv_Ci, kv_Cr, kv_Cn, kv_Cu, kv_C0, kv_catc, kv_gCi, kv_gCl, kv_gCr, kv_nb0, kv_nb1, kv_nbi, kv_nb01, Nat.reduceAdd, Nat.reduceLeDiff, c1, s1, kw_put0 hi, s2, s3, kw_has, kw_has_cb _ _ hi, b1, fi', true_and]
    by_cases q1 : kw_Fl zK zM B M (fun _ => -1) (kv_pt (km zM) i 0 p) i 11 = 0
    · by_cases q2 : kw_Fl zK zM B M (fun _ => -1) (kv_pt (km zM) i 0 p) j 11 = 0 <;> simp only [q1, q2, kv_e247_105, kv_e247_106, kv_e247_109, kv_e247_110, kv_e247_112, kv_e247_113, kv_e247_116, kv_e247_119, kv_e247_120, kv_e247_123, kv_e247_124, kv_e247_125, kv_o10, not_false_eq_true, not_true, if_true, if_false, kv_then_s, kv_then_v, kv_then_n, List.cons_append, List.nil_append, kv_Ci, kv_Cr, kv_Cn, kv_Cu, kv_C0, kv_catc, kv_gCi, kv_gCl, kv_gCr, kv_nb0, kv_nb1, kv_nbi, kv_nb01, Nat.reduceAdd, Nat.reduceLeDiff, kw_has, kw_has_cb _ _ hj, b1, fj', true_and, not_true]
    · by_cases q2 : kw_Fl zK zM B M (fun _ => -1) (kv_pt (km zM) i 0 p) j 11 = 0 <;> simp only [q1, q2, kv_e247_105, kv_e247_106, kv_e247_109, kv_e247_110, kv_e247_112, kv_e247_113, kv_e247_116, kv_e247_119, kv_e247_120, kv_e247_123, kv_e247_124, kv_e247_125, kv_o10, not_false_eq_true, not_true, if_true, if_false, kv_then_s, kv_then_v, kv_then_n, List.cons_append, List.nil_append, kv_Ci, kv_Cr, kv_Cn, kv_Cu, kv_C0, kv_catc, kv_gCi, kv_gCl, kv_gCr, kv_nb0, kv_nb1, kv_nbi, kv_nb01, Nat.reduceAdd, Nat.reduceLeDiff, kw_has, kw_has_cb _ _ hj, b1, fj', true_and, not_true]
end
