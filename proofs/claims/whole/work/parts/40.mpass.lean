/-! the model: rubbing, a minute -/
section
variable {d n : Nat} {z : Nat → Nat → Int32} {zl : Nat → Nat → Int64}
theorem kw_ab1 (x : Int32) : (kv_ab x = 1) = (x = 1 ∨ x = -1) := by
  unfold kv_ab
  by_cases h : 0 ≤ x
  · rw [if_pos h]
    refine propext ⟨fun q => Or.inl q, fun q => q.elim id (fun q => ?_)⟩
    subst q
    exact absurd h (by decide)
  · rw [if_neg h]
    refine propext ⟨fun q => Or.inr ?_, fun q => q.elim (fun q => ?_) (fun q => by subst q; decide)⟩
    · have : x = 0 - (0 - x) := by rw [Int32.zero_sub, Int32.zero_sub, Int32.neg_neg]
      rw [this, q]
      decide
    · subst q
      exact absurd (by decide) h
def kw_M (z z' : Nat → Nat → Int32) : Prop := ∀ c, c ≠ 9 → c ≠ 10 → c ≠ 18 → z' c = z c
theorem kw_M_N {z z' : Nat → Nat → Int32} (h : kw_M z z') : kw_N z z' := ⟨fun c a1 a2 _ _ a5 => h c a1 a2 a5, fun i _ => by rw [h 16 (by omega) (by omega) (by omega)]⟩
noncomputable def kw_ws (lf : Option ((Nat → Int32) → Int32)) (m : Int32) (c : Nat → Nat → Int32) (k o : Nat) : Int32 := @ite _ (kw_up (c k)) (Classical.propDecidable _) (kw_wsum lf m c k o) 0
theorem kw_gt0 {x : Int32} : (x ≤ 0) = ¬ 0 < x := propext ⟨fun q => Int32.not_lt.mpr q, fun q => Int32.not_lt.mp q⟩
theorem kw_mrub_i {lf : Option ((Nat → Int32) → Int32)} (hK : kw_K n z) (hl : kw_MR z (z 0 28) lf) (hm : kw_okm (z 16 104)) (hb : ∀ k, k < 8 → kw_okb (km z k)) {k : Nat} (hk : k < n) : ∀ o, o ≤ n → ∀ (z1 : Nat → Nat → Int32) (u3 : Option Value), kw_M z z1 → z1 18 k = kw_ws lf (z 16 104) (km z) k o →
    ∃ z' v2 v3, kv_Rn (d + 5) 214 19 [some (.ref 0), some (.int (Int32.ofNat k)), some (.int (Int32.ofNat o)), u3] [] (kv_m z1 zl) = kv_Rn (d + 5) 214 2 [some (.ref 0), some (.int (Int32.ofNat (k + 1))), v2, v3] [] (kv_m z' zl) ∧ kw_M z z' ∧ z' 18 k = kw_ws lf (z 16 104) (km z) k n ∧ (∀ i, i ≠ k → z' 18 i = z1 18 i) := by
  have h8 := hK.1.2
  have hk8 : k < 8 := by omega
  have hk2 : k < 2147483648 := by omega
  refine kv_upk _ n ?_ ?_
  · intro z1 u3 hM hx
    refine ⟨z1, some (.int (Int32.ofNat n)), u3, ?_, hM, hx, fun _ _ => rfl⟩
    have e24 : z1 0 24 = Int32.ofNat n := by rw [hM 0 (by omega) (by omega) (by omega)]; exact hK.1.1
    conv => lhs; rw [kv_e214_19]
    simp only [kv_e214_20, kv_e214_21, kv_e214_24, kv_e214_109, kv_e214_112, kv_o10, not_false_eq_true, not_true, if_true, if_false, kv_then_s, kv_then_v, kv_then_n, List.cons_append, List.nil_append, kv_Ci, kv_Cr, kv_Cn, kv_Cu, kv_C0, kv_catc, kv_gCi, kv_gCl, kv_gCr, kv_nb0, kv_nb1, kv_nbi, kv_nb01, Nat.reduceAdd, Nat.reduceLeDiff, e24, kw_ln2 h8 (show n < 2147483648 by omega), Nat.le_refl, kv_suc]
  · intro o ho ih z1 u3 hM hx
    have ho8 : o < 8 := by omega
    have ho2 : o < 2147483648 := by omega
    have e24 : z1 0 24 = Int32.ofNat n := by rw [hM 0 (by omega) (by omega) (by omega)]; exact hK.1.1
    have e16 : z1 16 = z 16 := hM 16 (by omega) (by omega) (by omega)
    have ekm : km z1 = km z := kw_km_fr e16
    have hK1 : kw_K n z1 := kw_N_K hK (kw_M_N hM) (fun i => by rw [ekm])
    have e0 : z1 0 = z 0 := hM 0 (by omega) (by omega) (by omega)
    have hs : kw_wsum lf (z 16 104) (km z) k (o + 1) = kw_wsum lf (z 16 104) (km z) k o + @ite _ (kw_tch (km z k) (km z o)) (Classical.propDecidable _) (kw_wear lf (km z k) (km z o) (z 16 104)) 0 := rfl
    -- adding v to worse k, from cells z2 with the same rows
    have go : ∀ (z2 : Nat → Nat → Int32) (v : Int32) (w3 : Option Value), kw_M z z2 → z2 18 = z1 18 → z1 18 k + v = kw_ws lf (z 16 104) (km z) k (o + 1) → ∃ z' v2 v3, kv_Rn (d + 5) 214 101 [some (.ref 0), some (.int (Int32.ofNat k)), some (.int (Int32.ofNat o)), w3] [.int v, .int (z1 18 k), .int (Int32.ofNat k), .ref 18] (kv_m z2 zl) = kv_Rn (d + 5) 214 2 [some (.ref 0), some (.int (Int32.ofNat (k + 1))), v2, v3] [] (kv_m z' zl) ∧ kw_M z z' ∧ z' 18 k = kw_ws lf (z 16 104) (km z) k n ∧ (∀ i, i ≠ k → z' 18 i = z1 18 i) := by
      intro z2 v w3 g1 g2 g3
      obtain ⟨z', v2, v3, h1, h2, h3, h4⟩ := ih (kv_z z2 18 (upd (z2 18) k (z1 18 k + v))) w3 (fun c a1 a2 a3 => (kv_zne _ _ a3).trans (g1 c a1 a2 a3)) (by rw [kv_zs]; unfold upd; rw [if_pos rfl, g3])
      refine ⟨z', v2, v3, ?_, h2, h3, fun i hi => ?_⟩
      · rw [← h1]
        simp only [kv_e214_101, kv_e214_102, kv_e214_103, kv_e214_106, kv_o10, not_false_eq_true, not_true, if_true, if_false, kv_then_s, kv_then_v, kv_then_n, List.cons_append, List.nil_append, kv_Ci, kv_Cr, kv_Cn, kv_Cu, kv_C0, kv_catc, kv_gCi, kv_gCl, kv_gCr, kv_nb0, kv_nb1, kv_nbi, kv_nb01, Nat.reduceAdd, Nat.reduceLeDiff, kv_am18, kw_n0 hk2, kv_tn hk2, kv_lN hk8, or_self, kv_suc]
      · rw [h4 i hi, kv_zs]
        unfold upd
        rw [if_neg hi, g2]
    have z18 : ∀ (z2 : Nat → Nat → Int32), kv_rd z2 18 = z2 18 := fun z2 => by funext i; exact kv_rd_lt (by omega)
    by_cases hu : kw_up (km z k) ∧ kw_tch (km z k) (km z o)
    · obtain ⟨u1, u2⟩ := hu
      obtain ⟨z2, h3, f2⟩ := kw_mwearOf (d := d) (z := z1) (zl := zl) (lf := lf) (by rw [e0]; exact kw_MR_fr hl (fun c a b => hM c (by omega) (by omega) (by omega))) (by rw [e16]; exact hm) hk8 ho8 (by rw [ekm]; exact hb k hk8) (by rw [ekm]; exact hb o ho8)
      rw [e16, ekm] at h3
      obtain ⟨z', v2, v3, h1, h2⟩ := go z2 (kw_wear lf (km z k) (km z o) (z 16 104)) (some (.int 1)) (fun c a1 a2 a3 => (f2 c a1 a2).trans (hM c a1 a2 a3)) (f2 18 (by omega) (by omega)) (by
        rw [hx]
        unfold kw_ws
        rw [if_pos u1, if_pos u1, hs, if_pos u2])
      refine ⟨z', v2, v3, ?_, h2⟩
      rw [← h1]
      have hne : ¬ k = o := by
        intro q
        subst q
        rcases u2.1 with q | q
        · rw [Int32.sub_self] at q
          exact absurd q (by decide)
        · rw [Int32.sub_self] at q
          exact absurd q (by decide)
      conv => lhs; rw [kv_e214_19]
      simp only [kv_e214_20, kv_e214_21, kv_e214_24, kv_e214_27, kv_e214_28, kv_e214_29, kv_e214_30, kv_e214_33, kv_e214_36, kv_e214_37, kv_e214_38, kv_e214_39, kv_e214_42, kv_e214_43, kv_e214_44, kv_e214_45, kv_e214_48, kv_e214_49, kv_e214_52, kv_e214_53, kv_e214_56, kv_e214_57, kv_e214_58, kv_e214_59, kv_e214_62, kv_e214_65, kv_e214_66, kv_e214_67, kv_e214_68, kv_e214_71, kv_e214_74, kv_e214_75, kv_e214_79, kv_e214_80, kv_e214_81, kv_e214_84, kv_e214_85, kv_e214_86, kv_e214_87, kv_e214_88, kv_e214_91, kv_e214_92, kv_e214_93, kv_e214_94, kv_e214_97, kv_o10, not_false_eq_true, not_true, if_true, if_false, kv_then_s, kv_then_v, kv_then_n, List.cons_append, List.nil_append, kv_Ci, kv_Cr, kv_Cn, kv_Cu, kv_C0, kv_catc, kv_gCi, kv_gCl, kv_gCr, kv_nb0, kv_nb1, kv_nbi, kv_nb01, Nat.reduceAdd, Nat.reduceLeDiff, e24, kw_ln2 h8 ho2, eq_false (show ¬ n ≤ o by omega), kw_areTwo hK1 hk2 ho2, ekm, u1.1, u2.2.1, hne, and_self, kw_of0 hk8, kw_of0 ho8, kw_ab1, u2.1, kw_of3 hk8, kw_of3 ho8, kw_gt0, u1.2, u2.2.2, kv_ar_lt (show 18 < 300 by omega), z18, kv_am18, kw_n0 hk2, kv_tn hk2, kv_lN hk8, or_self, h3]
    · obtain ⟨z', v2, v3, h1, h2⟩ := go z1 0 (some (.int 0)) hM rfl (by
        rw [hx, Int32.add_zero]
        unfold kw_ws
        by_cases u1 : kw_up (km z k)
        · rw [if_pos u1, if_pos u1, hs, if_neg (fun q => hu ⟨u1, q⟩), Int32.add_zero]
        · rw [if_neg u1, if_neg u1])
      refine ⟨z', v2, v3, ?_, h2⟩
      rw [← h1]
      have t0 : kv_Rn (d + 5) 214 78 [some (.ref 0), some (.int (Int32.ofNat k)), some (.int (Int32.ofNat o)), u3] [] (kv_m z1 zl) = kv_Rn (d + 5) 214 101 [some (.ref 0), some (.int (Int32.ofNat k)), some (.int (Int32.ofNat o)), some (.int 0)] [.int 0, .int (z1 18 k), .int (Int32.ofNat k), .ref 18] (kv_m z1 zl) := by
        simp only [kv_e214_78, kv_e214_79, kv_e214_80, kv_e214_81, kv_e214_84, kv_e214_85, kv_e214_86, kv_e214_87, kv_e214_88, kv_e214_100, kv_o10, not_false_eq_true, not_true, if_true, if_false, kv_then_s, kv_then_v, kv_then_n, List.cons_append, List.nil_append, kv_Ci, kv_Cr, kv_Cn, kv_Cu, kv_C0, kv_catc, kv_gCi, kv_gCl, kv_gCr, kv_nb0, kv_nb1, kv_nbi, kv_nb01, Nat.reduceAdd, Nat.reduceLeDiff, kv_ar_lt (show 18 < 300 by omega), z18, kv_am18, kw_n0 hk2, kv_tn hk2, kv_lN hk8, or_self, eq_self]
      conv => lhs; rw [kv_e214_19]
      by_cases c1 : ¬ km z k 11 = 0 ∧ ¬ km z o 11 = 0 ∧ ¬ k = o
      · by_cases c2 : km z k 0 - km z o 0 = 1 ∨ km z k 0 - km z o 0 = -1
        · by_cases c3 : 0 < km z k 4
          · have c4 : ¬ 0 < km z o 4 := fun q => hu ⟨⟨c1.1, c3⟩, c2, c1.2.1, q⟩
            simp only [kv_e214_20, kv_e214_21, kv_e214_24, kv_e214_27, kv_e214_28, kv_e214_29, kv_e214_30, kv_e214_33, kv_e214_36, kv_e214_37, kv_e214_38, kv_e214_39, kv_e214_42, kv_e214_43, kv_e214_44, kv_e214_45, kv_e214_48, kv_e214_49, kv_e214_52, kv_e214_53, kv_e214_56, kv_e214_57, kv_e214_58, kv_e214_59, kv_e214_62, kv_e214_65, kv_e214_66, kv_e214_67, kv_e214_68, kv_e214_71, kv_o10, not_false_eq_true, not_true, if_true, if_false, kv_then_s, kv_then_v, kv_then_n, List.cons_append, List.nil_append, kv_Ci, kv_Cr, kv_Cn, kv_Cu, kv_C0, kv_catc, kv_gCi, kv_gCl, kv_gCr, kv_nb0, kv_nb1, kv_nbi, kv_nb01, Nat.reduceAdd, Nat.reduceLeDiff, e24, kw_ln2 h8 ho2, eq_false (show ¬ n ≤ o by omega), kw_areTwo hK1 hk2 ho2, ekm, c1, kw_of0 hk8, kw_of0 ho8, kw_ab1, c2, kw_of3 hk8, kw_of3 ho8, kw_gt0, c3, c4, t0, and_self]
          · simp only [kv_e214_20, kv_e214_21, kv_e214_24, kv_e214_27, kv_e214_28, kv_e214_29, kv_e214_30, kv_e214_33, kv_e214_36, kv_e214_37, kv_e214_38, kv_e214_39, kv_e214_42, kv_e214_43, kv_e214_44, kv_e214_45, kv_e214_48, kv_e214_49, kv_e214_52, kv_e214_53, kv_e214_56, kv_e214_57, kv_e214_58, kv_e214_59, kv_e214_62, kv_o10, not_false_eq_true, not_true, if_true, if_false, kv_then_s, kv_then_v, kv_then_n, List.cons_append, List.nil_append, kv_Ci, kv_Cr, kv_Cn, kv_Cu, kv_C0, kv_catc, kv_gCi, kv_gCl, kv_gCr, kv_nb0, kv_nb1, kv_nbi, kv_nb01, Nat.reduceAdd, Nat.reduceLeDiff, e24, kw_ln2 h8 ho2, eq_false (show ¬ n ≤ o by omega), kw_areTwo hK1 hk2 ho2, ekm, c1, kw_of0 hk8, kw_of0 ho8, kw_ab1, c2, kw_of3 hk8, kw_gt0, c3, t0, and_self]
        · simp only [kv_e214_20, kv_e214_21, kv_e214_24, kv_e214_27, kv_e214_28, kv_e214_29, kv_e214_30, kv_e214_33, kv_e214_36, kv_e214_37, kv_e214_38, kv_e214_39, kv_e214_42, kv_e214_43, kv_e214_44, kv_e214_45, kv_e214_48, kv_e214_49, kv_e214_52, kv_e214_53, kv_o10, not_false_eq_true, not_true, if_true, if_false, kv_then_s, kv_then_v, kv_then_n, List.cons_append, List.nil_append, kv_Ci, kv_Cr, kv_Cn, kv_Cu, kv_C0, kv_catc, kv_gCi, kv_gCl, kv_gCr, kv_nb0, kv_nb1, kv_nbi, kv_nb01, Nat.reduceAdd, Nat.reduceLeDiff, e24, kw_ln2 h8 ho2, eq_false (show ¬ n ≤ o by omega), kw_areTwo hK1 hk2 ho2, ekm, c1, kw_of0 hk8, kw_of0 ho8, kw_ab1, c2, t0, and_self]
      · simp only [kv_e214_20, kv_e214_21, kv_e214_24, kv_e214_27, kv_e214_28, kv_e214_29, kv_e214_30, kv_e214_33, kv_o10, not_false_eq_true, not_true, if_true, if_false, kv_then_s, kv_then_v, kv_then_n, List.cons_append, List.nil_append, kv_Ci, kv_Cr, kv_Cn, kv_Cu, kv_C0, kv_catc, kv_gCi, kv_gCl, kv_gCr, kv_nb0, kv_nb1, kv_nbi, kv_nb01, Nat.reduceAdd, Nat.reduceLeDiff, e24, kw_ln2 h8 ho2, eq_false (show ¬ n ≤ o by omega), kw_areTwo hK1 hk2 ho2, ekm, c1, t0, eq_self]
end
