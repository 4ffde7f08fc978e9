/-! rubbing, run -/
section
variable {d a b : Nat} {e : List kv_E} {z : Nat → Nat → Int32} {zl : Nat → Nat → Int64}
def kw_ag (r s : Nat → Int32) : Prop := ∀ w, w ≠ 9 → r w = s w
theorem kw_up_ag {r s : Nat → Int32} (h : kw_ag r s) : kw_up r = kw_up s := by
  unfold kw_up
  rw [h 11 (by omega), h 4 (by omega)]
theorem kw_wear_ag {lf : Option ((Nat → Int32) → Int32)} {m : Int32} {r s r' s' : Nat → Int32} (h : kw_ag r r') (g : kw_ag s s') : kw_wear lf r s m = kw_wear lf r' s' m := by
  unfold kw_wear
  rw [h 4 (by omega), g 4 (by omega), h 6 (by omega), g 6 (by omega), h 1 (by omega), h 3 (by omega)]
theorem kw_tch_ag {r s r' s' : Nat → Int32} (h : kw_ag r r') (g : kw_ag s s') : kw_tch r s = kw_tch r' s' := by
  unfold kw_tch
  rw [h 0 (by omega), g 0 (by omega), kw_up_ag g]
theorem kw_rub_i (hS : kv_isS e a) (h35 : 35 < a) {c ck : Nat → Nat → Int32} {k : Nat} (hk : k < 8) (hag : ∀ i, kw_ag (ck i) (c i)) (hck : ck k = c k) : ∀ o, o ≤ 8 → ∀ (z1 : Nat → Nat → Int32) (u4 : Option Value), kw_F a z z1 → kc z1 a = (fun i => if i = k then kw_rw (c k 9 + kw_wsum (kw_lf z (z 7 3)) (z a 3) c k o) (c k) else ck i) →
    ∃ z' v3 v4, kv_Rn (d + 3) 25 21 [some (.ref 33), some (.ref a), some (.int (Int32.ofNat k)), some (.int (Int32.ofNat o)), u4] [] (kv_h e z1 zl) = kv_Rn (d + 3) 25 2 [some (.ref 33), some (.ref a), some (.int (Int32.ofNat (k + 1))), v3, v4] [] (kv_h e z' zl) ∧ kw_F a z z' ∧ kc z' a = (fun i => if i = k then kw_rw (c k 9 + kw_wsum (kw_lf z (z 7 3)) (z a 3) c k 8) (c k) else ck i) := by
  refine kv_upk _ 8 ?_ ?_
  · intro z1 u4 hF hc
    refine ⟨z1, some (.int (Int32.ofNat 8)), u4, ?_, hF, hc⟩
    conv => lhs; rw [kv_e25_21]
    simp only [kv_e25_22, kv_e25_24, kv_e25_90, kv_e25_93, kv_o10, not_false_eq_true, not_true, if_true, if_false, kv_then_s, kv_then_v, kv_then_n, List.cons_append, List.nil_append, kv_Ci, kv_Cr, kv_Cn, kv_Cu, kv_C0, kv_catc, kv_gCi, kv_gCl, kv_gCr, kv_nb0, kv_nb1, kv_nbi, kv_nb01, Nat.reduceAdd, Nat.reduceLeDiff, kv_le88, kv_suc]
  · intro o ho ih z1 u4 hF hc
    have lo := kw_F_low hF h35
    have ea : z1 a = z a := hF a (by omega) (by omega) (by omega)
    have rk : kc z1 a k = kw_rw (c k 9 + kw_wsum (kw_lf z (z 7 3)) (z a 3) c k o) (c k) := by
      rw [hc]
      exact if_pos rfl
    have ak : kw_ag (kc z1 a k) (c k) := by
      rw [rk]
      intro w hw
      unfold kw_rw
      rw [if_neg hw]
    have ao : kw_ag (kc z1 a o) (c o) := by
      rw [hc]
      intro w hw
      dsimp only
      by_cases h : o = k
      · subst h
        rw [if_pos rfl]
        unfold kw_rw
        rw [if_neg hw]
      · rw [if_neg h]
        exact hag o w hw
    have hs : kw_wsum (kw_lf z (z 7 3)) (z a 3) c k (o + 1) = kw_wsum (kw_lf z (z 7 3)) (z a 3) c k o + @ite _ (kw_tch (c k) (c o)) (Classical.propDecidable _) (kw_wear (kw_lf z (z 7 3)) (c k) (c o) (z a 3)) 0 := rfl
    by_cases ht : kw_tch (c k) (c o)
    · rw [if_pos ht] at hs
      obtain ⟨z2, hl, f2⟩ := kw_wearOf (d := d) (e := e) (z := z1) (zl := zl) hS h35 hk ho
      rw [kw_lf_fr lo, lo 7 (by omega), ea, kw_wear_ag ak ao] at hl
      have c2 : kc z2 a = kc z1 a := kw_kc_fr (f2 (a + 1) (by omega) (by omega))
      obtain ⟨z', v3, v4, h1, h2, h3⟩ := ih (kv_su z2 a (Int32.ofNat k) 9 (kc z1 a k 9 + kw_wear (kw_lf z (z 7 3)) (c k) (c o) (z a 3))) (some (.int (kc z1 a k 0 - kc z1 a o 0))) (fun c g1 g2 g3 => by rw [kw_su_fr _ _ _ _ _ g1, f2 c g2 g3]; exact hF c g1 g2 g3) (by
        rw [kw_sk9 z2 a hk, c2, hs, rk, hc]
        funext i w
        unfold kv_pt kw_rw
        dsimp only
        by_cases h : i = k
        · subst h
          simp only [true_and, if_true]
          by_cases hw : w = 9
          · rw [if_pos hw, if_pos hw, Int32.add_assoc]
          · rw [if_neg hw, if_neg hw, if_neg hw]
        · simp only [h, false_and, if_false])
      refine ⟨z', v3, v4, ?_, h2, h3⟩
      rw [← h1]
      have tt := ht
      rw [← kw_tch_ag ak ao] at tt
      obtain ⟨t1, t2, t3⟩ := tt
      conv => lhs; rw [kv_e25_21]
      by_cases p1 : kc z1 a k 0 - kc z1 a o 0 = 1
      · simp only [kv_e25_22, kv_e25_24, kv_e25_27, kv_e25_28, kv_e25_29, kv_e25_30, kv_e25_33, kv_e25_34, kv_e25_35, kv_e25_36, kv_e25_39, kv_e25_40, kv_e25_42, kv_e25_44, kv_e25_45, kv_e25_54, kv_e25_55, kv_e25_56, kv_e25_59, kv_e25_62, kv_e25_63, kv_e25_64, kv_e25_66, kv_e25_67, kv_e25_68, kv_e25_70, kv_e25_73, kv_e25_74, kv_e25_75, kv_e25_76, kv_e25_77, kv_e25_80, kv_e25_81, kv_e25_84, kv_e25_87, kv_o10, not_false_eq_true, not_true, if_true, if_false, kv_then_s, kv_then_v, kv_then_n, List.cons_append, List.nil_append, kv_Ci, kv_Cr, kv_Cn, kv_Cu, kv_C0, kv_catc, kv_gCi, kv_gCl, kv_gCr, kv_nb0, kv_nb1, kv_nbi, kv_nb01, Nat.reduceAdd, Nat.reduceLeDiff, kv_le8 ho, hS, kv_get, kv_isUp, kv_g0 z1 a hk, kv_g0 z1 a ho, kv_g11 z1 a ho, kv_g4 z1 a ho, kv_g9 z1 a hk, p1, t2, t3, and_self, hl, kv_set, kv_suc]
      · have p2 : kc z1 a k 0 - kc z1 a o 0 = -1 := t1.resolve_left p1
        simp only [kv_e25_22, kv_e25_24, kv_e25_27, kv_e25_28, kv_e25_29, kv_e25_30, kv_e25_33, kv_e25_34, kv_e25_35, kv_e25_36, kv_e25_39, kv_e25_40, kv_e25_42, kv_e25_44, kv_e25_45, kv_e25_48, kv_e25_50, kv_e25_51, kv_e25_54, kv_e25_55, kv_e25_56, kv_e25_59, kv_e25_62, kv_e25_63, kv_e25_64, kv_e25_66, kv_e25_67, kv_e25_68, kv_e25_70, kv_e25_73, kv_e25_74, kv_e25_75, kv_e25_76, kv_e25_77, kv_e25_80, kv_e25_81, kv_e25_84, kv_e25_87, kv_o10, not_false_eq_true, not_true, if_true, if_false, kv_then_s, kv_then_v, kv_then_n, List.cons_append, List.nil_append, kv_Ci, kv_Cr, kv_Cn, kv_Cu, kv_C0, kv_catc, kv_gCi, kv_gCl, kv_gCr, kv_nb0, kv_nb1, kv_nbi, kv_nb01, Nat.reduceAdd, Nat.reduceLeDiff, kv_le8 ho, hS, kv_get, kv_isUp, kv_g0 z1 a hk, kv_g0 z1 a ho, kv_g11 z1 a ho, kv_g4 z1 a ho, kv_g9 z1 a hk, p2, t2, t3, and_self, hl, kv_set, kv_suc, show ((-1 : Int32) = 1) = False from by decide]
    · rw [if_neg ht, Int32.add_zero] at hs
      obtain ⟨z', v3, v4, h1, h2, h3⟩ := ih z1 (some (.int (kc z1 a k 0 - kc z1 a o 0))) hF (by rw [hs]; exact hc)
      refine ⟨z', v3, v4, ?_, h2, h3⟩
      rw [← h1]
      have tt := ht
      rw [← kw_tch_ag ak ao] at tt
      conv => lhs; rw [kv_e25_21]
      by_cases p1 : kc z1 a k 0 - kc z1 a o 0 = 1
      · have tu : ¬ kw_up (kc z1 a o) := fun q => tt ⟨Or.inl p1, q⟩
        unfold kw_up at tu
        simp only [kv_e25_22, kv_e25_24, kv_e25_27, kv_e25_28, kv_e25_29, kv_e25_30, kv_e25_33, kv_e25_34, kv_e25_35, kv_e25_36, kv_e25_39, kv_e25_40, kv_e25_42, kv_e25_44, kv_e25_45, kv_e25_54, kv_e25_55, kv_e25_56, kv_e25_59, kv_e25_84, kv_e25_87, kv_o10, not_false_eq_true, not_true, if_true, if_false, kv_then_s, kv_then_v, kv_then_n, List.cons_append, List.nil_append, kv_Ci, kv_Cr, kv_Cn, kv_Cu, kv_C0, kv_catc, kv_gCi, kv_gCl, kv_gCr, kv_nb0, kv_nb1, kv_nbi, kv_nb01, Nat.reduceAdd, Nat.reduceLeDiff, kv_le8 ho, hS, kv_get, kv_isUp, kv_g0 z1 a hk, kv_g0 z1 a ho, kv_g11 z1 a ho, kv_g4 z1 a ho, p1, tu, eq_self, kv_suc]
      · by_cases p2 : kc z1 a k 0 - kc z1 a o 0 = -1
        · have tu : ¬ kw_up (kc z1 a o) := fun q => tt ⟨Or.inr p2, q⟩
          unfold kw_up at tu
          simp only [kv_e25_22, kv_e25_24, kv_e25_27, kv_e25_28, kv_e25_29, kv_e25_30, kv_e25_33, kv_e25_34, kv_e25_35, kv_e25_36, kv_e25_39, kv_e25_40, kv_e25_42, kv_e25_44, kv_e25_45, kv_e25_48, kv_e25_50, kv_e25_51, kv_e25_54, kv_e25_55, kv_e25_56, kv_e25_59, kv_e25_84, kv_e25_87, kv_o10, not_false_eq_true, not_true, if_true, if_false, kv_then_s, kv_then_v, kv_then_n, List.cons_append, List.nil_append, kv_Ci, kv_Cr, kv_Cn, kv_Cu, kv_C0, kv_catc, kv_gCi, kv_gCl, kv_gCr, kv_nb0, kv_nb1, kv_nbi, kv_nb01, Nat.reduceAdd, Nat.reduceLeDiff, kv_le8 ho, hS, kv_get, kv_isUp, kv_g0 z1 a hk, kv_g0 z1 a ho, kv_g11 z1 a ho, kv_g4 z1 a ho, p2, tu, eq_self, kv_suc, show ((-1 : Int32) = 1) = False from by decide]
        · simp only [kv_e25_22, kv_e25_24, kv_e25_27, kv_e25_28, kv_e25_29, kv_e25_30, kv_e25_33, kv_e25_34, kv_e25_35, kv_e25_36, kv_e25_39, kv_e25_40, kv_e25_42, kv_e25_44, kv_e25_45, kv_e25_48, kv_e25_50, kv_e25_51, kv_e25_84, kv_e25_87, kv_o10, not_false_eq_true, not_true, if_true, if_false, kv_then_s, kv_then_v, kv_then_n, List.cons_append, List.nil_append, kv_Ci, kv_Cr, kv_Cn, kv_Cu, kv_C0, kv_catc, kv_gCi, kv_gCl, kv_gCr, kv_nb0, kv_nb1, kv_nbi, kv_nb01, Nat.reduceAdd, Nat.reduceLeDiff, kv_le8 ho, hS, kv_get, kv_g0 z1 a hk, kv_g0 z1 a ho, p1, p2, kv_suc]
theorem kw_rub_o (hS : kv_isS e a) (h35 : 35 < a) {c : Nat → Nat → Int32} (hc : kc z a = c) : ∃ z' v3 v4, kv_Rn (d + 3) 25 0 [some (.ref 33), some (.ref a), none, none, none] [] (kv_h e z zl) = kv_Rn (d + 3) 25 98 [some (.ref 33), some (.ref a), some (.int (Int32.ofNat 0)), v3, v4] [] (kv_h e z' zl) ∧ kw_F a z z' ∧ kc z' a = kw_rub1 (kw_lf z (z 7 3)) (z a 3) c := by
  have hr : ∀ i, kw_ag (kw_rub1 (kw_lf z (z 7 3)) (z a 3) c i) (c i) := by
    intro i w hw
    unfold kw_rub1
    split
    · unfold kw_rw
      rw [if_neg hw]
    · rfl
  have hl := kv_up (fun k => ∀ (z1 : Nat → Nat → Int32) (u3 u4 : Option Value), kw_F a z z1 → kc z1 a = kw_mix k c (kw_rub1 (kw_lf z (z 7 3)) (z a 3) c) →
    ∃ z' v3 v4, kv_Rn (d + 3) 25 2 [some (.ref 33), some (.ref a), some (.int (Int32.ofNat k)), u3, u4] [] (kv_h e z1 zl) = kv_Rn (d + 3) 25 98 [some (.ref 33), some (.ref a), some (.int (Int32.ofNat 0)), v3, v4] [] (kv_h e z' zl) ∧ kw_F a z z' ∧ kc z' a = kw_rub1 (kw_lf z (z 7 3)) (z a 3) c) 8 ?_ ?_
  · obtain ⟨z', v3, v4, h1, h2⟩ := hl z none none (fun _ _ _ _ => rfl) (by rw [hc]; funext i; unfold kw_mix; rw [if_neg (by omega)])
    refine ⟨z', v3, v4, ?_, h2⟩
    rw [← h1]
    simp only [kv_e25_0, kv_e25_1, kv_o10, not_false_eq_true, not_true, if_true, if_false, kv_then_s, kv_then_v, kv_then_n, List.cons_append, List.nil_append, kv_Ci, kv_Cr, kv_Cn, kv_Cu, kv_C0, kv_catc, kv_gCi, kv_gCl, kv_gCr, kv_nb0, kv_nb1, kv_nbi, kv_nb01, Nat.reduceAdd, Nat.reduceLeDiff]
    rfl
  · intro z1 u3 u4 hF hk
    refine ⟨z1, u3, u4, ?_, hF, ?_⟩
    · conv => lhs; rw [kv_e25_2]
      simp only [kv_e25_3, kv_e25_5, kv_e25_96, kv_e25_97, kv_o10, not_false_eq_true, not_true, if_true, if_false, kv_then_s, kv_then_v, kv_then_n, List.cons_append, List.nil_append, kv_Ci, kv_Cr, kv_Cn, kv_Cu, kv_C0, kv_catc, kv_gCi, kv_gCl, kv_gCr, kv_nb0, kv_nb1, kv_nbi, kv_nb01, Nat.reduceAdd, Nat.reduceLeDiff, kv_le88]
      rfl
    · rw [hk]
      funext i
      unfold kw_mix
      by_cases h : i < 8
      · rw [if_pos h]
      · rw [if_neg h]
        unfold kw_rub1
        rw [← hc, kw_kc_big z a i (by omega), if_neg (fun q => q.1 rfl)]
  · intro k hk ih z1 u3 u4 hF hm
    have hck : kc z1 a k = c k := by
      rw [hm]
      unfold kw_mix
      rw [if_neg (by omega)]
    by_cases hu : kw_up (c k)
    · have h0 : kc z1 a = (fun i => if i = k then kw_rw (c k 9 + kw_wsum (kw_lf z (z 7 3)) (z a 3) c k 0) (c k) else kc z1 a i) := by
        funext i
        by_cases h : i = k
        · subst h
          rw [if_pos rfl, hck]
          funext w
          unfold kw_rw
          by_cases hw : w = 9
          · subst hw
            rw [if_pos rfl]
            exact (Int32.add_zero _).symm
          · rw [if_neg hw]
        · rw [if_neg h]
      obtain ⟨z2, v3, v4, h1, h2, h3⟩ := kw_rub_i (d := d) (zl := zl) hS h35 hk (ck := kc z1 a) (c := c) (fun i => by
        rw [hm]
        unfold kw_mix
        split
        · exact hr i
        · exact fun _ _ => rfl) hck 0 (by omega) z1 u4 hF h0
      obtain ⟨z', w3, w4, h4, h5⟩ := ih z2 v3 v4 h2 (by
        rw [h3, hm]
        funext i
        unfold kw_mix
        by_cases h : i = k
        · subst h
          rw [if_pos rfl, if_pos (by omega)]
          unfold kw_rub1
          rw [if_pos hu]
        · rw [if_neg h]
          by_cases h6 : i < k
          · rw [if_pos h6, if_pos (by omega)]
          · rw [if_neg h6, if_neg (by omega)])
      refine ⟨z', w3, w4, ?_, h5⟩
      rw [← h4, ← h1]
      have hu2 := hu
      rw [← hck] at hu2
      unfold kw_up at hu2
      conv => lhs; rw [kv_e25_2]
      simp only [kv_e25_3, kv_e25_5, kv_e25_8, kv_e25_9, kv_e25_10, kv_e25_13, kv_e25_19, kv_e25_20, kv_o10, not_false_eq_true, not_true, if_true, if_false, kv_then_s, kv_then_v, kv_then_n, List.cons_append, List.nil_append, kv_Ci, kv_Cr, kv_Cn, kv_Cu, kv_C0, kv_catc, kv_gCi, kv_gCl, kv_gCr, kv_nb0, kv_nb1, kv_nbi, kv_nb01, Nat.reduceAdd, Nat.reduceLeDiff, kv_le8 hk, hS, kv_isUp, kv_g11 z1 a hk, kv_g4 z1 a hk, hu2.1, hu2.2, and_self]
      rfl
    · obtain ⟨z', v3, v4, h1, h2⟩ := ih z1 u3 u4 hF (by
        rw [hm]
        funext i
        unfold kw_mix
        by_cases h : i < k
        · rw [if_pos h, if_pos (by omega)]
        · rw [if_neg h]
          by_cases h2 : i = k
          · subst h2
            rw [if_pos (by omega)]
            unfold kw_rub1
            rw [if_neg hu]
          · rw [if_neg (by omega)])
      refine ⟨z', v3, v4, ?_, h2⟩
      rw [← h1]
      have hu2 := hu
      rw [← hck] at hu2
      unfold kw_up at hu2
      conv => lhs; rw [kv_e25_2]
      simp only [kv_e25_3, kv_e25_5, kv_e25_8, kv_e25_9, kv_e25_10, kv_e25_13, kv_e25_16, kv_e25_90, kv_e25_93, kv_o10, not_false_eq_true, not_true, if_true, if_false, kv_then_s, kv_then_v, kv_then_n, List.cons_append, List.nil_append, kv_Ci, kv_Cr, kv_Cn, kv_Cu, kv_C0, kv_catc, kv_gCi, kv_gCl, kv_gCr, kv_nb0, kv_nb1, kv_nbi, kv_nb01, Nat.reduceAdd, Nat.reduceLeDiff, kv_le8 hk, hS, kv_isUp, kv_g11 z1 a hk, kv_g4 z1 a hk, hu2, eq_self, kv_suc]
end
