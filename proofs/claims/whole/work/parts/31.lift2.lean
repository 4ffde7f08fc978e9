/-! lifts and wears, run -/
section
variable {d a b : Nat} {e : List kv_E} {z : Nat → Nat → Int32} {zl : Nat → Nat → Int64}
theorem kw_t0 : (0 : Int32).toNatClampNeg = 0 := id rfl
theorem kw_p0 : ((0 : Int32) < 0) = False := by decide
theorem kw_gt34 (h : 35 < a) (l : Nat → Int32) (i w : Int32) : kv_gt (kv_z z 34 l) a i w = kv_gt z a i w := by
  unfold kv_gt
  rw [kv_zne _ _ (by omega)]
theorem kw_liftOf (hS : kv_isS e a) (h35 : 35 < a) (h9 : kw_air z) {k : Nat} (hk : k < 8) : ∃ z', kv_Rn (d + 2) 27 0 [some (.ref 33), some (.ref a), some (.int (Int32.ofNat k)), none, none] [] (kv_h e z zl) = some (some (.int (kw_lift (kw_lf z (z 7 2)) (kw_win z) (kc z a k) (z a 3))), kv_h e z' zl) ∧ ∀ c, c ≠ 34 → c ≠ 35 → z' c = z c := by
  by_cases c : z 7 2 < 0 ∨ z 7 1 ≤ z 7 2 ∨ 6 ≤ z 7 2
  · refine ⟨z, ?_, fun _ _ _ => rfl⟩
    have hl : kw_lf z (z 7 2) = none := if_pos c
    rw [hl]
    simp only [kv_e27_0, kv_e27_1, kv_e27_4, kv_e27_5, kv_e27_6, kv_e27_7, kv_e27_10, kv_e27_11, kv_e27_14, kv_e27_17, kv_e27_18, kv_e27_19, kv_e27_22, kv_e27_23, kv_e27_26, kv_e27_29, kv_e27_32n, kv_e27_34n, kv_e27_36n, kv_e27_39, kv_e27_40, kv_e27_41, kv_e27_42, kv_e27_43, kv_e27_46, kv_e27_47, kv_e27_49, kv_e27_51, kv_e27_54, kv_o10, not_false_eq_true, not_true, if_true, if_false, kv_then_s, kv_then_v, kv_then_n, List.cons_append, List.nil_append, kv_Ci, kv_Cr, kv_Cn, kv_Cu, kv_C0, kv_catc, kv_gCi, kv_gCl, kv_gCr, kv_nb0, kv_nb1, kv_nbi, kv_nb01, Nat.reduceAdd, Nat.reduceLeDiff, hS, kv_isF3, kv_get, kw_wind h9, kw_at, c, if_true, kv_within, kv_g4 z a hk, kv_g1 z a hk]
    rfl
  · obtain ⟨l, hl, l1, l2, l3, l7⟩ := kw_letters (d := d) (e := e) (z := z) (zl := zl) hS (Int32.ofNat k)
    have c0 : ¬ z 7 2 < 0 := fun q => c (Or.inl q)
    have c6 : ¬ 6 ≤ z 7 2 := fun q => c (Or.inr (Or.inr q))
    have hn : (z 7 2).toNatClampNeg < 6 := by
      obtain ⟨m, hm, e1⟩ := kv_nat (kv_nn0 c0)
      rw [e1] at c6 ⊢
      rw [kv_tn hm]
      rw [show (6 : Int32) = Int32.ofNat 6 from rfl, kv_nle (by omega) hm] at c6
      omega
    have hf : kw_lf z (z 7 2) = some (fun lt => kw_we (z (9 + 2 * (z 7 2).toNatClampNeg + 1)) (z (9 + 2 * (z 7 2).toNatClampNeg) 1) lt 257 0 []) := if_neg c
    rw [hf]
    have hat := @kw_at (d + 1) e z zl (z 7 2)
    rw [if_neg c] at hat
    generalize (z 7 2).toNatClampNeg = n at hn hat ⊢
    have hL := @kw_isLn e n hn
    obtain ⟨p, hw⟩ := kw_worth (d := d) (e := e) (z := kv_z z 34 (upd (upd (upd (upd l 0 (kw_win z (kc z a k 4) (z a 3))) 4 0) 5 0) 6 0)) (zl := zl) hL ⟨by omega, by omega⟩
    rw [kv_zs, kv_zne _ _ (show 9 + 2 * n + 1 ≠ 34 by omega), kv_zne _ _ (show 9 + 2 * n ≠ 34 by omega)] at hw
    refine ⟨kv_z (kv_z z 34 (upd (upd (upd (upd l 0 (kw_win z (kc z a k 4) (z a 3))) 4 0) 5 0) 6 0)) 35 p, ?_, fun c h1 h2 => (kv_zne _ p h2).trans (kv_zne z _ h1)⟩
    · simp only [kv_e27_0, kv_e27_1, kv_e27_4, kv_e27_5, kv_e27_6, kv_e27_7, kv_e27_10, kv_e27_11, kv_e27_14, kv_e27_17, kv_e27_18, kv_e27_19, kv_e27_22, kv_e27_23, kv_e27_26, kv_e27_29, kv_e27_32, kv_e27_34, kv_e27_36, kv_e27_55, kv_e27_56, kv_e27_57, kv_e27_58, kv_e27_61, kv_e27_62, kv_e27_65, kv_e27_66, kv_e27_67, kv_e27_68, kv_e27_69, kv_e27_72, kv_e27_73, kv_e27_74, kv_e27_75, kv_e27_76, kv_e27_79, kv_e27_80, kv_e27_81, kv_e27_82, kv_e27_83, kv_e27_86, kv_e27_88, kv_e27_89, kv_e27_90, kv_e27_92, kv_e27_93, kv_e27_96, kv_e27_97, kv_e27_100, kv_e27_103, kv_e27_105, kv_e27_107, kv_e27_110, kv_o10, not_false_eq_true, not_true, if_true, if_false, kv_then_s, kv_then_v, kv_then_n, List.cons_append, List.nil_append, kv_Ci, kv_Cr, kv_Cn, kv_Cu, kv_C0, kv_catc, kv_gCi, kv_gCl, kv_gCr, kv_nb0, kv_nb1, kv_nbi, kv_nb01, Nat.reduceAdd, Nat.reduceLeDiff, hS, hL, kv_isF3, kv_get, kw_wind h9, hat, hl, kv_within, kv_g4 z a hk, kv_g1 z a hk, kv_aw34, kw_p0, kw_p4, kw_p5, kw_p6, kw_t0, kw_t4, kw_t5, kw_t6, or_self, if_false, kv_zs, kw_zz, hw]
      unfold kw_lift
      dsimp only
      rw [kw_we_lt (lt' := kw_lt (kw_win z (kc z a k 4) (z a 3)) (kc z a k 1) (kc z a k 4) (kc z a k 3) 0 0 0 (z a 3))]
      intro i hi
      match i, hi with
      | 0, _ => rfl
      | 1, _ => exact l1.trans (kv_g1 z a hk)
      | 2, _ => exact l2.trans (kv_g4 z a hk)
      | 3, _ => exact l3.trans (kv_g3 z a hk)
      | 4, _ => rfl
      | 5, _ => rfl
      | 6, _ => rfl
      | 7, _ => exact l7
theorem kw_wearOf (hS : kv_isS e a) (h35 : 35 < a) {k o : Nat} (hk : k < 8) (ho : o < 8) : ∃ z', kv_Rn (d + 2) 28 0 [some (.ref 33), some (.ref a), some (.int (Int32.ofNat k)), some (.int (Int32.ofNat o)), none, none, none, none] [] (kv_h e z zl) = some (some (.int (kw_wear (kw_lf z (z 7 3)) (kc z a k) (kc z a o) (z a 3))), kv_h e z' zl) ∧ ∀ c, c ≠ 34 → c ≠ 35 → z' c = z c := by
  by_cases c : z 7 3 < 0 ∨ z 7 1 ≤ z 7 3 ∨ 6 ≤ z 7 3
  · refine ⟨z, ?_, fun _ _ _ => rfl⟩
    have hl : kw_lf z (z 7 3) = none := if_pos c
    rw [hl]
    simp only [kv_e28_0, kv_e28_1, kv_e28_2, kv_e28_4, kv_e28_7, kv_e28_9, kv_e28_10, kv_e28_11, kv_e28_13, kv_e28_16, kv_e28_18, kv_e28_19, kv_e28_20, kv_e28_21, kv_e28_24, kv_e28_25, kv_e28_26, kv_e28_27, kv_e28_30, kv_e28_31, kv_e28_33, kv_e28_34, kv_e28_37, kv_e28_38, kv_e28_41, kv_e28_44, kv_e28_47n, kv_e28_49n, kv_e28_51n, kv_e28_54, kv_e28_56, kv_e28_58, kv_e28_61, kv_e28_63, kv_e28_65, kv_e28_68, kv_e28_69, kv_e28_71, kv_e28_72, kv_e28_74, kv_e28_75, kv_e28_76, kv_e28_78, kv_e28_81, kv_e28_84, kv_e28_85, kv_o10, not_false_eq_true, not_true, if_true, if_false, kv_then_s, kv_then_v, kv_then_n, List.cons_append, List.nil_append, kv_Ci, kv_Cr, kv_Cn, kv_Cu, kv_C0, kv_catc, kv_gCi, kv_gCl, kv_gCr, kv_nb0, kv_nb1, kv_nbi, kv_nb01, Nat.reduceAdd, Nat.reduceLeDiff, hS, kv_get, kw_at, c, if_true, kv_within, kv_g4 z a hk, kv_g6 z a hk, kv_g4 z a ho, kv_g6 z a ho]
    unfold kw_wear
    dsimp only
    by_cases d1 : kc z a k 4 - kc z a o 4 ≤ -10
    · simp only [d1, if_true]
    · by_cases d2 : 10 ≤ kc z a k 4 - kc z a o 4 <;> simp only [d1, d2, if_true, if_false]
  · obtain ⟨l, hl, l1, l2, l3, l7⟩ := kw_letters (d := d) (e := e) (z := z) (zl := zl) hS (Int32.ofNat k)
    have c0 : ¬ z 7 3 < 0 := fun q => c (Or.inl q)
    have c6 : ¬ 6 ≤ z 7 3 := fun q => c (Or.inr (Or.inr q))
    have hn : (z 7 3).toNatClampNeg < 6 := by
      obtain ⟨m, hm, e1⟩ := kv_nat (kv_nn0 c0)
      rw [e1] at c6 ⊢
      rw [kv_tn hm]
      rw [show (6 : Int32) = Int32.ofNat 6 from rfl, kv_nle (by omega) hm] at c6
      omega
    have hf : kw_lf z (z 7 3) = some (fun lt => kw_we (z (9 + 2 * (z 7 3).toNatClampNeg + 1)) (z (9 + 2 * (z 7 3).toNatClampNeg) 1) lt 257 0 []) := if_neg c
    rw [hf]
    have hat := @kw_at (d + 1) e z zl (z 7 3)
    rw [if_neg c] at hat
    generalize (z 7 3).toNatClampNeg = n at hn hat ⊢
    have hL := @kw_isLn e n hn
    obtain ⟨p, hw⟩ := kw_worth (d := d) (e := e) (z := kv_z z 34 (upd (upd (upd (upd l 0 0) 4 (kc z a k 6)) 5 (kc z a o 6)) 6 (kc z a k 4 - kc z a o 4))) (zl := zl) hL ⟨by omega, by omega⟩
    rw [kv_zs, kv_zne _ _ (show 9 + 2 * n + 1 ≠ 34 by omega), kv_zne _ _ (show 9 + 2 * n ≠ 34 by omega)] at hw
    refine ⟨kv_z (kv_z z 34 (upd (upd (upd (upd l 0 0) 4 (kc z a k 6)) 5 (kc z a o 6)) 6 (kc z a k 4 - kc z a o 4))) 35 p, ?_, fun c h1 h2 => (kv_zne _ p h2).trans (kv_zne z _ h1)⟩
    · simp only [kv_e28_0, kv_e28_1, kv_e28_2, kv_e28_4, kv_e28_7, kv_e28_9, kv_e28_10, kv_e28_11, kv_e28_13, kv_e28_16, kv_e28_18, kv_e28_19, kv_e28_20, kv_e28_21, kv_e28_24, kv_e28_25, kv_e28_26, kv_e28_27, kv_e28_30, kv_e28_31, kv_e28_33, kv_e28_34, kv_e28_37, kv_e28_38, kv_e28_41, kv_e28_44, kv_e28_47, kv_e28_49, kv_e28_51, kv_e28_86, kv_e28_87, kv_e28_88, kv_e28_89, kv_e28_92, kv_e28_93, kv_e28_96, kv_e28_97, kv_e28_98, kv_e28_99, kv_e28_100, kv_e28_103, kv_e28_104, kv_e28_106, kv_e28_107, kv_e28_108, kv_e28_111, kv_e28_112, kv_e28_114, kv_e28_115, kv_e28_116, kv_e28_119, kv_e28_121, kv_e28_123, kv_e28_124, kv_e28_126, kv_e28_127, kv_e28_130, kv_e28_131, kv_e28_134, kv_e28_137, kv_e28_138, kv_e28_140, kv_e28_143, kv_o10, not_false_eq_true, not_true, if_true, if_false, kv_then_s, kv_then_v, kv_then_n, List.cons_append, List.nil_append, kv_Ci, kv_Cr, kv_Cn, kv_Cu, kv_C0, kv_catc, kv_gCi, kv_gCl, kv_gCr, kv_nb0, kv_nb1, kv_nbi, kv_nb01, Nat.reduceAdd, Nat.reduceLeDiff, hS, hL, kv_get, hat, hl, kv_within, kv_g4 z a hk, kv_g6 z a hk, kv_g4 z a ho, kv_g6 z a ho, kv_aw34, kw_p0, kw_p4, kw_p5, kw_p6, kw_t0, kw_t4, kw_t5, kw_t6, or_self, if_false, kv_zs, kw_zz, hw]
      unfold kw_wear
      dsimp only
      rw [kw_we_lt (lt' := kw_lt 0 (kc z a k 1) (kc z a k 4) (kc z a k 3) (kc z a k 6) (kc z a o 6) (kc z a k 4 - kc z a o 4) (z a 3))]
      intro i hi
      match i, hi with
      | 0, _ => rfl
      | 1, _ => exact l1.trans (kv_g1 z a hk)
      | 2, _ => exact l2.trans (kv_g4 z a hk)
      | 3, _ => exact l3.trans (kv_g3 z a hk)
      | 4, _ => rfl
      | 5, _ => rfl
      | 6, _ => rfl
      | 7, _ => exact l7
end
