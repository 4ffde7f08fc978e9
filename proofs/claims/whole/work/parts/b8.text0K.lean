/-! text(0): the class takes a field -/
section
variable {d n B W : Nat} {e : List kv_E} {z zK zM zK' zM' : Nat → Nat → Int32} {zl zlM : Nat → Nat → Int64}
theorem kx_copyF (hF : kv_isF e 3) (hG : kv_isF e 23) : ∃ z', kv_Rn d 8 0 [some (.ref 3), some (.ref 23), none] [] (kv_h e z zl) = some (none, kv_h e z' zl) ∧ (∀ c, c ≠ 3 → c ≠ 4 → c ≠ 5 → c ≠ 6 → z' c = z c) ∧ (∀ j, j < 6 → z' 3 j = z 23 j) ∧ ∀ i, i < 6 → z' 4 i = z 24 i ∧ z' 5 i = z 25 i ∧ z' 6 i = z 26 i := by
  have a3 := kv_isF_aw hF
  have a23 := kv_isF_aw hG
  have loop : ∀ m j (z : Nat → Nat → Int32), j + m = 6 → (∀ i, i < j → z 4 i = z 24 i ∧ z 5 i = z 25 i ∧ z 6 i = z 26 i) → ∃ z', kv_Rn d 8 50 [some (.ref 3), some (.ref 23), some (.int (Int32.ofNat j))] [] (kv_h e z zl) = some (none, kv_h e z' zl) ∧ (∀ c, c ≠ 4 → c ≠ 5 → c ≠ 6 → z' c = z c) ∧ ∀ i, i < 6 → z' 4 i = z 24 i ∧ z' 5 i = z 25 i ∧ z' 6 i = z 26 i := by
    intro m
    induction m with
    | zero =>
      intro j z hj hv
      have hj : j = 6 := by omega
      subst hj
      refine ⟨z, ?_, fun _ _ _ _ => rfl, hv⟩
      rw [kv_e8_50]
      simp only [kv_e8_51, kv_e8_53, kv_e8_56, kv_e8_57, kv_e8_60, kv_e8_61, kv_e8_62, kv_e8_65, kv_e8_66, kv_e8_67, kv_e8_68, kv_e8_69, kv_e8_72, kv_e8_73, kv_e8_74, kv_e8_77, kv_e8_78, kv_e8_79, kv_e8_80, kv_e8_81, kv_e8_84, kv_e8_85, kv_e8_86, kv_e8_89, kv_e8_90, kv_e8_91, kv_e8_92, kv_e8_95, kv_e8_98, kv_o10, not_false_eq_true, not_true, if_true, if_false, kv_then_s, kv_then_v, kv_then_n, List.cons_append, List.nil_append, kv_Ci, kv_Cr, kv_Cn, kv_Cu, kv_C0, kv_catc, kv_gCi, kv_gCl, kv_gCr, kv_nb0, kv_nb1, kv_nbi, kv_nb01, Nat.reduceAdd, Nat.reduceLeDiff, show ((6 : Int32) ≤ Int32.ofNat 6) = True from by decide]
    | succ m ih =>
      intro j z hj hv
      have hj6 : j < 6 := by omega
      have hj2 : j < 2147483648 := by omega
      have ge : ((6 : Int32) ≤ Int32.ofNat j) = False := kv_ln_ (m := 6) hj6 (by omega)
      obtain ⟨y1, e1⟩ : ∃ y, y = kv_z z 4 (upd (z 4) j (z 24 j)) := ⟨_, rfl⟩
      obtain ⟨y2, e2⟩ : ∃ y, y = kv_z y1 5 (upd (y1 5) j (z 25 j)) := ⟨_, rfl⟩
      obtain ⟨y3, e3⟩ : ∃ y, y = kv_z y2 6 (upd (y2 6) j (z 26 j)) := ⟨_, rfl⟩
      have f1 : ∀ c, c ≠ 4 → y1 c = z c := fun c h => by rw [e1]; exact kv_zne _ _ h
      have f2 : ∀ c, c ≠ 5 → y2 c = y1 c := fun c h => by rw [e2]; exact kv_zne _ _ h
      have f3 : ∀ c, c ≠ 6 → y3 c = y2 c := fun c h => by rw [e3]; exact kv_zne _ _ h
      have fz : ∀ c, c ≠ 4 → c ≠ 5 → c ≠ 6 → y3 c = z c := fun c a b c' => (f3 c c').trans ((f2 c b).trans (f1 c a))
      have v4 : y3 4 = upd (z 4) j (z 24 j) := by rw [f3 4 (by omega), f2 4 (by omega), e1]; exact kv_zs _ _ _
      have v5 : y3 5 = upd (z 5) j (z 25 j) := by rw [f3 5 (by omega), e2, kv_zs, f1 5 (by omega)]
      have v6 : y3 6 = upd (z 6) j (z 26 j) := by rw [e3, kv_zs, f2 6 (by omega), f1 6 (by omega)]
      obtain ⟨z', r, fr, v⟩ := ih (j + 1) y3 (by omega) (fun i hi => by
        rw [v4, v5, v6, fz 24 (by omega) (by omega) (by omega), fz 25 (by omega) (by omega) (by omega), fz 26 (by omega) (by omega) (by omega)]
        unfold upd
        by_cases q : i = j
        · rw [if_pos q, if_pos q, if_pos q, q]
          exact ⟨rfl, rfl, rfl⟩
        · rw [if_neg q, if_neg q, if_neg q]
          exact hv i (by omega))
      refine ⟨z', ?_, fun c a b c' => (fr c a b c').trans (fz c a b c'), ?_⟩
      · rw [← r]
        conv => lhs; rw [kv_e8_50]
        have rr : ∀ (w : Nat → Nat → Int32) (c i : Nat), c < 300 → kv_rd w c i = w c i := fun w c i h => kv_rd_lt h
        simp only [kv_e8_51, kv_e8_53, kv_e8_56, kv_e8_57, kv_e8_60, kv_e8_61, kv_e8_62, kv_e8_65, kv_e8_66, kv_e8_67, kv_e8_68, kv_e8_69, kv_e8_72, kv_e8_73, kv_e8_74, kv_e8_77, kv_e8_78, kv_e8_79, kv_e8_80, kv_e8_81, kv_e8_84, kv_e8_85, kv_e8_86, kv_e8_89, kv_e8_90, kv_e8_91, kv_e8_92, kv_e8_95, kv_o10, not_false_eq_true, not_true, if_true, if_false, kv_then_s, kv_then_v, kv_then_n, List.cons_append, List.nil_append, kv_Ci, kv_Cr, kv_Cn, kv_Cu, kv_C0, kv_catc, kv_gCi, kv_gCl, kv_gCr, kv_nb0, kv_nb1, kv_nbi, kv_nb01, Nat.reduceAdd, Nat.reduceLeDiff, ge, hF, hG, kw_n0 hj2, kv_tn hj2, a3.1, a3.2.1, a3.2.2, a23.1, a23.2.1, a23.2.2, kv_lN hj6, or_self, Nat.reduceAdd, kv_ar_lt (show 24 < 300 by omega), kv_ar_lt (show 25 < 300 by omega), kv_ar_lt (show 26 < 300 by omega), kv_rd_lt (show 24 < 300 by omega), kv_rd_lt (show 25 < 300 by omega), kv_rd_lt (show 26 < 300 by omega), ← e1, f1 25 (by omega), ← e2, f2 26 (by omega), f1 26 (by omega), ← e3, kv_suc]
      · intro i hi
        have := v i hi
        rw [fz 24 (by omega) (by omega) (by omega), fz 25 (by omega) (by omega) (by omega), fz 26 (by omega) (by omega) (by omega)] at this
        exact this
  obtain ⟨y, ey⟩ : ∃ y, y = kv_z z 3 (upd (upd (upd (upd (upd (upd (z 3) 0 (z 23 0)) 1 (z 23 1)) 2 (z 23 2)) 3 (z 23 3)) 4 (z 23 4)) 5 (z 23 5)) := ⟨_, rfl⟩
  have fy : ∀ c, c ≠ 3 → y c = z c := fun c h => by rw [ey]; exact kv_zne _ _ h
  obtain ⟨z', r, fr, v⟩ := loop 6 0 y (by omega) (fun i hi => absurd hi (Nat.not_lt_zero _))
  refine ⟨z', ?_, fun c a1 a2 a3 a4 => (fr c a2 a3 a4).trans (fy c a1), fun j hj => ?_, fun i hi => ?_⟩
  · have r : kv_Rn d 8 50 [some (.ref 3), some (.ref 23), some (.int 0)] [] (kv_h e y zl) = some (none, kv_h e z' zl) := r
    rw [← r]
    have f23 : ∀ (w : Nat → Nat → Int32) f, kv_z w 3 f 23 = w 23 := fun w f => kv_zne _ _ (by omega)
    simp only [kv_e8_0, kv_e8_1, kv_e8_2, kv_e8_5, kv_e8_8, kv_e8_9, kv_e8_10, kv_e8_13, kv_e8_16, kv_e8_17, kv_e8_18, kv_e8_21, kv_e8_24, kv_e8_25, kv_e8_26, kv_e8_29, kv_e8_32, kv_e8_33, kv_e8_34, kv_e8_37, kv_e8_40, kv_e8_41, kv_e8_42, kv_e8_45, kv_e8_48, kv_e8_49, kv_o10, not_false_eq_true, not_true, if_true, if_false, kv_then_s, kv_then_v, kv_then_n, List.cons_append, List.nil_append, kv_Ci, kv_Cr, kv_Cn, kv_Cu, kv_C0, kv_catc, kv_gCi, kv_gCl, kv_gCr, kv_nb0, kv_nb1, kv_nbi, kv_nb01, Nat.reduceAdd, Nat.reduceLeDiff, hF, hG, f23, kv_zs, kw_zz, ← ey]
  · rw [fr 3 (by omega) (by omega) (by omega), ey, kv_zs]
    rcases (show j = 0 ∨ j = 1 ∨ j = 2 ∨ j = 3 ∨ j = 4 ∨ j = 5 by omega) with rfl | rfl | rfl | rfl | rfl | rfl <;> rfl
  · have := v i hi
    rw [fy 24 (by omega), fy 25 (by omega), fy 26 (by omega)] at this
    exact this
theorem kx_beginK : ∃ z', kv_Rn (d + 1) 86 0 [some (.ref 0)] [] (kv_h e z zl) = some (some (.int (z 23 4)), kv_h e z' zl) ∧ (∀ c, c ≠ 0 → (c < 3 ∨ 6 < c) → (c < 36 ∨ 38 < c) → c ≠ 45 → c ≠ 167 → z' c = z c) ∧ (∀ j, j < 6 → z' 3 j = z 23 j) ∧ (∀ i, i < 6 → z' 4 i = z 24 i ∧ z' 5 i = z 25 i ∧ z' 6 i = z 26 i) ∧ kw_vk z' 36 = kw_vk z 27 ∧ (z' 0 9 = 0 ∧ ∀ j, j ≠ 9 → z' 0 j = z 0 j) ∧ (z' 45 2 = 0 ∧ z' 45 1 = z 45 1) ∧ z' 167 3 = 0 := by
  obtain ⟨z1, r1, f1, a1, b1⟩ := kx_copyF (d := d) (e := e) (z := z) (zl := zl) (kv_isF3 e) (kv_isF23 e)
  obtain ⟨z2, e2⟩ : ∃ y, y = kv_sc z1 36 27 := ⟨_, rfl⟩
  obtain ⟨z3, e3⟩ : ∃ y, y = kv_z z2 0 (upd (z2 0) 9 0) := ⟨_, rfl⟩
  obtain ⟨z4, e4⟩ : ∃ y, y = kv_z z3 45 (upd (z3 45) 2 0) := ⟨_, rfl⟩
  obtain ⟨z5, e5⟩ : ∃ y, y = kv_z z4 167 (upd (z4 167) 3 0) := ⟨_, rfl⟩
  have f2 : ∀ c, c ≠ 36 → c ≠ 37 → c ≠ 38 → z2 c = z1 c := fun c h1 h2 h3 => by rw [e2]; exact kw_sc_fr _ h1 h2 h3
  have f3 : ∀ c, c ≠ 0 → z3 c = z2 c := fun c h => by rw [e3]; exact kv_zne _ _ h
  have f4 : ∀ c, c ≠ 45 → z4 c = z3 c := fun c h => by rw [e4]; exact kv_zne _ _ h
  have f5 : ∀ c, c ≠ 167 → z5 c = z4 c := fun c h => by rw [e5]; exact kv_zne _ _ h
  have g : ∀ c, c ≠ 0 → (c < 3 ∨ 6 < c) → (c < 36 ∨ 38 < c) → c ≠ 45 → c ≠ 167 → z5 c = z c := fun c x1 x2 x3 x4 x5 => (f5 c x5).trans ((f4 c x4).trans ((f3 c x1).trans ((f2 c (by omega) (by omega) (by omega)).trans (f1 c (by omega) (by omega) (by omega) (by omega)))))
  have g2 : ∀ c, c ≠ 0 → (c < 36 ∨ 38 < c) → c ≠ 45 → c ≠ 167 → z5 c = z1 c := fun c x1 x3 x4 x5 => (f5 c x5).trans ((f4 c x4).trans ((f3 c x1).trans (f2 c (by omega) (by omega) (by omega))))
  have z50 : z5 0 = upd (z2 0) 9 0 := (f5 0 (by omega)).trans ((f4 0 (by omega)).trans (by rw [e3]; exact kv_zs _ _ _))
  have z545 : z5 45 = upd (z3 45) 2 0 := (f5 45 (by omega)).trans (by rw [e4]; exact kv_zs _ _ _)
  refine ⟨z5, ?_, g, fun j hj => by rw [g2 3 (by omega) (by omega) (by omega) (by omega)]; exact a1 j hj, fun i hi => by rw [g2 4 (by omega) (by omega) (by omega) (by omega), g2 5 (by omega) (by omega) (by omega) (by omega), g2 6 (by omega) (by omega) (by omega) (by omega)]; exact b1 i hi, ?_, ⟨by rw [z50]; exact if_pos rfl, fun j hj => ?_⟩, ⟨by rw [z545]; exact if_pos rfl, ?_⟩, by rw [e5, kv_zs]; exact if_pos rfl⟩
  · have cs := kv_copyS (d := d) (e := e) (z := z1) (zl := zl) (kv_isS36 e) (kv_isS27 e)
    rw [← e2] at cs
    have fg : kv_Rn d 3 0 [some (.ref 45)] [] (kv_h e z3 zl) = some (none, kv_h e z4 zl) := by
      simp only [kv_e3_0, kv_e3_1, kv_e3_2, kv_e3_5, kv_o10, not_false_eq_true, not_true, if_true, if_false, kv_then_s, kv_then_v, kv_then_n, List.cons_append, List.nil_append, kv_Ci, kv_Cr, kv_Cn, kv_Cu, kv_C0, kv_catc, kv_gCi, kv_gCl, kv_gCr, kv_nb0, kv_nb1, kv_nbi, kv_nb01, Nat.reduceAdd, Nat.reduceLeDiff, ← e4]
    have rt : z5 3 4 = z 23 4 := by rw [g2 3 (by omega) (by omega) (by omega) (by omega)]; exact a1 4 (by omega)
    simp only [kv_e86_0, kv_e86_1, kv_e86_4, kv_e86_5, kv_e86_8, kv_e86_11, kv_e86_14, kv_e86_15, kv_e86_18, kv_e86_19, kv_e86_22, kv_e86_25, kv_e86_28, kv_e86_29, kv_e86_30_0, kv_e86_30_1, kv_e86_33, kv_e86_34, kv_e86_37, kv_e86_40, kv_e86_41, kv_e86_44, kv_e86_45, kv_e86_48, kv_e86_49, kv_e86_52, kv_e86_55, kv_o10, not_false_eq_true, not_true, if_true, if_false, kv_then_s, kv_then_v, kv_then_n, List.cons_append, List.nil_append, kv_Ci, kv_Cr, kv_Cn, kv_Cu, kv_C0, kv_catc, kv_gCi, kv_gCl, kv_gCr, kv_nb0, kv_nb1, kv_nbi, kv_nb01, Nat.reduceAdd, Nat.reduceLeDiff, kv_isF3, kv_isS36, r1, cs, ← e3, fg, ← e5, rt]
  · have k : kw_vk z5 36 = kw_vk z2 36 := kw_vk_fr (z' := z5) (z := z2) (a := 36) (fun c hc => (f5 c (by omega)).trans ((f4 c (by omega)).trans (f3 c (by omega))))
    rw [k, e2, kw_sc_vk _ (by omega)]
    exact kw_vk_fr (z' := z1) (z := z) (a := 27) (fun c hc => f1 c (by omega) (by omega) (by omega) (by omega))
  · rw [z50]
    exact (if_neg hj).trans (by rw [f2 0 (by omega) (by omega) (by omega), f1 0 (by omega) (by omega) (by omega) (by omega)])
  · rw [z545]
    exact (if_neg (by omega)).trans (by rw [f3 45 (by omega), f2 45 (by omega) (by omega) (by omega), f1 45 (by omega) (by omega) (by omega) (by omega)])
end
