/-! text(0): a field's text, both -/
section
variable {d n B W : Nat} {e : List kv_E} {z zK zM zK' zM' : Nat → Nat → Int32} {zl zlM : Nat → Nat → Int64}
theorem kx_row_mr (K : Nat → Int32) (w : Nat) (hw : w < 13) : kx_row K w = kx_mr K (kw_sg w) := by
  rcases (show w = 0 ∨ w = 1 ∨ w = 2 ∨ w = 3 ∨ w = 4 ∨ w = 5 ∨ w = 6 ∨ w = 7 ∨ w = 8 ∨ w = 9 ∨ w = 10 ∨ w = 11 ∨ w = 12 by omega) with rfl | rfl | rfl | rfl | rfl | rfl | rfl | rfl | rfl | rfl | rfl | rfl | rfl <;> rfl
theorem kx_row_13 (K : Nat → Int32) (w : Nat) (hw : 13 ≤ w) : kx_row K w = 0 := by
  unfold kx_row
  rw [if_neg (show ¬ w = 0 by omega), if_neg (show ¬ w = 1 by omega), if_neg (show ¬ w = 2 by omega), if_neg (show ¬ w = 3 by omega), if_neg (show ¬ w = 4 by omega), if_neg (show ¬ w = 5 by omega), if_neg (show ¬ w = 6 by omega), if_neg (show ¬ w = 7 by omega), if_neg (show ¬ w = 8 by omega), if_neg (show ¬ w = 11 by omega)]
theorem kx_rgI {g i : Nat} {x : Int32} {lo hi : Int} (h : kx_in g i x) (h1 : lo ≤ (kx_lo g i).toInt) (h2 : (kx_hi g i).toInt ≤ hi) : kw_rg x lo hi := ⟨Int.le_trans h1 (Int32.le_iff_toInt_le.mp h.1), Int.le_trans (Int32.le_iff_toInt_le.mp h.2) h2⟩
theorem kx_natOf {x : Int32} {m : Nat} (hm : m < 2147483648) (h : kw_rg x 0 m) : ∃ p, p ≤ m ∧ x = Int32.ofNat p := by
  obtain ⟨h1, h2⟩ := h
  refine ⟨x.toInt.toNat, by omega, ?_⟩
  apply Int32.toInt.inj
  rw [Int32.toInt_ofNat_of_lt (show x.toInt.toNat < 2147483648 by omega)]
  show x.toInt = ((x.toInt.toNat : Nat) : Int)
  omega
theorem kx_SV0 {q : kx_fs} (hq : kx_fK q z) (hr : kx_rq q) (hs : kx_st q) (hF : q.2.2.2.1 0 = Int32.ofNat W) (hW : W ≤ 20) : kw_SV q.2.1 B W (kw_vk z 27) := by
  obtain ⟨⟨-, b2, b3, b4⟩, ⟨-, n8⟩, -, -, q5, -⟩ := hq
  have row : ∀ k w, (kw_vk z 27).1 k w = if k < q.2.1 then kx_row (q.2.2.2.2.1 k) w else 0 := q5
  refine ⟨⟨fun k => ?_, fun k => ?_⟩, ⟨0, Nat.zero_le _, b3⟩, ⟨0, Nat.zero_le _, b2⟩, fun k => ?_, fun k hk => ?_⟩
  · by_cases hk : k < q.2.1
    · have e : ∀ w, (kw_vk z 27).1 k w = kx_row (q.2.2.2.2.1 k) w := fun w => (row k w).trans (if_pos hk)
      have r := hr.2.1 k hk
      have g := hs.2 k hk
      unfold kw_okr
      rw [e 1, e 2, e 3, e 4, e 6]
      have e1 : kx_row (q.2.2.2.2.1 k) 1 = q.2.2.2.2.1 k 1 := rfl
      have e2 : kx_row (q.2.2.2.2.1 k) 2 = q.2.2.2.2.1 k 2 := rfl
      have e3 : kx_row (q.2.2.2.2.1 k) 3 = q.2.2.2.2.1 k 3 := rfl
      have e4 : kx_row (q.2.2.2.2.1 k) 4 = q.2.2.2.2.1 k 3 := rfl
      have e6 : kx_row (q.2.2.2.2.1 k) 6 = q.2.2.2.2.1 k 5 := rfl
      rw [e1, e2, e3, e4, e6]
      have h23 : (q.2.2.2.2.1 k 3).toInt ≤ (q.2.2.2.2.1 k 2).toInt := Int32.le_iff_toInt_le.mp (Int32.not_lt.mp g.2.1)
      exact ⟨⟨kx_rgI (r 1 (by omega)) (by decide) (by decide), kx_rgI (r 5 (by omega)) (by decide) (by decide)⟩, ⟨(kx_rgI (lo := 0) (hi := 99) (r 3 (by omega)) (by decide) (by decide)).1, Int.le_refl _⟩, h23, (kx_rgI (lo := 0) (hi := 99) (r 2 (by omega)) (by decide) (by decide)).2⟩
    · have e : ∀ w, (kw_vk z 27).1 k w = 0 := fun w => (row k w).trans (if_neg hk)
      unfold kw_okr
      rw [e 1, e 2, e 3, e 4, e 6]
      exact ⟨⟨⟨by decide, by decide⟩, ⟨by decide, by decide⟩⟩, ⟨by decide, by decide⟩, by decide, by decide⟩
  · by_cases hk : k < q.2.1
    · exact ⟨Or.inr ((row k 11).trans ((if_pos hk).trans rfl)), fun h => absurd hk (by omega)⟩
    · exact ⟨Or.inl ((row k 11).trans (if_neg hk)), fun _ => (row k 11).trans (if_neg hk)⟩
  · have e : (kw_vk z 27).1 k 12 = 0 := by
      rw [row]
      by_cases hk : k < q.2.1
      · rw [if_pos hk]
        rfl
      · exact if_neg hk
    exact ⟨Or.inl e, fun _ => e⟩
  · by_cases hkn : k < q.2.1
    · obtain ⟨p, hp, ep⟩ := kx_pl20 hr hkn
      refine ⟨p, ?_, (row k 0).trans ((if_pos hkn).trans ep)⟩
      have g := (hs.2 k hkn).1
      rw [ep, hF] at g
      have g := Int32.not_le.mpr g
      rw [kv_nle (by omega) (by omega)] at g
      omega
    · exact absurd ((row k 11).trans (if_neg hkn)) hk
theorem kw_f_text0 (h : kw_R n B W zK zM) : kw_A (d + 10) 85 192 [some (.ref 0), some (.int 0)] [some (.ref 0), some (.int 0)] zK zM zl zlM := by
  obtain ⟨T, L, hL, ⟨t1, t2⟩, t3, t4, t5⟩ := kx_laws h
  obtain ⟨zk, rk, fk, ck, pk⟩ := kx_readFK (d := d + 2) (e := []) (z := zK) (zl := zl) (t := T) (L := L) t5 t1 hL t3
  obtain ⟨zm, rm, fm, pm⟩ := kx_readFM (d := d + 5) (z := zM) (zl := zlM) (t := T) (L := L) t2 hL t4
  by_cases qo : (kx_FL T L).1 = true
  · rw [if_pos qo] at rk rm
    obtain ⟨hk, hr, hs⟩ := pk qo
    have hm := pm qo
    generalize (kx_FL T L).2.2 = q at *
    obtain ⟨zk2, ek2⟩ : ∃ y, y = kv_z zk 1 (upd (zk 1) 1 0) := ⟨_, rfl⟩
    have fk2 : ∀ c, c ≠ 1 → zk2 c = zk c := fun c hc => by rw [ek2]; exact kv_zne _ _ hc
    have hk2 : kx_fK q zk2 := kx_fK_fr hk (fun c a _ => fk2 c a)
    obtain ⟨z', r', g', a3, a4, a36, ⟨a09, a0⟩, ⟨a452, a451⟩, a167⟩ := kx_beginK (d := d + 8) (e := []) (z := zk2) (zl := zl)
    have m20 : kx_f zm 2 0 0 20 = Int32.ofNat q.2.1 := (kx_f_ne _ _ (by omega)).trans hm.1.1
    have m21 : kx_f zm 2 0 0 21 = Int32.ofNat q.2.2.1 := (kx_f_ne _ _ (by omega)).trans hm.2.1.1
    obtain ⟨w', s', w1, w0, ⟨w24, w25, w33, w40, w42⟩, w14, w15, w16⟩ := kx_takeM (d := d + 8) (z := kx_f zm 2 0) (zl := zlM) (n := q.2.1) (m := q.2.2.1) (K := q.2.2.2.2.1) hm.1.2 m20 m21 (by rw [kx_f_fr _ _ _ (by omega)]; exact hm.2.2.2.1)
    have kc' : ∀ c, c ≠ 1 → c ≠ 0 → (c < 3 ∨ 6 < c) → (c < 21 ∨ 28 < c) → (c < 36 ∨ 38 < c) → c ≠ 45 → c ≠ 167 → z' c = zK c := fun c x1 x0 x2 x3 x4 x5 x6 => (g' c x0 x2 x4 x5 x6).trans ((fk2 c x1).trans (fk c x1 x3))
    have mc' : ∀ c, c ≠ 0 → (c < 11 ∨ 16 < c) → w' c = zM c := fun c x0 x1 => (w1 c x0 (by omega) (by omega) (by omega)).trans ((kx_f_fr _ _ _ x0).trans (fm.1 c x0 (by omega) (by omega) (by omega)))
    have m0' : ∀ j, j ≠ 2 → j ≠ 3 → j ≠ 4 → j ≠ 20 → j ≠ 21 → j ≠ 24 → j ≠ 25 → j ≠ 33 → j ≠ 40 → j ≠ 42 → w' 0 j = zM 0 j := fun j x2 x3 x4 x5 x6 x7 x8 x9 xa xb => (w0 j x7 x8 x9 xa xb).trans ((kx_f_ne _ _ x2).trans (fm.2 j x3 x4 x5 x6))
    obtain ⟨⟨-, -, -, hLw⟩, ⟨-, -, hC⟩, -, hG⟩ := h
    obtain ⟨W', hW', eW⟩ := kx_natOf (m := 20) (by omega) (kx_rgI (lo := 0) (hi := 20) (hr.1 0 (by omega)) (by decide) (by decide))
    obtain ⟨B', hB', eB⟩ := kx_natOf (m := 60) (by omega) (kx_rgI (lo := 0) (hi := 60) (hr.1 1 (by omega)) (by decide) (by decide))
    have z29 : ∀ i, i < 40 → zk2 29 i = 0 := fun i hi => by rw [fk2 29 (by omega), fk 29 (by omega) (by omega)]; exact hLw.1 i hi
    have eN : kw_vk zk2 27 = kw_vm w' 16 0 := by
      have e1 : kc zk2 27 = fun k w => if k < 8 ∧ w < 13 then w' 16 (0 + (13 * k + kw_sg w)) else 0 := by
        funext k w
        rw [hk2.2.2.2.2.1 k w]
        by_cases hkw : k < 8 ∧ w < 13
        · rw [if_pos hkw, Nat.zero_add, w16.1 k hkw.1 (kw_sg w) (kw_sg_lt hkw.2), kx_row_mr _ _ hkw.2]
        · rw [if_neg hkw]
          by_cases hkn : k < q.2.1
          · rw [if_pos hkn]
            have := hm.1.2
            exact kx_row_13 _ _ (by omega)
          · exact if_neg hkn
      refine Prod.ext e1 (Prod.ext ?_ (Prod.ext ?_ (Prod.ext ?_ ?_)))
      · show (fun i => if i < 40 then zk2 29 i else 0) = fun i => if i < 40 then w' 16 (0 + 107 + i) else 0
        funext i
        by_cases hi : i < 40
        · rw [if_pos hi, if_pos hi, z29 i hi, w16.2 _ (by omega) (by omega)]
        · rw [if_neg hi, if_neg hi]
      · exact hk2.1.2.1.trans (w16.2 106 (by omega) (by omega)).symm
      · exact hk2.1.2.2.1.trans (w16.2 104 (by omega) (by omega)).symm
      · exact hk2.1.2.2.2.trans (w16.2 105 (by omega) (by omega)).symm
    refine kw_A1 (r := Int32.ofNat q.2.1) (n := q.2.1) (B := B') (W := W') (zK' := z') (zM' := w') ?_ ?_ ?_
    · refine ⟨⟨⟨0, by omega, ?_, ?_, fun i hi => absurd hi (Nat.not_lt_zero _)⟩, ⟨q.2.2.1, hm.2.1.2, ?_, w25, fun i hi => ?_⟩, ⟨⟨?_, w24, hm.1.2⟩, fun j hj => ?_, ⟨?_, hB'⟩, ⟨hW', ?_⟩, ?_, ?_⟩, kx_RL_f hLw (fun c a b => kc' c (by omega) (by omega) (by omega) (by omega) (by omega) (by omega) (by omega)) ⟨m0' 13 (by omega) (by omega) (by omega) (by omega) (by omega) (by omega) (by omega) (by omega) (by omega) (by omega), m0' 27 (by omega) (by omega) (by omega) (by omega) (by omega) (by omega) (by omega) (by omega) (by omega) (by omega), m0' 28 (by omega) (by omega) (by omega) (by omega) (by omega) (by omega) (by omega) (by omega) (by omega) (by omega)⟩ (fun c a b => mc' c (by omega) (by omega))⟩, ⟨⟨a36.trans eN, by rw [a36]; exact kx_SV0 hk2 hr hs eW hW'⟩, ⟨a09.trans w42.symm, Or.inl a09⟩, ?_⟩, ⟨0, by omega, ⟨a167, w40⟩, fun i hi => absurd hi (Nat.not_lt_zero _)⟩, ?_⟩
      · rw [g' 1 (by omega) (by omega) (by omega) (by omega) (by omega), ek2, kv_zs]
        exact if_pos rfl
      · rw [w0 2 (by omega) (by omega) (by omega) (by omega) (by omega), kx_f_at]
        rfl
      · rw [a3 5 (by omega)]
        exact hk2.2.2.1.1
      · obtain ⟨b4, b5, b6⟩ := a4 i (by have := hm.2.1.2; omega)
        obtain ⟨c4, c5, c6⟩ := hk2.2.2.2.2.2 i hi
        have hA := hm.2.2.2.2 i hi
        have v0 := hA 0 (by omega)
        have v1 := hA 1 (by omega)
        have v2 := hA 2 (by omega)
        have h6 := hm.2.1.2
        have x0 := w15 (3 * i) (by omega)
        have x1 := w15 (3 * i + 1) (by omega)
        have x2 := w15 (3 * i + 2) (by omega)
        rw [kx_f_fr _ _ _ (by omega)] at x0 x1 x2
        refine ⟨⟨?_, ?_, ?_⟩, ?_⟩
        · rw [b4, c4, x0]
          exact v0.symm
        · rw [b5, c5, x1]
          exact v1.symm
        · rw [b6, c6, x2]
          exact v2.symm
        · rw [b6, c6]
          exact kx_rgI (hr.2.2 i hi 2 (by omega)) (by decide) (by decide)
      · rw [a3 4 (by omega)]
        exact hk2.2.1.1
      · rw [a3 j (by omega), hk2.2.2.2.1 j hj, w14 j hj, kx_f_fr _ _ _ (by omega)]
        exact (hm.2.2.1 j hj).symm
      · rw [a3 1 (by omega), hk2.2.2.2.1 1 (by omega)]
        exact eB
      · rw [a3 0 (by omega), hk2.2.2.2.1 0 (by omega)]
        exact eW
      · rw [a3 3 (by omega), hk2.2.2.2.1 3 (by omega)]
        exact kx_rgI (hr.1 3 (by omega)) (by decide) (by decide)
      · rw [a3 2 (by omega), hk2.2.2.2.1 2 (by omega)]
        exact kx_rgI (hr.1 2 (by omega)) (by decide) (by decide)
      · obtain ⟨q', p, ⟨c1, c2⟩, ⟨c3, c4, c5⟩, c6⟩ := hC
        refine ⟨0, p, ⟨by omega, c2⟩, ⟨a452, w33, ?_⟩, fun i hi => absurd hi (Nat.not_lt_zero _)⟩
        rw [a451, fk2 45 (by omega), fk 45 (by omega) (by omega)]
        exact c5
      · refine kw_RG_fr hG ?_ (m0' 29 (by omega) (by omega) (by omega) (by omega) (by omega) (by omega) (by omega) (by omega) (by omega) (by omega))
        rw [a0 13 (by omega), fk2 0 (by omega), fk 0 (by omega) (by omega)]
    · have h4 : zk2 23 4 = Int32.ofNat q.2.1 := hk2.2.1.1
      rw [h4] at r'
      simp only [kv_e85_0, kv_e85_1, kv_e85_4, kv_e85_5, kv_e85_8, kv_e85_11, kv_e85_14, kv_e85_15, kv_e85_18, kv_e85_19, kv_e85_22, kv_e85_23, kv_e85_26, kv_e85_27, kv_e85_28, kv_e85_29, kv_e85_32, kv_e85_33, kv_e85_36, kv_e85_39, kv_e85_41, kv_e85_44, kv_e85_45, kv_e85_48, kv_e85_51, kv_e85_54, kv_e85_55, kv_e85_58, kv_e85_59, kv_e85_62, kv_e85_63, kv_e85_66, kv_e85_67, kv_e85_70, kv_e85_73, kv_e85_76, kv_e85_77, kv_e85_78, kv_o10, not_false_eq_true, not_true, if_true, if_false, kv_then_s, kv_then_v, kv_then_n, List.cons_append, List.nil_append, kv_Ci, kv_Cr, kv_Cn, kv_Cu, kv_C0, kv_catc, kv_gCi, kv_gCl, kv_gCr, kv_nb0, kv_nb1, kv_nbi, kv_nb01, Nat.reduceAdd, Nat.reduceLeDiff, rk, show ((1 : Int32) = 0) = False from by decide, ← ek2, r']
    · simp only [kv_e192_0, kv_e192_1, kv_e192_4, kv_e192_5, kv_e192_8, kv_e192_9, kv_e192_12, kv_e192_13, kv_e192_14, kv_e192_17, kv_e192_18, kv_e192_21, kv_e192_22, kv_e192_23, kv_e192_24, kv_e192_27, kv_e192_28, kv_e192_31, kv_e192_33, kv_e192_36, kv_e192_37, kv_e192_38, kv_e192_41, kv_e192_44, kv_e192_45, kv_e192_48, kv_e192_49, kv_e192_50, kv_e192_53, kv_e192_54, kv_e192_55, kv_e192_58, kv_e192_59, kv_e192_60, kv_e192_63, kv_e192_64, kv_e192_67, kv_e192_68, kv_e192_69, kv_e192_70, kv_e192_71, kv_o10, not_false_eq_true, not_true, if_true, if_false, kv_then_s, kv_then_v, kv_then_n, List.cons_append, List.nil_append, kv_Ci, kv_Cr, kv_Cn, kv_Cu, kv_C0, kv_catc, kv_gCi, kv_gCl, kv_gCr, kv_nb0, kv_nb1, kv_nbi, kv_nb01, Nat.reduceAdd, Nat.reduceLeDiff, rm, kx_fd, s']
  · rw [if_neg qo] at rk rm
    have hR : kw_R n B W zk zm := kx_R_fld h fk ck t1 fm
    have hp : (Int32.ofNat (kx_FL T L).2.1 = -1) = False := kw_of_m1 (Nat.lt_of_le_of_lt (Nat.le_trans (kx_fl_W 240 0 kx_q0 (Nat.zero_le _)) hL) (by decide))
    refine kw_A1 (r := -1) hR ?_ ?_
    · simp only [kv_e85_0, kv_e85_1, kv_e85_4, kv_e85_5, kv_e85_8, kv_e85_11, kv_e85_14, kv_e85_15, kv_e85_18, kv_e85_19, kv_e85_22, kv_e85_23, kv_e85_26, kv_e85_27, kv_e85_28, kv_e85_29, kv_e85_32, kv_e85_33, kv_e85_36, kv_e85_39, kv_e85_41, kv_e85_44, kv_e85_45, kv_e85_48, kv_e85_51, kv_e85_54, kv_e85_55, kv_e85_58, kv_e85_59, kv_e85_62, kv_e85_63, kv_e85_66, kv_e85_67, kv_e85_70, kv_e85_73, kv_e85_76, kv_e85_77, kv_e85_78, kv_o10, not_false_eq_true, not_true, if_true, if_false, kv_then_s, kv_then_v, kv_then_n, List.cons_append, List.nil_append, kv_Ci, kv_Cr, kv_Cn, kv_Cu, kv_C0, kv_catc, kv_gCi, kv_gCl, kv_gCr, kv_nb0, kv_nb1, kv_nbi, kv_nb01, Nat.reduceAdd, Nat.reduceLeDiff, rk, show ((0 : Int32) = 1) = False from by decide, show ((1 : Int32) = 0) = False from by decide]
    · simp only [kv_e192_0, kv_e192_1, kv_e192_4, kv_e192_5, kv_e192_8, kv_e192_9, kv_e192_12, kv_e192_13, kv_e192_14, kv_e192_17, kv_e192_18, kv_e192_21, kv_e192_22, kv_e192_23, kv_e192_24, kv_e192_27, kv_e192_28, kv_e192_31, kv_e192_33, kv_e192_36, kv_e192_37, kv_e192_38, kv_e192_41, kv_e192_44, kv_e192_45, kv_e192_48, kv_e192_49, kv_e192_50, kv_e192_53, kv_e192_54, kv_e192_55, kv_e192_58, kv_e192_59, kv_e192_60, kv_e192_63, kv_e192_64, kv_e192_67, kv_e192_68, kv_e192_69, kv_e192_70, kv_e192_71, kv_o10, not_false_eq_true, not_true, if_true, if_false, kv_then_s, kv_then_v, kv_then_n, List.cons_append, List.nil_append, kv_Ci, kv_Cr, kv_Cn, kv_Cu, kv_C0, kv_catc, kv_gCi, kv_gCl, kv_gCr, kv_nb0, kv_nb1, kv_nbi, kv_nb01, Nat.reduceAdd, Nat.reduceLeDiff, rm, hp, show ((0 : Int32) = 1) = False from by decide, show ((1 : Int32) = 0) = False from by decide]
end
