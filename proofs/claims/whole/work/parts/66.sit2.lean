/-! sit, asked -/
section
variable {d n B W : Nat} {e : List kv_E} {z zK zM zK' zM' : Nat → Nat → Int32} {zl zlM : Nat → Nat → Int64}
def kw_sb (z : Nat → Nat → Int32) (nb : Nat) (r : Int32) : Nat → Nat → Int32 := kv_z z 16 (upd (upd (upd (upd (z 16) (107 + nb) r) 106 (Int32.ofNat (nb + 1))) 105 (if r = 2 then z 16 105 else r)) 104 0)
theorem kw_sb_km (z : Nat → Nat → Int32) (nb : Nat) (r : Int32) : km (kw_sb z nb r) = km z := by
  funext k w
  unfold km
  by_cases h : k < 8 ∧ w < 13
  · rw [if_pos h, if_pos h]
    have s1 := kw_sg_lt h.2
    unfold kw_sb
    rw [kv_zs]
    unfold upd
    rw [if_neg (by omega), if_neg (by omega), if_neg (by omega), if_neg (by omega)]
  · rw [if_neg h, if_neg h]
theorem kw_msit_l (hK : kw_K n z) (r : Int32) (zl : Nat → Nat → Int64) : ∃ z', kv_Rn (d + 12) 233 97 [some (.ref 0), some (.int r), some (.int (Int32.ofNat 0))] [] (kv_m z zl) = some (some (.int r), kv_m z' zl) ∧ (∀ c, c ≠ 16 → z' c = z c) ∧ (∀ i, 104 ≤ i → z' 16 i = z 16 i) ∧ km z' = kw_w0 n (km z) := by
  have h8 := hK.1.2
  have hl := kv_up (fun k => ∀ z1, (∀ c, c ≠ 16 → z1 c = z c) → (∀ i, 104 ≤ i → z1 16 i = z 16 i) → km z1 = kw_w0 k (km z) → ∃ z', kv_Rn (d + 12) 233 97 [some (.ref 0), some (.int r), some (.int (Int32.ofNat k))] [] (kv_m z1 zl) = some (some (.int r), kv_m z' zl) ∧ (∀ c, c ≠ 16 → z' c = z c) ∧ (∀ i, 104 ≤ i → z' 16 i = z 16 i) ∧ km z' = kw_w0 n (km z)) n ?_ ?_
  · exact hl z (fun _ _ => rfl) (fun _ _ => rfl) (by funext k w; unfold kw_w0; rw [if_neg (by omega)])
  · intro z1 h1 h2 h3
    refine ⟨z1, ?_, h1, h2, h3⟩
    have e24 : z1 0 24 = Int32.ofNat n := by rw [h1 0 (by omega)]; exact hK.1.1
    rw [kv_e233_97]
    simp only [kv_e233_98, kv_e233_99, kv_e233_102, kv_e233_119, kv_e233_120, kv_o10, not_false_eq_true, not_true, if_true, if_false, kv_then_s, kv_then_v, kv_then_n, List.cons_append, List.nil_append, kv_Ci, kv_Cr, kv_Cn, kv_Cu, kv_C0, kv_catc, kv_gCi, kv_gCl, kv_gCr, kv_nb0, kv_nb1, kv_nbi, kv_nb01, Nat.reduceAdd, Nat.reduceLeDiff, e24, kw_ln2 h8 (show n < 2147483648 by omega), Nat.le_refl]
  · intro k hk ih z1 h1 h2 h3
    have hk8 : k < 8 := by omega
    have e24 : z1 0 24 = Int32.ofNat n := by rw [h1 0 (by omega)]; exact hK.1.1
    obtain ⟨z', r1, r2⟩ := ih (kw_mu z1 k 12 0) (fun c hc => (kw_mu_fr _ _ _ _ hc).trans (h1 c hc)) (fun i hi => ((kw_N_mu (z := z1) (v := 0) hk8 (show 12 < 13 by omega)).2 i hi).trans (h2 i hi)) (by rw [kw_mu_km _ hk8 (by omega), h3, kw_w0_s])
    refine ⟨z', ?_, r2⟩
    rw [← r1, kv_e233_97]
    simp only [kv_e233_98, kv_e233_99, kv_e233_102, kv_e233_105, kv_e233_106, kv_e233_107, kv_e233_109, kv_e233_110, kv_e233_113, kv_e233_116, kv_o10, not_false_eq_true, not_true, if_true, if_false, kv_then_s, kv_then_v, kv_then_n, List.cons_append, List.nil_append, kv_Ci, kv_Cr, kv_Cn, kv_Cu, kv_C0, kv_catc, kv_gCi, kv_gCl, kv_gCr, kv_nb0, kv_nb1, kv_nbi, kv_nb01, Nat.reduceAdd, Nat.reduceLeDiff, e24, kw_ln2 h8 (show k < 2147483648 by omega), eq_false (show ¬ n ≤ k by omega), kw_put12 hk8, kv_suc]
theorem kw_f_sit (h : kw_R n B W zK zM) : kw_A (d + 12) 103 233 [some (.ref 0), none] [some (.ref 0), none, none] zK zM zl zlM := by
  have hI := kw_R_I h
  have h8 := hI.1.1.1.2
  have hF := h.1.2.2.1
  have ez : (zM 0 24 = 0) = (n = 0) := by
    rw [hF.1.2.1, show (0 : Int32) = Int32.ofNat 0 from rfl, kv_neq (by omega) (by omega)]
  obtain ⟨em, M, m1, m2, m3, m4, m5⟩ := kw_R_min h
  have el : Int32.ofNat B - Int32.ofNat M = Int32.ofNat (B - M) := by
    have := @kw_subN M (B - M)
    rw [show M + (B - M) = B from by omega] at this
    exact this
  have em2 : zM 16 104 = Int32.ofNat M := by rw [← em, m3]
  obtain ⟨s1, s2⟩ := kw_R_sv h
  obtain ⟨nb, b1, b2⟩ := s1.2.2.1
  have b3 : zM 16 106 = Int32.ofNat nb := b2
  have b4 : zK 36 2 = Int32.ofNat nb := (congrArg (fun v : kw_V => v.2.2.1) s2).trans b2
  by_cases c : n = 0
  · replace c := eq_true c
    refine kw_A0 (r := -1) h ?_ ?_
    · simp only [kv_e103_0, kv_e103_1, kv_e103_4, kv_e103_7, kv_e103_8, kv_e103_11, kv_e103_14, kv_e103_15, kv_e103_18, kv_e103_21, kv_e103_23, kv_e103_26, kv_e103_27, kv_e103_28, kv_e103_29, kv_e103_32, kv_e103_33, kv_e103_36, kv_e103_39, kv_e103_40, kv_e103_43, kv_e103_44, kv_e103_47, kv_e103_50, kv_e103_51, kv_e103_52, kv_e103_55, kv_e103_56, kv_e103_59, kv_e103_60, kv_o10, not_false_eq_true, not_true, if_true, if_false, kv_then_s, kv_then_v, kv_then_n, List.cons_append, List.nil_append, kv_Ci, kv_Cr, kv_Cn, kv_Cu, kv_C0, kv_catc, kv_gCi, kv_gCl, kv_gCr, kv_nb0, kv_nb1, kv_nbi, kv_nb01, Nat.reduceAdd, Nat.reduceLeDiff, kw_KhF h, c, eq_self]
    · simp only [kv_e233_0, kv_e233_1, kv_e233_4, kv_e233_7, kv_e233_8, kv_e233_11, kv_e233_14, kv_e233_15, kv_e233_18, kv_e233_20, kv_e233_21, kv_e233_23, kv_e233_26, kv_e233_27, kv_e233_28, kv_e233_29, kv_e233_32, kv_e233_33, kv_e233_36, kv_e233_37, kv_e233_38, kv_e233_41, kv_e233_43, kv_e233_44, kv_e233_47, kv_e233_49, kv_e233_50, kv_e233_51, kv_e233_52, kv_e233_53, kv_e233_54, kv_e233_57, kv_e233_59, kv_e233_60, kv_e233_61, kv_e233_62, kv_e233_63, kv_e233_64, kv_e233_65, kv_e233_68, kv_e233_70, kv_e233_71, kv_e233_72, kv_e233_75, kv_e233_76, kv_e233_79, kv_e233_81, kv_e233_82, kv_e233_85, kv_e233_86, kv_e233_87, kv_e233_88, kv_e233_91, kv_e233_93, kv_e233_94, kv_e233_95, kv_e233_96, kv_e233_98, kv_e233_99, kv_e233_102, kv_e233_105, kv_e233_106, kv_e233_107, kv_e233_109, kv_e233_110, kv_e233_113, kv_e233_116, kv_e233_119, kv_e233_120, kv_o10, not_false_eq_true, not_true, if_true, if_false, kv_then_s, kv_then_v, kv_then_n, List.cons_append, List.nil_append, kv_Ci, kv_Cr, kv_Cn, kv_Cu, kv_C0, kv_catc, kv_gCi, kv_gCl, kv_gCr, kv_nb0, kv_nb1, kv_nbi, kv_nb01, Nat.reduceAdd, Nat.reduceLeDiff, ez, c]
  · by_cases c1 : M = B
    · subst c1
      have e0 : (0 < Int32.ofNat (M - M)) = False := by rw [Nat.sub_self]; decide
      by_cases c2 : nb = 40
      · subst c2
        refine kw_A0 (r := -1) h ?_ ?_
        · simp only [kv_e103_0, kv_e103_1, kv_e103_4, kv_e103_7, kv_e103_8, kv_e103_11, kv_e103_14, kv_e103_15, kv_e103_18, kv_e103_21, kv_e103_23, kv_e103_26, kv_e103_27, kv_e103_28, kv_e103_29, kv_e103_32, kv_e103_33, kv_e103_36, kv_e103_39, kv_e103_40, kv_e103_43, kv_e103_44, kv_e103_47, kv_e103_50, kv_e103_51, kv_e103_52, kv_e103_55, kv_e103_56, kv_e103_59, kv_e103_60, kv_o10, not_false_eq_true, not_true, if_true, if_false, kv_then_s, kv_then_v, kv_then_n, List.cons_append, List.nil_append, kv_Ci, kv_Cr, kv_Cn, kv_Cu, kv_C0, kv_catc, kv_gCi, kv_gCl, kv_gCr, kv_nb0, kv_nb1, kv_nbi, kv_nb01, Nat.reduceAdd, Nat.reduceLeDiff, kw_KhF h, c, eq_self, kw_left, m4, m3, el, e0, kv_isS36, b4, show (Int32.ofNat 40 < 40) = False from by decide]
        · simp only [kv_e233_0, kv_e233_1, kv_e233_4, kv_e233_7, kv_e233_8, kv_e233_11, kv_e233_14, kv_e233_15, kv_e233_18, kv_e233_20, kv_e233_21, kv_e233_23, kv_e233_26, kv_e233_27, kv_e233_28, kv_e233_29, kv_e233_32, kv_e233_33, kv_e233_36, kv_e233_37, kv_e233_38, kv_e233_41, kv_e233_43, kv_e233_44, kv_e233_47, kv_e233_49, kv_e233_50, kv_e233_51, kv_e233_52, kv_e233_53, kv_e233_54, kv_e233_57, kv_e233_59, kv_e233_60, kv_e233_61, kv_e233_62, kv_e233_63, kv_e233_64, kv_e233_65, kv_e233_68, kv_e233_70, kv_e233_71, kv_e233_72, kv_e233_75, kv_e233_76, kv_e233_79, kv_e233_81, kv_e233_82, kv_e233_85, kv_e233_86, kv_e233_87, kv_e233_88, kv_e233_91, kv_e233_93, kv_e233_94, kv_e233_95, kv_e233_96, kv_e233_98, kv_e233_99, kv_e233_102, kv_e233_105, kv_e233_106, kv_e233_107, kv_e233_109, kv_e233_110, kv_e233_113, kv_e233_116, kv_e233_119, kv_e233_120, kv_o10, not_false_eq_true, not_true, if_true, if_false, kv_then_s, kv_then_v, kv_then_n, List.cons_append, List.nil_append, kv_Ci, kv_Cr, kv_Cn, kv_Cu, kv_C0, kv_catc, kv_gCi, kv_gCl, kv_gCr, kv_nb0, kv_nb1, kv_nbi, kv_nb01, Nat.reduceAdd, Nat.reduceLeDiff, ez, c, kw_mleft, m5, em2, el, e0, kv_ar_lt (show 16 < 300 by omega), kv_rd_lt (show 16 < 300 by omega), kv_am16, kw_l106, kw_t106, or_self, b3, show (Int32.ofNat 40 = 40) = True from by decide]
      · have hb : nb < 40 := by omega
        have q1 : (Int32.ofNat nb < 40) = True := by rw [show (40 : Int32) = Int32.ofNat 40 from rfl, kv_nlt (by omega) (by omega)]; exact eq_true hb
        have q2 : (Int32.ofNat nb = 40) = False := by rw [show (40 : Int32) = Int32.ofNat 40 from rfl, kv_neq (by omega) (by omega)]; exact eq_false c2
        obtain ⟨zK1, zM1, ⟨r1, r2⟩, R1, k1, n1, n0⟩ := kw_keepR (d := d + 9) (dM := d + 11) (e := []) (zl := zl) (zlM := zlM) h
        have e16 : zM1 16 = zM 16 := n1 16 (by omega) (by omega)
        have ekm : km zM1 = km zM := kw_km_fr e16
        have ek1 : kc zK1 36 = km zM1 := kw_R_km R1.2.1.1
        have I1 := kw_R_I R1
        have e3 : zK1 3 2 = zM1 14 2 := R1.1.2.2.1.2.1 2 (by omega)
        obtain ⟨t1, t2⟩ := kw_R_sv R1
        generalize hr : kv_rs (zM1 14 2) (km zM1) = r
        have hrK : kv_rs (zK1 3 2) (kc zK1 36) = r := by rw [e3, ek1]; exact hr
        obtain ⟨zK2, r3, f3, v3⟩ := kw_putBy (d := d + 10) (e := []) (z := zK1) (zl := zl) hb (by rw [k1 36 (by omega)]; exact b4) r
        have Kb : kw_K n (kw_sb zM1 nb r) := ⟨by unfold kw_sb; rw [kv_zne _ _ (by omega)]; exact I1.1.1.1, by rw [kw_sb_km]; exact I1.1.1.2⟩
        obtain ⟨zM2, r4, f4, g4, v4⟩ := kw_msit_l (d := d) Kb r zlM
        have rs1 := @kv_resultOf (d + 8) 36 [] zK1 zl (kv_isS36 [])
        rw [hrK] at rs1
        have rs2 := kw_resultNow (d := d + 7) (zl := zlM) I1.1.1
        rw [hr] at rs2
        have nb2 : 107 + nb < 2147483648 := by omega
        have vm2 : kw_vm zM2 16 0 = (kw_w0 n (km zM1), (fun i => if i = nb then r else (kw_vm zM1 16 0).2.1 i), Int32.ofNat (nb + 1), 0, if r = 2 then zM1 16 105 else r) := by
          refine Prod.ext ?_ (Prod.ext ?_ (Prod.ext ?_ (Prod.ext ?_ ?_)))
          · rw [kw_vm_km, v4, kw_sb_km]
          · funext i
            show (if i < 40 then zM2 16 (0 + 107 + i) else 0) = if i = nb then r else (if i < 40 then zM1 16 (0 + 107 + i) else 0)
            rw [g4 _ (by omega)]
            unfold kw_sb
            rw [kv_zs]
            unfold upd
            by_cases h1 : i = nb
            · subst h1
              rw [if_pos hb, if_pos rfl, if_neg (by omega), if_neg (by omega), if_neg (by omega), if_pos (by omega)]
            · rw [if_neg h1, if_neg (show ¬ 0 + 107 + i = 104 by omega), if_neg (show ¬ 0 + 107 + i = 105 by omega), if_neg (show ¬ 0 + 107 + i = 106 by omega), if_neg (show ¬ 0 + 107 + i = 107 + nb by omega)]
          · show zM2 16 (0 + 106) = _
            rw [g4 _ (by omega)]
            unfold kw_sb
            rw [kv_zs]
            rfl
          · show zM2 16 (0 + 104) = _
            rw [g4 _ (by omega)]
            unfold kw_sb
            rw [kv_zs]
            rfl
          · show zM2 16 (0 + 105) = _
            rw [g4 _ (by omega)]
            unfold kw_sb
            rw [kv_zs]
            rfl
        obtain ⟨⟨p1, p2⟩, p3, p4, p5, p6⟩ := t1
        have w08 : kw_w0 8 (km zM1) = kw_w0 n (km zM1) := by
          funext k w
          unfold kw_w0
          by_cases h1 : k < n ∧ w = 12
          · rw [if_pos (by omega), if_pos h1]
          · rw [if_neg h1]
            by_cases h2 : k < 8 ∧ w = 12
            · rw [if_pos h2, h2.2]
              have := (p5 k).2 (by omega)
              rw [kw_vm_km] at this
              exact this.symm
            · rw [if_neg h2]
        have vk2 : kw_vk zK2 36 = kw_vm zM2 16 0 := by
          rw [v3, vm2, ek1, w08, t2]
          have e105 : zK1 36 4 = zM1 16 105 := congrArg (fun v : kw_V => v.2.2.2.2) t2
          rw [e105]
        refine kw_A1 (r := r) (zK' := zK2) (zM' := zM2) (kw_R_now R1 f3 (fun c hc => (f4 c hc).trans (kv_zne _ _ hc)) ⟨vk2, ?_⟩) ?_ ?_
        · rw [vk2, vm2]
          have w12 : ∀ k w, w ≠ 12 → kw_w0 n (km zM1) k w = (kw_vm zM1 16 0).1 k w := fun k w hw => by
            rw [kw_vm_km]
            exact if_neg (by omega)
          refine ⟨⟨fun k => kw_okr_pt (p1 k) (fun w hw => w12 k w (by omega)), fun k => ?_⟩, ⟨0, by omega, rfl⟩, ⟨nb + 1, by omega, rfl⟩, fun k => ?_, fun k hk => ?_⟩
          · show (kw_w0 n (km zM1) k 11 = 0 ∨ kw_w0 n (km zM1) k 11 = 1) ∧ (n ≤ k → kw_w0 n (km zM1) k 11 = 0)
            rw [w12 k 11 (by omega)]
            exact p2 k
          · show (kw_w0 n (km zM1) k 12 = 0 ∨ kw_w0 n (km zM1) k 12 = 1) ∧ (n ≤ k → kw_w0 n (km zM1) k 12 = 0)
            have := p5 k
            rw [kw_vm_km] at this
            unfold kw_w0
            by_cases h1 : k < n
            · rw [if_pos ⟨h1, rfl⟩]
              exact ⟨Or.inl rfl, fun _ => rfl⟩
            · rw [if_neg (fun q => h1 q.1)]
              exact this
          · have hk' : ¬ kw_w0 n (km zM1) k 11 = 0 := hk
            rw [w12 k 11 (by omega)] at hk'
            show ∃ p, p < W ∧ kw_w0 n (km zM1) k 0 = Int32.ofNat p
            rw [w12 k 0 (by omega)]
            exact p6 k hk'
        · simp only [kv_e103_0, kv_e103_1, kv_e103_4, kv_e103_7, kv_e103_8, kv_e103_11, kv_e103_14, kv_e103_15, kv_e103_18, kv_e103_21, kv_e103_23, kv_e103_26, kv_e103_27, kv_e103_28, kv_e103_29, kv_e103_32, kv_e103_33, kv_e103_36, kv_e103_39, kv_e103_40, kv_e103_43, kv_e103_44, kv_e103_47, kv_e103_50, kv_e103_51, kv_e103_52, kv_e103_55, kv_e103_56, kv_e103_59, kv_e103_60, kv_o10, not_false_eq_true, not_true, if_true, if_false, kv_then_s, kv_then_v, kv_then_n, List.cons_append, List.nil_append, kv_Ci, kv_Cr, kv_Cn, kv_Cu, kv_C0, kv_catc, kv_gCi, kv_gCl, kv_gCr, kv_nb0, kv_nb1, kv_nbi, kv_nb01, Nat.reduceAdd, Nat.reduceLeDiff, kw_KhF h, c, eq_self, kw_left, m4, m3, el, e0, kv_isS36, b4, q1, r1, rs1, r3]
        · rw [← r4]
          have z16 : ∀ f, kv_z zM1 16 f 16 = f := fun f => kv_zs _ _ _
          have b5 : zM1 16 106 = Int32.ofNat nb := by rw [e16]; exact b3
          have a107 : (107 : Int32) + Int32.ofNat nb = Int32.ofNat (107 + nb) := by rw [show (107 : Int32) = Int32.ofNat 107 from rfl, kw_addN]
          have u1 : upd (zM1 16) (107 + nb) r 106 = Int32.ofNat nb := by
            unfold upd
            rw [if_neg (by omega)]
            exact b5
          have u2 : upd (upd (zM1 16) (107 + nb) r) 106 (Int32.ofNat (nb + 1)) 105 = zM1 16 105 := by
            unfold upd
            rw [if_neg (by omega), if_neg (by omega)]
          have zz : ∀ (f g : Nat → Int32), kv_z (kv_z zM1 16 f) 16 g = kv_z zM1 16 g := fun f g => kw_zz zM1 16 f g
          unfold kw_sb
          by_cases c5 : r = 2
          · subst c5
            simp only [kv_e233_0, kv_e233_1, kv_e233_4, kv_e233_7, kv_e233_8, kv_e233_11, kv_e233_14, kv_e233_15, kv_e233_18, kv_e233_20, kv_e233_21, kv_e233_23, kv_e233_28, kv_e233_29, kv_e233_32, kv_e233_33, kv_e233_36, kv_e233_37, kv_e233_38, kv_e233_41, kv_e233_43, kv_e233_44, kv_e233_47, kv_e233_49, kv_e233_50, kv_e233_51, kv_e233_52, kv_e233_53, kv_e233_54, kv_e233_57, kv_e233_59, kv_e233_60, kv_e233_61, kv_e233_62, kv_e233_63, kv_e233_64, kv_e233_65, kv_e233_68, kv_e233_70, kv_e233_71, kv_e233_72, kv_e233_75, kv_e233_76, kv_e233_79, kv_e233_81, kv_e233_82, kv_e233_86, kv_e233_87, kv_e233_88, kv_e233_91, kv_e233_93, kv_e233_94, kv_e233_95, kv_e233_96, kv_o10, not_false_eq_true, not_true, if_true, if_false, kv_then_s, kv_then_v, kv_then_n, List.cons_append, List.nil_append, kv_Ci, kv_Cr, kv_Cn, kv_Cu, kv_C0, kv_catc, kv_gCi, kv_gCl, kv_gCr, kv_nb0, kv_nb1, kv_nbi, kv_nb01, Nat.reduceAdd, Nat.reduceLeDiff, ez, c, kw_mleft, m5, em2, el, e0, kv_ar_lt (show 16 < 300 by omega), kv_rd_lt (show 16 < 300 by omega), kv_am16, kw_l106, kw_t106, kw_l105, kw_t105, kv_l104, kv_t104, or_self, b3, q2, r2, rs2, b5, a107, kw_n0 nb2, kv_tn nb2, kv_lN (show 107 + nb < 147 by omega), z16, u1, u2, kv_suc, zz, eq_self]
            rfl
          · simp only [kv_e233_0, kv_e233_1, kv_e233_4, kv_e233_7, kv_e233_8, kv_e233_11, kv_e233_14, kv_e233_15, kv_e233_18, kv_e233_20, kv_e233_21, kv_e233_23, kv_e233_28, kv_e233_29, kv_e233_32, kv_e233_33, kv_e233_36, kv_e233_37, kv_e233_38, kv_e233_41, kv_e233_43, kv_e233_44, kv_e233_47, kv_e233_49, kv_e233_50, kv_e233_51, kv_e233_52, kv_e233_53, kv_e233_54, kv_e233_57, kv_e233_59, kv_e233_60, kv_e233_61, kv_e233_62, kv_e233_63, kv_e233_64, kv_e233_65, kv_e233_68, kv_e233_70, kv_e233_71, kv_e233_72, kv_e233_85, kv_e233_86, kv_e233_87, kv_e233_88, kv_e233_91, kv_e233_93, kv_e233_94, kv_e233_95, kv_e233_96, kv_o10, not_false_eq_true, not_true, if_true, if_false, kv_then_s, kv_then_v, kv_then_n, List.cons_append, List.nil_append, kv_Ci, kv_Cr, kv_Cn, kv_Cu, kv_C0, kv_catc, kv_gCi, kv_gCl, kv_gCr, kv_nb0, kv_nb1, kv_nbi, kv_nb01, Nat.reduceAdd, Nat.reduceLeDiff, ez, c, kw_mleft, m5, em2, el, e0, kv_ar_lt (show 16 < 300 by omega), kv_rd_lt (show 16 < 300 by omega), kv_am16, kw_l106, kw_t106, kw_l105, kw_t105, kv_l104, kv_t104, or_self, b3, q2, r2, rs2, b5, a107, kw_n0 nb2, kv_tn nb2, kv_lN (show 107 + nb < 147 by omega), z16, u1, kv_suc, zz, c5]
            rfl
    · have e0 : (0 < Int32.ofNat (B - M)) = True := by rw [show (0 : Int32) = Int32.ofNat 0 from rfl, kv_nlt (by omega) (by omega)]; exact eq_true (by omega)
      refine kw_A0 (r := -1) h ?_ ?_
      · simp only [kv_e103_0, kv_e103_1, kv_e103_4, kv_e103_7, kv_e103_8, kv_e103_11, kv_e103_14, kv_e103_15, kv_e103_18, kv_e103_21, kv_e103_23, kv_e103_26, kv_e103_27, kv_e103_28, kv_e103_29, kv_e103_32, kv_e103_33, kv_e103_36, kv_e103_39, kv_e103_40, kv_e103_43, kv_e103_44, kv_e103_47, kv_e103_50, kv_e103_51, kv_e103_52, kv_e103_55, kv_e103_56, kv_e103_59, kv_e103_60, kv_o10, not_false_eq_true, not_true, if_true, if_false, kv_then_s, kv_then_v, kv_then_n, List.cons_append, List.nil_append, kv_Ci, kv_Cr, kv_Cn, kv_Cu, kv_C0, kv_catc, kv_gCi, kv_gCl, kv_gCr, kv_nb0, kv_nb1, kv_nbi, kv_nb01, Nat.reduceAdd, Nat.reduceLeDiff, kw_KhF h, c, eq_self, kw_left, m4, m3, el, e0]
      · simp only [kv_e233_0, kv_e233_1, kv_e233_4, kv_e233_7, kv_e233_8, kv_e233_11, kv_e233_14, kv_e233_15, kv_e233_18, kv_e233_20, kv_e233_21, kv_e233_23, kv_e233_26, kv_e233_27, kv_e233_28, kv_e233_29, kv_e233_32, kv_e233_33, kv_e233_36, kv_e233_37, kv_e233_38, kv_e233_41, kv_e233_43, kv_e233_44, kv_e233_47, kv_e233_49, kv_e233_50, kv_e233_51, kv_e233_52, kv_e233_53, kv_e233_54, kv_e233_57, kv_e233_59, kv_e233_60, kv_e233_61, kv_e233_62, kv_e233_63, kv_e233_64, kv_e233_65, kv_e233_68, kv_e233_70, kv_e233_71, kv_e233_72, kv_e233_75, kv_e233_76, kv_e233_79, kv_e233_81, kv_e233_82, kv_e233_85, kv_e233_86, kv_e233_87, kv_e233_88, kv_e233_91, kv_e233_93, kv_e233_94, kv_e233_95, kv_e233_96, kv_e233_98, kv_e233_99, kv_e233_102, kv_e233_105, kv_e233_106, kv_e233_107, kv_e233_109, kv_e233_110, kv_e233_113, kv_e233_116, kv_e233_119, kv_e233_120, kv_o10, not_false_eq_true, not_true, if_true, if_false, kv_then_s, kv_then_v, kv_then_n, List.cons_append, List.nil_append, kv_Ci, kv_Cr, kv_Cn, kv_Cu, kv_C0, kv_catc, kv_gCi, kv_gCl, kv_gCr, kv_nb0, kv_nb1, kv_nbi, kv_nb01, Nat.reduceAdd, Nat.reduceLeDiff, ez, c, kw_mleft, m5, em2, el, e0]
end
