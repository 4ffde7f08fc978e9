/-! talked: both -/
section
variable {d n B W : Nat} {e : List kv_E} {z zK zM zK' zM' : Nat → Nat → Int32} {zl zlM : Nat → Nat → Int64}
def kw_fw (b : Option Nat) (m : Nat) : Prop := match b with
  | none => True
  | some j => kw_bc (Int32.ofNat m) < kw_bc (Int32.ofNat j)
noncomputable def kw_tk (S C : Nat → Prop) : Nat → Option Nat
  | 0 => none
  | m + 1 => @ite _ (S m ∧ kw_fw (kw_tk S C m) m ∧ C m) (Classical.propDecidable _) (some m) (kw_tk S C m)
theorem kw_tk_1 {S C : Nat → Prop} {m : Nat} (h : S m ∧ kw_fw (kw_tk S C m) m ∧ C m) : kw_tk S C (m + 1) = some m := if_pos h
theorem kw_tk_0 {S C : Nat → Prop} {m : Nat} (h : ¬ (S m ∧ kw_fw (kw_tk S C m) m ∧ C m)) : kw_tk S C (m + 1) = kw_tk S C m := if_neg h
theorem kw_tk_lt {S C : Nat → Prop} : ∀ {m j : Nat}, kw_tk S C m = some j → j < m := by
  intro m
  induction m with
  | zero => intro j h; cases h
  | succ m ih =>
    intro j h
    by_cases q : S m ∧ kw_fw (kw_tk S C m) m ∧ C m
    · rw [kw_tk_1 q] at h
      cases h
      omega
    · rw [kw_tk_0 q] at h
      have := ih h
      omega
theorem kw_tk_ext {S C : Nat → Prop} {m : Nat} (h : ∀ i, m ≤ i → ¬ S i) : ∀ q, kw_tk S C (m + q) = kw_tk S C m := by
  intro q
  induction q with
  | zero => rfl
  | succ q ih => exact (kw_tk_0 (fun r => h (m + q) (by omega) r.1)).trans ih
theorem kw_fw_K {b : Option Nat} {m : Nat} (hb : ∀ j, b = some j → j < 2147483648) : ((kw_ob (-1) b = -1) = (b = none)) ∧ (∀ j, b = some j → (kw_bc (Int32.ofNat j) ≤ kw_bc (Int32.ofNat m)) = ¬ kw_fw b m) := by
  cases b with
  | none => exact ⟨propext ⟨fun _ => rfl, fun _ => rfl⟩, fun j hj => by cases hj⟩
  | some j =>
    refine ⟨propext ⟨fun q => ?_, fun q => by cases q⟩, fun i hi => ?_⟩
    · have : (Int32.ofNat j = -1) = False := kw_of_m1 (hb j rfl)
      exact (this ▸ (show Int32.ofNat j = -1 from q) : False).elim
    · cases hi
      exact propext ⟨fun q r => Int32.not_le.mpr (show kw_bc (Int32.ofNat m) < kw_bc (Int32.ofNat j) from r) q, fun q => Int32.not_lt.mp (fun r => q r)⟩
theorem kw_f_talked (h : kw_R n B W zK zM) : kw_A (d + 12) 117 253 [some (.ref 0), none, none, none, none] [some (.ref 0), none, none, none, none] zK zM zl zlM := by
  have hKK := kw_R_KK h
  have hI := kw_R_I h
  have h8 := hI.1.1.1.2
  have h01 := hI.1.1.2
  have ek := kw_R_km h.2.1.1
  have hF := h.1.2.2.1
  have emj : zK 3 2 = zM 14 2 := hF.2.1 2 (by omega)
  have hmj : kw_rg (zM 14 2) 0 99 := by rw [← emj]; exact hF.2.2.2.2.2
  have ez : (zM 0 24 = 0) = (n = 0) := by
    rw [hF.1.2.1, show (0 : Int32) = Int32.ofNat 0 from rfl, kv_neq (by omega) (by omega)]
  obtain ⟨em, M, m1, m2, m3, m4, m5⟩ := kw_R_min h
  by_cases c : n = 0
  · replace c := eq_true c
    refine kw_A0 (r := -1) h ?_ ?_
    · simp only [kv_e117_0, kv_e117_1, kv_e117_4, kv_e117_7, kv_e117_8, kv_e117_9, kv_e117_10, kv_e117_13, kv_e117_14, kv_e117_17, kv_e117_20, kv_e117_21, kv_e117_24, kv_e117_25, kv_e117_28, kv_e117_31, kv_e117_32, kv_e117_33, kv_e117_34, kv_e117_35, kv_e117_37, kv_e117_40, kv_e117_43, kv_e117_44, kv_e117_45, kv_e117_48, kv_e117_49, kv_e117_52, kv_e117_53, kv_e117_56, kv_e117_59, kv_e117_60, kv_e117_63, kv_e117_64, kv_e117_66, kv_e117_67, kv_e117_68, kv_e117_69, kv_e117_70, kv_e117_71, kv_e117_74, kv_e117_76, kv_e117_79, kv_e117_80, kv_e117_81, kv_e117_84, kv_e117_87, kv_e117_88, kv_e117_89, kv_e117_92, kv_e117_95, kv_e117_96, kv_o10, not_false_eq_true, not_true, if_true, if_false, kv_then_s, kv_then_v, kv_then_n, List.cons_append, List.nil_append, kv_Ci, kv_Cr, kv_Cn, kv_Cu, kv_C0, kv_catc, kv_gCi, kv_gCl, kv_gCr, kv_nb0, kv_nb1, kv_nbi, kv_nb01, Nat.reduceAdd, Nat.reduceLeDiff, kw_KhF h, c, eq_self]
    · simp only [kv_e253_0, kv_e253_1, kv_e253_4, kv_e253_7, kv_e253_8, kv_e253_9, kv_e253_10, kv_e253_13, kv_e253_14, kv_e253_15, kv_e253_16, kv_e253_17, kv_e253_20, kv_e253_21, kv_e253_23, kv_e253_24, kv_e253_25, kv_e253_28, kv_e253_29, kv_e253_32, kv_e253_33, kv_e253_34, kv_e253_35, kv_e253_36, kv_e253_37, kv_e253_40, kv_e253_41, kv_e253_42, kv_e253_45, kv_e253_46, kv_e253_49, kv_e253_50, kv_e253_53, kv_e253_56, kv_e253_57, kv_e253_61, kv_e253_62, kv_e253_65, kv_e253_68, kv_e253_69, kv_e253_71, kv_e253_72, kv_e253_73, kv_e253_75, kv_e253_78, kv_e253_81, kv_e253_82, kv_e253_85, kv_e253_86, kv_e253_88, kv_e253_89, kv_e253_92, kv_e253_95, kv_e253_98, kv_e253_101, kv_e253_102, kv_e253_105, kv_e253_106, kv_e253_107, kv_e253_110, kv_e253_111, kv_e253_114, kv_e253_115, kv_e253_118, kv_e253_119, kv_e253_120, kv_e253_121, kv_e253_124, kv_e253_127, kv_e253_130, kv_e253_131, kv_o10, not_false_eq_true, not_true, if_true, if_false, kv_then_s, kv_then_v, kv_then_n, List.cons_append, List.nil_append, kv_Ci, kv_Cr, kv_Cn, kv_Cu, kv_C0, kv_catc, kv_gCi, kv_gCl, kv_gCr, kv_nb0, kv_nb1, kv_nbi, kv_nb01, Nat.reduceAdd, Nat.reduceLeDiff, ez, c, eq_self]
  · generalize hcB : kw_Fl zK zM B M (fun _ => -1) (km zM) = cB
    have okB : kw_okc cB := by rw [← hcB]; exact kw_Fl_ok h hI.2.2.2.1
    have B01 : kw_01 n cB := by rw [← hcB]; exact kw_fly_01 _ _ _ _ h01
    generalize hS : (fun m => m < 256 ∧ kw_sub (km zM) m) = S
    have hSm : ∀ m, S m = (m < 256 ∧ kw_sub (km zM) m) := fun m => (congrFun hS m).symm
    generalize hC : (fun m => zM 14 2 * kw_bo cB (kw_bm m) n < kw_ye cB (kw_bm m) n * 100) = C
    have hCm : ∀ m, C m = (zM 14 2 * kw_bo cB (kw_bm m) n < kw_ye cB (kw_bm m) n * 100) := fun m => (congrFun hC m).symm
    have l256 : ((256 : Int32) ≤ Int32.ofNat 256) = True := by decide
    have lm : ∀ {m : Nat}, m < 256 → ((256 : Int32) ≤ Int32.ofNat m) = False := fun {m} hm => kv_ln_ (m := 256) hm (by omega)
    have hp := (kw_pow h8).2
    have tn : kw_tk S C 256 = kw_tk S C (2 ^ n) := by
      have := kw_tk_ext (S := S) (C := C) (m := 2 ^ n) (fun i hi q => by
        rw [hSm] at q
        have := kw_sub_n h01 q.1 q.2
        omega) (256 - 2 ^ n)
      rw [show 2 ^ n + (256 - 2 ^ n) = 256 from by omega] at this
      exact this
    obtain ⟨t1, t2, t3⟩ := kw_trial h m3
    obtain ⟨z1, r1, x1, k1, b1⟩ := kw_flyK (d := d + 5) (e := []) (zl := zl) h m3 m1 t1 t2 t3
    rw [hcB] at k1
    obtain ⟨hK1, ek1, e31, e361⟩ := kw_XK_KK h x1
    have hfl : kw_fs (km zM) = kv_bs 8 (fun i => decide (¬ km zM i 11 = 0)) := rfl
    have e31' : z1 3 2 = zM 14 2 := by rw [e31]; exact emj
    have car : ∀ {m}, m < 256 → kv_Rn (d + 11) 118 0 [some (.ref 0), some (.int (Int32.ofNat m)), none, none, none, none, none] [] (kv_h [] z1 zl) = some (some (.int (@ite _ (C m) (Classical.propDecidable _) 1 0)), kv_h [] z1 zl) := fun {m} hm => by
      have := kw_carK (d := d + 9) (e := []) (zl := zl) hK1.1.1 h8 k1 (kw_bm m)
      rw [← kw_bs_bm hm, e31'] at this
      rw [this]
      by_cases q : C m
      · rw [if_pos q, if_pos (by rw [← hCm]; exact q)]
      · rw [if_neg q, if_neg (by rw [← hCm]; exact q)]
    have hlK := kv_up (fun m => ∀ u4, kv_Rn (d + 12) 117 36 [some (.ref 0), some (.int (kv_bs 8 (fun i => decide (¬ km zM i 11 = 0)))), some (.int (kw_ob (-1) (kw_tk S C m))), some (.int (Int32.ofNat m)), u4] [] (kv_h [] z1 zl) = some (some (.int (kw_ob (-1) (kw_tk S C 256))), kv_h [] z1 zl)) 256 ?_ ?_
    · have hlM := kv_up (fun m => ∀ z u4, kw_J zM z → ∃ z', kv_Rn (d + 12) 253 22 [some (.ref 0), some (.int (kv_bs 8 (fun i => decide (¬ km zM i 11 = 0)))), some (.int (kw_ob (-1) (kw_tk S C m))), some (.int (Int32.ofNat m)), u4] [] (kv_m z zlM) = some (some (.int (kw_ob (-1) (kw_tk S C (2 ^ n)))), kv_m z' zlM) ∧ kw_XM zM z') (2 ^ n) ?_ ?_
      · obtain ⟨y1, s1, j1⟩ := kw_aside (d := d + 10) (zM := zM) (zlM := zlM)
        obtain ⟨z2, r2, x2⟩ := hlM y1 none j1
        rw [← tn] at r2
        refine kw_A2 (r := kw_ob (-1) (kw_tk S C 256)) h ?_ ?_ x1 x2
        · simp only [kv_e117_0, kv_e117_1, kv_e117_4, kv_e117_9, kv_e117_10, kv_e117_13, kv_e117_14, kv_e117_17, kv_e117_20, kv_e117_21, kv_e117_24, kv_e117_25, kv_e117_28, kv_e117_31, kv_e117_32, kv_e117_33, kv_e117_34, kv_e117_35, kv_o10, not_false_eq_true, not_true, if_true, if_false, kv_then_s, kv_then_v, kv_then_n, List.cons_append, List.nil_append, kv_Ci, kv_Cr, kv_Cn, kv_Cu, kv_C0, kv_catc, kv_gCi, kv_gCl, kv_gCr, kv_nb0, kv_nb1, kv_nbi, kv_nb01, Nat.reduceAdd, Nat.reduceLeDiff, kw_KhF h, c, eq_self, kv_isS36, kv_isS39, kv_copyS, r1, kv_flyers, ek1]
          exact hlK none
        · simp only [kv_e253_0, kv_e253_1, kv_e253_4, kv_e253_9, kv_e253_10, kv_e253_13, kv_e253_14, kv_e253_15, kv_e253_16, kv_e253_17, kv_e253_20, kv_e253_21, kv_o10, not_false_eq_true, not_true, if_true, if_false, kv_then_s, kv_then_v, kv_then_n, List.cons_append, List.nil_append, kv_Ci, kv_Cr, kv_Cn, kv_Cu, kv_C0, kv_catc, kv_gCi, kv_gCl, kv_gCr, kv_nb0, kv_nb1, kv_nbi, kv_nb01, Nat.reduceAdd, Nat.reduceLeDiff, ez, c, kw_flying hI.1.1, hfl, s1]
          exact r2
      · intro z u4 hj
        refine ⟨z, ?_, hj.1⟩
        have e0 : z 0 24 = Int32.ofNat n := by rw [hj.1 0 (by omega) (by omega) (by omega) (by omega) (by omega) (by omega)]; exact hI.1.1.1.1
        rw [kv_e253_22]
        simp only [kv_e253_23, kv_e253_24, kv_e253_25, kv_e253_28, kv_e253_29, kv_e253_130, kv_e253_131, kv_o10, not_false_eq_true, not_true, if_true, if_false, kv_then_s, kv_then_v, kv_then_n, List.cons_append, List.nil_append, kv_Ci, kv_Cr, kv_Cn, kv_Cu, kv_C0, kv_catc, kv_gCi, kv_gCl, kv_gCr, kv_nb0, kv_nb1, kv_nbi, kv_nb01, Nat.reduceAdd, Nat.reduceLeDiff, e0, (kw_pow h8).1, Int32.le_refl]
      · intro m hm ih z u4 hj
        have hm2 : m < 256 := by omega
        have e0 : z 0 24 = Int32.ofNat n := by rw [hj.1 0 (by omega) (by omega) (by omega) (by omega) (by omega) (by omega)]; exact hI.1.1.1.1
        have q1 : (Int32.ofNat (2 ^ n) ≤ Int32.ofNat m) = False := kv_ln_ hm (by omega)
        have sM := kw_sub_M (km zM) hm2
        obtain ⟨fw1, fw2⟩ := kw_fw_K (b := kw_tk S C m) (m := m) (fun j hj => by have := kw_tk_lt hj; omega)
        by_cases a1 : kw_sub (km zM) m
        · have a1S : S m := by rw [hSm]; exact ⟨hm2, a1⟩
          -- the flight with the opinions
          have fly : ∀ u4, ∃ y3, (kv_Rn (d + 12) 253 56 [some (.ref 0), some (.int (kv_bs 8 (fun i => decide (¬ km zM i 11 = 0)))), some (.int (kw_ob (-1) (kw_tk S C m))), some (.int (Int32.ofNat m)), u4] [] (kv_m z zlM) = kv_Rn (d + 12) 253 124 [some (.ref 0), some (.int (kv_bs 8 (fun i => decide (¬ km zM i 11 = 0)))), some (.int (@ite _ (C m) (Classical.propDecidable _) (Int32.ofNat m) (kw_ob (-1) (kw_tk S C m)))), some (.int (Int32.ofNat m)), some (.int (Int32.ofNat n))] [] (kv_m y3 zlM)) ∧ kw_J zM y3 := by
            intro u4
            obtain ⟨y1, s1, Z1, k1', t1', d1⟩ := kw_mtalk (d := d + 9) (zlM := zlM) h hm2 (some (.int (kv_bs 8 (fun i => decide (¬ km zM i 11 = 0))))) (some (.int (kw_ob (-1) (kw_tk S C m)))) u4 rfl rfl hj
            have av5 : kw_av 5 (km zM) (kw_op5 (kw_bm m) n (km zM)) := fun k w hw => if_neg (fun q => hw q.1)
            have o01 : kw_01 n (kw_op5 (kw_bm m) n (km zM)) := fun k => by rw [av5 k 11 (by omega)]; exact h01 k
            have ook : kw_okc (kw_op5 (kw_bm m) n (km zM)) := fun k => kw_okr_pt (hI.2.2.2.1 k) (fun w hw => av5 k w (by omega))
            obtain ⟨y2, s2, j2, k2, I2, b2, mo⟩ := kw_flyM (d := d + 3) (zlM := zlM) (dl := fun _ => -1) h m1 Z1 k1' (by rw [t1', ← em, m3]) (fun i hi => d1 i (by omega)) o01 ook
            obtain ⟨y3, s3, j3⟩ := kw_backM (d := d + 10) (zlM := zlM) j2
            refine ⟨y3, ?_, j3⟩
            have e14 : y2 14 2 = zM 14 2 := by rw [j2.1 14 (by omega) (by omega) (by omega) (by omega) (by omega) (by omega) (by omega)]
            have hres : (kv_rs (zM 14 2) (kw_Fl zK zM B M (fun _ => -1) (kw_op5 (kw_bm m) n (km zM))) = 1) = C m := by
              rw [hCm]
              refine kw_car B01 h8 okB hmj ?_ (fun i hi => ?_)
              · rw [← hcB]
                exact kw_av_fly5 _ _ _ _ _ av5
              · rw [← hcB]
                have g1 : kw_Fl zK zM B M (fun _ => -1) (kw_op5 (kw_bm m) n (km zM)) i 5 = kw_op5 (kw_bm m) n (km zM) i 5 := kw_fly_w (by omega) i _ _ _ _
                have g2 : kw_Fl zK zM B M (fun _ => -1) (km zM) i 5 = km zM i 5 := kw_fly_w (by omega) i _ _ _ _
                rw [g1, g2]
                unfold kw_op5
                by_cases q : kw_bm m i = true
                · rw [if_pos q, if_pos ⟨rfl, hi, q⟩]
                · rw [if_neg q, if_neg (fun s => q s.2.2)]
            rw [s1]
            by_cases qc : C m
            · rw [if_pos qc]
              simp only [kv_e253_101, kv_e253_102, kv_e253_105, kv_e253_106, kv_e253_107, kv_e253_110, kv_e253_111, kv_e253_114, kv_e253_115, kv_e253_119, kv_e253_120, kv_e253_121, kv_o10, not_false_eq_true, not_true, if_true, if_false, kv_then_s, kv_then_v, kv_then_n, List.cons_append, List.nil_append, kv_Ci, kv_Cr, kv_Cn, kv_Cu, kv_C0, kv_catc, kv_gCi, kv_gCl, kv_gCr, kv_nb0, kv_nb1, kv_nbi, kv_nb01, Nat.reduceAdd, Nat.reduceLeDiff, s2, kw_resultNow I2.1.1, k2, e14, hres, qc, s3]
            · rw [if_neg qc]
              simp only [kv_e253_101, kv_e253_102, kv_e253_105, kv_e253_106, kv_e253_107, kv_e253_110, kv_e253_111, kv_e253_118, kv_e253_119, kv_e253_120, kv_e253_121, kv_o10, not_false_eq_true, not_true, if_true, if_false, kv_then_s, kv_then_v, kv_then_n, List.cons_append, List.nil_append, kv_Ci, kv_Cr, kv_Cn, kv_Cu, kv_C0, kv_catc, kv_gCi, kv_gCl, kv_gCr, kv_nb0, kv_nb1, kv_nbi, kv_nb01, Nat.reduceAdd, Nat.reduceLeDiff, s2, kw_resultNow I2.1.1, k2, e14, hres, qc, s3]
          by_cases a2 : kw_fw (kw_tk S C m) m
          · obtain ⟨y3, s3, j3⟩ := fly u4
            have nx : kw_ob (-1) (kw_tk S C (m + 1)) = @ite _ (C m) (Classical.propDecidable _) (Int32.ofNat m) (kw_ob (-1) (kw_tk S C m)) := by
              by_cases qc : C m
              · rw [if_pos qc, kw_tk_1 ⟨a1S, a2, qc⟩]
                rfl
              · rw [if_neg qc, kw_tk_0 (fun r => qc r.2.2)]
            obtain ⟨z', r', x'⟩ := ih y3 (some (.int (Int32.ofNat n))) j3
            refine ⟨z', ?_, x'⟩
            rw [nx] at r'
            rw [← r', kv_e253_22]
            cases hb : kw_tk S C m with
            | none =>
              rw [hb] at s3
              have s3' : kv_Rn (d + 12) 253 56 [some (.ref 0), some (.int (kv_bs 8 (fun i => decide (¬ km zM i 11 = 0)))), some (.int (-1)), some (.int (Int32.ofNat m)), u4] [] (kv_m z zlM) = _ := s3
              simp only [kv_e253_23, kv_e253_24, kv_e253_25, kv_e253_28, kv_e253_29, kv_e253_32, kv_e253_33, kv_e253_34, kv_e253_35, kv_e253_36, kv_e253_37, kv_e253_40, kv_e253_41, kv_e253_42, kv_e253_124, kv_e253_127, kv_o10, not_false_eq_true, not_true, if_true, if_false, kv_then_s, kv_then_v, kv_then_n, List.cons_append, List.nil_append, kv_Ci, kv_Cr, kv_Cn, kv_Cu, kv_C0, kv_catc, kv_gCi, kv_gCl, kv_gCr, kv_nb0, kv_nb1, kv_nbi, kv_nb01, Nat.reduceAdd, Nat.reduceLeDiff, e0, (kw_pow h8).1, q1, sM, a1, kw_ob, eq_self, s3', kv_suc]
            | some j =>
              rw [hb] at s3 fw1 a2
              have f2 := fw2 j hb
              rw [hb] at f2
              have s3' : kv_Rn (d + 12) 253 56 [some (.ref 0), some (.int (kv_bs 8 (fun i => decide (¬ km zM i 11 = 0)))), some (.int (Int32.ofNat j)), some (.int (Int32.ofNat m)), u4] [] (kv_m z zlM) = _ := s3
              have jm : (Int32.ofNat j = -1) = False := kw_of_m1 (by have := kw_tk_lt hb; omega)
              simp only [kv_e253_23, kv_e253_24, kv_e253_25, kv_e253_28, kv_e253_29, kv_e253_32, kv_e253_33, kv_e253_34, kv_e253_35, kv_e253_36, kv_e253_37, kv_e253_40, kv_e253_41, kv_e253_42, kv_e253_45, kv_e253_46, kv_e253_49, kv_e253_50, kv_e253_53, kv_e253_124, kv_e253_127, kv_o10, not_false_eq_true, not_true, if_true, if_false, kv_then_s, kv_then_v, kv_then_n, List.cons_append, List.nil_append, kv_Ci, kv_Cr, kv_Cn, kv_Cu, kv_C0, kv_catc, kv_gCi, kv_gCl, kv_gCr, kv_nb0, kv_nb1, kv_nbi, kv_nb01, Nat.reduceAdd, Nat.reduceLeDiff, e0, (kw_pow h8).1, q1, sM, a1, kw_ob, eq_self, jm, kw_bitCount, f2, a2, s3', kv_suc]
          · have nx : kw_tk S C (m + 1) = kw_tk S C m := kw_tk_0 (fun r => a2 r.2.1)
            obtain ⟨z', r', x'⟩ := ih z u4 hj
            refine ⟨z', ?_, x'⟩
            rw [nx] at r'
            rw [← r', kv_e253_22]
            cases hb : kw_tk S C m with
            | none => rw [hb] at a2; exact absurd trivial a2
            | some j =>
              have f2 := fw2 j hb
              rw [hb] at f2 a2
              have jm : (Int32.ofNat j = -1) = False := kw_of_m1 (by have := kw_tk_lt hb; omega)
              simp only [kv_e253_23, kv_e253_24, kv_e253_25, kv_e253_28, kv_e253_29, kv_e253_32, kv_e253_33, kv_e253_34, kv_e253_35, kv_e253_36, kv_e253_37, kv_e253_40, kv_e253_41, kv_e253_42, kv_e253_45, kv_e253_46, kv_e253_49, kv_e253_50, kv_e253_53, kv_e253_124, kv_e253_127, kv_o10, not_false_eq_true, not_true, if_true, if_false, kv_then_s, kv_then_v, kv_then_n, List.cons_append, List.nil_append, kv_Ci, kv_Cr, kv_Cn, kv_Cu, kv_C0, kv_catc, kv_gCi, kv_gCl, kv_gCr, kv_nb0, kv_nb1, kv_nbi, kv_nb01, Nat.reduceAdd, Nat.reduceLeDiff, e0, (kw_pow h8).1, q1, sM, a1, kw_ob, eq_self, jm, kw_bitCount, f2, a2, kv_suc]
        · have nx : kw_tk S C (m + 1) = kw_tk S C m := kw_tk_0 (fun r => a1 (by have := r.1; rw [hSm] at this; exact this.2))
          obtain ⟨z', r', x'⟩ := ih z u4 hj
          refine ⟨z', ?_, x'⟩
          rw [nx] at r'
          rw [← r', kv_e253_22]
          simp only [kv_e253_23, kv_e253_24, kv_e253_25, kv_e253_28, kv_e253_29, kv_e253_32, kv_e253_33, kv_e253_34, kv_e253_35, kv_e253_36, kv_e253_37, kv_e253_124, kv_e253_127, kv_o10, not_false_eq_true, not_true, if_true, if_false, kv_then_s, kv_then_v, kv_then_n, List.cons_append, List.nil_append, kv_Ci, kv_Cr, kv_Cn, kv_Cu, kv_C0, kv_catc, kv_gCi, kv_gCl, kv_gCr, kv_nb0, kv_nb1, kv_nbi, kv_nb01, Nat.reduceAdd, Nat.reduceLeDiff, e0, (kw_pow h8).1, q1, sM, a1, kv_suc]
    · intro u4
      rw [kv_e117_36]
      simp only [kv_e117_0, kv_e117_1, kv_e117_4, kv_e117_7, kv_e117_8, kv_e117_9, kv_e117_10, kv_e117_13, kv_e117_14, kv_e117_17, kv_e117_20, kv_e117_21, kv_e117_24, kv_e117_25, kv_e117_28, kv_e117_31, kv_e117_32, kv_e117_33, kv_e117_34, kv_e117_35, kv_e117_37, kv_e117_40, kv_e117_43, kv_e117_44, kv_e117_45, kv_e117_48, kv_e117_49, kv_e117_52, kv_e117_53, kv_e117_56, kv_e117_59, kv_e117_60, kv_e117_63, kv_e117_64, kv_e117_66, kv_e117_67, kv_e117_68, kv_e117_69, kv_e117_70, kv_e117_71, kv_e117_74, kv_e117_76, kv_e117_79, kv_e117_80, kv_e117_81, kv_e117_84, kv_e117_87, kv_e117_88, kv_e117_89, kv_e117_92, kv_e117_95, kv_e117_96, kv_o10, not_false_eq_true, not_true, if_true, if_false, kv_then_s, kv_then_v, kv_then_n, List.cons_append, List.nil_append, kv_Ci, kv_Cr, kv_Cn, kv_Cu, kv_C0, kv_catc, kv_gCi, kv_gCl, kv_gCr, kv_nb0, kv_nb1, kv_nbi, kv_nb01, Nat.reduceAdd, Nat.reduceLeDiff, l256]
    · intro m hm ih u4
      have sM := kw_sub_M (km zM) hm
      obtain ⟨fw1, fw2⟩ := kw_fw_K (b := kw_tk S C m) (m := m) (fun j hj => by have := kw_tk_lt hj; omega)
      rw [kv_e117_36]
      have fin : ∀ (fw : Int32), (fw = 0) = (¬ kw_fw (kw_tk S C m) m) → kv_Rn (d + 12) 117 66 [some (.ref 0), some (.int (kv_bs 8 (fun i => decide (¬ km zM i 11 = 0)))), some (.int (kw_ob (-1) (kw_tk S C m))), some (.int (Int32.ofNat m)), some (.int fw)] [] (kv_h [] z1 zl) = some (some (.int (kw_ob (-1) (kw_tk S C 256))), kv_h [] z1 zl) := by
        intro fw hfw
        rw [← ih (some (.int fw))]
        by_cases a1 : kw_sub (km zM) m
        · have a1S : S m := by rw [hSm]; exact ⟨hm, a1⟩
          by_cases a2 : kw_fw (kw_tk S C m) m
          · by_cases qc : C m
            · rw [kw_tk_1 ⟨a1S, a2, qc⟩]
              simp only [kv_e117_0, kv_e117_1, kv_e117_4, kv_e117_7, kv_e117_8, kv_e117_9, kv_e117_10, kv_e117_13, kv_e117_14, kv_e117_17, kv_e117_20, kv_e117_21, kv_e117_24, kv_e117_25, kv_e117_28, kv_e117_31, kv_e117_32, kv_e117_33, kv_e117_34, kv_e117_35, kv_e117_37, kv_e117_40, kv_e117_43, kv_e117_44, kv_e117_45, kv_e117_48, kv_e117_49, kv_e117_52, kv_e117_53, kv_e117_56, kv_e117_59, kv_e117_60, kv_e117_63, kv_e117_64, kv_e117_66, kv_e117_67, kv_e117_68, kv_e117_69, kv_e117_70, kv_e117_71, kv_e117_74, kv_e117_76, kv_e117_79, kv_e117_80, kv_e117_81, kv_e117_84, kv_e117_87, kv_e117_88, kv_e117_89, kv_e117_92, kv_e117_95, kv_e117_96, kv_o10, not_false_eq_true, not_true, if_true, if_false, kv_then_s, kv_then_v, kv_then_n, List.cons_append, List.nil_append, kv_Ci, kv_Cr, kv_Cn, kv_Cu, kv_C0, kv_catc, kv_gCi, kv_gCl, kv_gCr, kv_nb0, kv_nb1, kv_nbi, kv_nb01, Nat.reduceAdd, Nat.reduceLeDiff, sM, a1, hfw, a2, car hm, qc, kv_suc, kw_ob]
            · rw [kw_tk_0 (fun r => qc r.2.2)]
              simp only [kv_e117_0, kv_e117_1, kv_e117_4, kv_e117_7, kv_e117_8, kv_e117_9, kv_e117_10, kv_e117_13, kv_e117_14, kv_e117_17, kv_e117_20, kv_e117_21, kv_e117_24, kv_e117_25, kv_e117_28, kv_e117_31, kv_e117_32, kv_e117_33, kv_e117_34, kv_e117_35, kv_e117_37, kv_e117_40, kv_e117_43, kv_e117_44, kv_e117_45, kv_e117_48, kv_e117_49, kv_e117_52, kv_e117_53, kv_e117_56, kv_e117_59, kv_e117_60, kv_e117_63, kv_e117_64, kv_e117_66, kv_e117_67, kv_e117_68, kv_e117_69, kv_e117_70, kv_e117_71, kv_e117_74, kv_e117_76, kv_e117_79, kv_e117_80, kv_e117_81, kv_e117_84, kv_e117_87, kv_e117_88, kv_e117_89, kv_e117_92, kv_e117_95, kv_e117_96, kv_o10, not_false_eq_true, not_true, if_true, if_false, kv_then_s, kv_then_v, kv_then_n, List.cons_append, List.nil_append, kv_Ci, kv_Cr, kv_Cn, kv_Cu, kv_C0, kv_catc, kv_gCi, kv_gCl, kv_gCr, kv_nb0, kv_nb1, kv_nbi, kv_nb01, Nat.reduceAdd, Nat.reduceLeDiff, sM, a1, hfw, a2, car hm, qc, eq_self, kv_suc]
          · rw [kw_tk_0 (fun r => a2 r.2.1)]
            simp only [kv_e117_0, kv_e117_1, kv_e117_4, kv_e117_7, kv_e117_8, kv_e117_9, kv_e117_10, kv_e117_13, kv_e117_14, kv_e117_17, kv_e117_20, kv_e117_21, kv_e117_24, kv_e117_25, kv_e117_28, kv_e117_31, kv_e117_32, kv_e117_33, kv_e117_34, kv_e117_35, kv_e117_37, kv_e117_40, kv_e117_43, kv_e117_44, kv_e117_45, kv_e117_48, kv_e117_49, kv_e117_52, kv_e117_53, kv_e117_56, kv_e117_59, kv_e117_60, kv_e117_63, kv_e117_64, kv_e117_66, kv_e117_67, kv_e117_68, kv_e117_69, kv_e117_70, kv_e117_71, kv_e117_74, kv_e117_76, kv_e117_79, kv_e117_80, kv_e117_81, kv_e117_84, kv_e117_87, kv_e117_88, kv_e117_89, kv_e117_92, kv_e117_95, kv_e117_96, kv_o10, not_false_eq_true, not_true, if_true, if_false, kv_then_s, kv_then_v, kv_then_n, List.cons_append, List.nil_append, kv_Ci, kv_Cr, kv_Cn, kv_Cu, kv_C0, kv_catc, kv_gCi, kv_gCl, kv_gCr, kv_nb0, kv_nb1, kv_nbi, kv_nb01, Nat.reduceAdd, Nat.reduceLeDiff, sM, a1, hfw, a2, kv_suc]
        · rw [kw_tk_0 (fun r => a1 (by have := r.1; rw [hSm] at this; exact this.2))]
          simp only [kv_e117_0, kv_e117_1, kv_e117_4, kv_e117_7, kv_e117_8, kv_e117_9, kv_e117_10, kv_e117_13, kv_e117_14, kv_e117_17, kv_e117_20, kv_e117_21, kv_e117_24, kv_e117_25, kv_e117_28, kv_e117_31, kv_e117_32, kv_e117_33, kv_e117_34, kv_e117_35, kv_e117_37, kv_e117_40, kv_e117_43, kv_e117_44, kv_e117_45, kv_e117_48, kv_e117_49, kv_e117_52, kv_e117_53, kv_e117_56, kv_e117_59, kv_e117_60, kv_e117_63, kv_e117_64, kv_e117_66, kv_e117_67, kv_e117_68, kv_e117_69, kv_e117_70, kv_e117_71, kv_e117_74, kv_e117_76, kv_e117_79, kv_e117_80, kv_e117_81, kv_e117_84, kv_e117_87, kv_e117_88, kv_e117_89, kv_e117_92, kv_e117_95, kv_e117_96, kv_o10, not_false_eq_true, not_true, if_true, if_false, kv_then_s, kv_then_v, kv_then_n, List.cons_append, List.nil_append, kv_Ci, kv_Cr, kv_Cn, kv_Cu, kv_C0, kv_catc, kv_gCi, kv_gCl, kv_gCr, kv_nb0, kv_nb1, kv_nbi, kv_nb01, Nat.reduceAdd, Nat.reduceLeDiff, sM, a1, kv_suc]
      cases hb : kw_tk S C m with
      | none =>
        rw [hb] at fin
        have fin' := fin 1 (by rw [kv_o10]; exact propext ⟨False.elim, fun q => q trivial⟩)
        simp only [kv_e117_37, kv_e117_40, kv_e117_43, kv_e117_44, kv_e117_45, kv_e117_59, kv_e117_60, kv_e117_64, kv_o10, not_false_eq_true, not_true, if_true, if_false, kv_then_s, kv_then_v, kv_then_n, List.cons_append, List.nil_append, kv_Ci, kv_Cr, kv_Cn, kv_Cu, kv_C0, kv_catc, kv_gCi, kv_gCl, kv_gCr, kv_nb0, kv_nb1, kv_nbi, kv_nb01, Nat.reduceAdd, Nat.reduceLeDiff, lm hm, kw_ob, eq_self]
        exact fin'
      | some j =>
        have f2 := fw2 j hb
        rw [hb] at f2 fin
        have jm : (Int32.ofNat j = -1) = False := kw_of_m1 (by have := kw_tk_lt hb; omega)
        by_cases a2 : kw_fw (some j) m
        · have fin' := fin 1 (by rw [kv_o10]; exact propext ⟨False.elim, fun q => q a2⟩)
          simp only [kv_e117_37, kv_e117_40, kv_e117_43, kv_e117_44, kv_e117_45, kv_e117_48, kv_e117_49, kv_e117_52, kv_e117_53, kv_e117_56, kv_e117_59, kv_e117_60, kv_e117_64, kv_o10, not_false_eq_true, not_true, if_true, if_false, kv_then_s, kv_then_v, kv_then_n, List.cons_append, List.nil_append, kv_Ci, kv_Cr, kv_Cn, kv_Cu, kv_C0, kv_catc, kv_gCi, kv_gCl, kv_gCr, kv_nb0, kv_nb1, kv_nbi, kv_nb01, Nat.reduceAdd, Nat.reduceLeDiff, lm hm, kw_ob, jm, kw_bitCount, f2, a2]
          exact fin'
        · have fin' := fin 0 (by rw [eq_true (rfl : (0 : Int32) = 0)]; exact propext ⟨fun _ => a2, fun _ => trivial⟩)
          simp only [kv_e117_37, kv_e117_40, kv_e117_43, kv_e117_44, kv_e117_45, kv_e117_48, kv_e117_49, kv_e117_52, kv_e117_53, kv_e117_56, kv_e117_63, kv_e117_64, kv_o10, not_false_eq_true, not_true, if_true, if_false, kv_then_s, kv_then_v, kv_then_n, List.cons_append, List.nil_append, kv_Ci, kv_Cr, kv_Cn, kv_Cu, kv_C0, kv_catc, kv_gCi, kv_gCl, kv_gCr, kv_nb0, kv_nb1, kv_nbi, kv_nb01, Nat.reduceAdd, Nat.reduceLeDiff, lm hm, kw_ob, jm, kw_bitCount, f2, a2]
          exact fin'
end
