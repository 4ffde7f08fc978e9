/-! stand -/
section
variable {d n B W : Nat} {e : List kv_E} {z zK zM zK' zM' : Nat → Nat → Int32} {zl zlM : Nat → Nat → Int64}
theorem kw_fly_ok {fl fw : Option ((Nat → Int32) → Int32)} {wd : Int32 → Int32 → Int32} {pays : Int32} (hp : kw_rg pays 0 9) : ∀ (T : Nat) (m : Int32) (dl : Nat → Int32) (c : Nat → Nat → Int32), kw_okc c → kw_okc (kw_fly fl fw wd pays T m dl c) := by
  intro T
  induction T with
  | zero => intro m dl c h; exact h
  | succ T ih => intro m dl c h; exact ih _ _ _ (kw_passM_ok h hp)
theorem kw_Fl_ok (h : kw_R n B W zK zM) {M : Nat} {dl : Nat → Int32} {c : Nat → Nat → Int32} (hc : kw_okc c) : kw_okc (kw_Fl zK zM B M dl c) := kw_fly_ok (kw_R_I h).2.2.2.2 _ _ _ _ hc
theorem kw_hAB (h : kw_R n B W zK zM) {M : Nat} (hM : M ≤ B) (hz : kw_Z zM z) {c : Nat → Nat → Int32} {dl : Nat → Int32} (hc : km z = c) (hm : z 16 104 = Int32.ofNat M) (hd : ∀ i, i < n → z 17 i = dl i) (h1 : kw_01 n c) (h2 : kw_okc c) {k : Nat} (hk : k < 8) :
    ∃ z', kv_Rn (d + 9) 244 0 [some (.ref 0), some (.int (Int32.ofNat k)), none] [] (kv_m z zlM) = some (some (.int (kw_Fl zK zM B M dl c k 4)), kv_m z' zlM) ∧ kw_J zM z' := by
  obtain ⟨y2, s2, j2, k2, I2, b2, mo⟩ := kw_flyM (d := d) (zlM := zlM) h hM hz hc hm hd h1 h2
  obtain ⟨y3, s3, j3⟩ := kw_backM (d := d + 7) (zlM := zlM) j2
  refine ⟨y3, ?_, j3⟩
  simp only [kv_e244_0, kv_e244_1, kv_e244_4, kv_e244_5, kv_e244_6, kv_e244_7, kv_e244_8, kv_e244_11, kv_e244_12, kv_e244_13, kv_e244_16, kv_e244_17, kv_o10, not_false_eq_true, not_true, if_true, if_false, kv_then_s, kv_then_v, kv_then_n, List.cons_append, List.nil_append, kv_Ci, kv_Cr, kv_Cn, kv_Cu, kv_C0, kv_catc, kv_gCi, kv_gCl, kv_gCr, kv_nb0, kv_nb1, kv_nbi, kv_nb01, Nat.reduceAdd, Nat.reduceLeDiff, s2, kw_of3 hk, k2, s3]
noncomputable def kw_fo (q : Nat → Prop) (v : Nat → Int32) : Nat → Option Nat × Int32
  | 0 => (none, -1)
  | p + 1 => @ite _ (q p ∧ (kw_fo q v p).2 < v p) (Classical.propDecidable _) (some p, v p) (kw_fo q v p)
def kw_ob (x : Int32) : Option Nat → Int32
  | none => x
  | some p => Int32.ofNat p
theorem kw_fo_1 {q : Nat → Prop} {v : Nat → Int32} {p : Nat} (h : q p ∧ (kw_fo q v p).2 < v p) : kw_fo q v (p + 1) = (some p, v p) := if_pos h
theorem kw_fo_0 {q : Nat → Prop} {v : Nat → Int32} {p : Nat} (h : ¬ (q p ∧ (kw_fo q v p).2 < v p)) : kw_fo q v (p + 1) = kw_fo q v p := if_neg h
theorem kw_fo_some {q : Nat → Prop} {v : Nat → Int32} (hv : ∀ p, -1 < v p) : ∀ n, (∃ p, p < n ∧ q p) → ∃ p, (kw_fo q v n).1 = some p := by
  have inv : ∀ n, (kw_fo q v n).1 = none → (kw_fo q v n).2 = -1 := by
    intro n
    induction n with
    | zero => intro _; rfl
    | succ n ih =>
      intro h
      by_cases c : q n ∧ (kw_fo q v n).2 < v n
      · rw [kw_fo_1 c] at h
        cases h
      · rw [kw_fo_0 c] at h ⊢
        exact ih h
  intro n
  induction n with
  | zero => rintro ⟨p, hp, -⟩; omega
  | succ n ih =>
    rintro ⟨p, hp, hq⟩
    by_cases c : q n ∧ (kw_fo q v n).2 < v n
    · rw [kw_fo_1 c]
      exact ⟨n, rfl⟩
    · rw [kw_fo_0 c]
      by_cases hpn : p = n
      · subst hpn
        cases hn : (kw_fo q v p).1 with
        | some x => exact ⟨x, rfl⟩
        | none => exact absurd ⟨hq, by rw [inv p hn]; exact hv p⟩ c
      · exact ih ⟨p, by omega, hq⟩
theorem kw_ob_eq {x y : Int32} {o : Option Nat} (h : ∃ p, o = some p) : kw_ob x o = kw_ob y o := by
  obtain ⟨p, rfl⟩ := h
  rfl
theorem kw_neq2 {a : Nat} {x : Int32} : (Int32.ofNat a = x) = (x = Int32.ofNat a) := propext ⟨Eq.symm, Eq.symm⟩
theorem kw_f_stand (h : kw_R n B W zK zM) (x w : Int32) : kw_A (d + 12) 111 246 [some (.ref 0), some (.int x), some (.int w), none, none, none, none] [some (.ref 0), some (.int x), some (.int w), none, none, none, none] zK zM zl zlM := by
  have hKK := kw_R_KK h
  have hI := kw_R_I h
  have h8 := hI.1.1.1.2
  have ek := kw_R_km h.2.1.1
  have e30 := h.1.2.2.1.2.1 0 (by omega)
  obtain ⟨hW, hw⟩ := h.1.2.2.1.2.2.2.1
  obtain ⟨em, M, m1, m2, m3, m4, m5⟩ := kw_R_min h
  by_cases c0 : x < 0
  · refine kw_A0 (r := -1) h ?_ ?_
    · simp only [kv_e111_0, kv_e111_1, kv_e111_2, kv_e111_5, kv_e111_8, kv_e111_9, kv_e111_10, kv_e111_13, kv_e111_16, kv_e111_17, kv_e111_18, kv_e111_19, kv_e111_20, kv_e111_21, kv_e111_23, kv_e111_24, kv_e111_28, kv_e111_29, kv_e111_32, kv_e111_35, kv_e111_38, kv_e111_40, kv_e111_41, kv_e111_44, kv_e111_45, kv_e111_46, kv_e111_49, kv_e111_52, kv_e111_53, kv_e111_55, kv_e111_58, kv_e111_61, kv_e111_64, kv_e111_65, kv_e111_68, kv_e111_69, kv_e111_72, kv_e111_75, kv_e111_76, kv_e111_79, kv_e111_80, kv_e111_81, kv_e111_83, kv_e111_86, kv_e111_87, kv_e111_90, kv_e111_91, kv_e111_94, kv_e111_95, kv_e111_96, kv_e111_99, kv_e111_101, kv_e111_103, kv_e111_105, kv_e111_108, kv_e111_110, kv_e111_112, kv_e111_114, kv_e111_115, kv_e111_118, kv_e111_121, kv_e111_122, kv_e111_125, kv_e111_126, kv_e111_129, kv_e111_131, kv_o10, not_false_eq_true, not_true, if_true, if_false, kv_then_s, kv_then_v, kv_then_n, List.cons_append, List.nil_append, kv_Ci, kv_Cr, kv_Cn, kv_Cu, kv_C0, kv_catc, kv_gCi, kv_gCl, kv_gCr, kv_nb0, kv_nb1, kv_nbi, kv_nb01, Nat.reduceAdd, Nat.reduceLeDiff, kw_KfliesN c0, eq_self]
    · simp only [kv_e246_0, kv_e246_1, kv_e246_2, kv_e246_5, kv_e246_8, kv_e246_9, kv_e246_10, kv_e246_11, kv_e246_14, kv_e246_17, kv_e246_18, kv_e246_19, kv_e246_20, kv_e246_23, kv_e246_24, kv_e246_25, kv_e246_26, kv_e246_28, kv_e246_29, kv_e246_33, kv_e246_34, kv_e246_37, kv_e246_38, kv_e246_39, kv_e246_42, kv_e246_43, kv_e246_45, kv_e246_48, kv_e246_51, kv_e246_52, kv_e246_53, kv_e246_54, kv_e246_57, kv_e246_59, kv_e246_62, kv_e246_63, kv_e246_64, kv_e246_65, kv_e246_67, kv_e246_70, kv_e246_71, kv_e246_72, kv_e246_75, kv_e246_77, kv_e246_79, kv_e246_81, kv_e246_84, kv_e246_86, kv_e246_89, kv_e246_90, kv_e246_91, kv_e246_93, kv_e246_95, kv_e246_98, kv_e246_100, kv_e246_103, kv_e246_106, kv_e246_107, kv_e246_110, kv_e246_111, kv_e246_114, kv_e246_116, kv_o10, not_false_eq_true, not_true, if_true, if_false, kv_then_s, kv_then_v, kv_then_n, List.cons_append, List.nil_append, kv_Ci, kv_Cr, kv_Cn, kv_Cu, kv_C0, kv_catc, kv_gCi, kv_gCl, kv_gCr, kv_nb0, kv_nb1, kv_nbi, kv_nb01, Nat.reduceAdd, Nat.reduceLeDiff, kw_fliesN c0, eq_self]
  · obtain ⟨k, hk, rfl⟩ := kv_nat (kv_nn0 c0)
    by_cases c1 : km zM k 11 = 0
    · refine kw_A0 (r := -1) h ?_ ?_
      · simp only [kv_e111_0, kv_e111_1, kv_e111_2, kv_e111_5, kv_e111_8, kv_e111_9, kv_e111_10, kv_e111_13, kv_e111_16, kv_e111_17, kv_e111_18, kv_e111_19, kv_e111_20, kv_e111_21, kv_e111_23, kv_e111_24, kv_e111_28, kv_e111_29, kv_e111_32, kv_e111_35, kv_e111_38, kv_e111_40, kv_e111_41, kv_e111_44, kv_e111_45, kv_e111_46, kv_e111_49, kv_e111_52, kv_e111_53, kv_e111_55, kv_e111_58, kv_e111_61, kv_e111_64, kv_e111_65, kv_e111_68, kv_e111_69, kv_e111_72, kv_e111_75, kv_e111_76, kv_e111_79, kv_e111_80, kv_e111_81, kv_e111_83, kv_e111_86, kv_e111_87, kv_e111_90, kv_e111_91, kv_e111_94, kv_e111_95, kv_e111_96, kv_e111_99, kv_e111_101, kv_e111_103, kv_e111_105, kv_e111_108, kv_e111_110, kv_e111_112, kv_e111_114, kv_e111_115, kv_e111_118, kv_e111_121, kv_e111_122, kv_e111_125, kv_e111_126, kv_e111_129, kv_e111_131, kv_o10, not_false_eq_true, not_true, if_true, if_false, kv_then_s, kv_then_v, kv_then_n, List.cons_append, List.nil_append, kv_Ci, kv_Cr, kv_Cn, kv_Cu, kv_C0, kv_catc, kv_gCi, kv_gCl, kv_gCr, kv_nb0, kv_nb1, kv_nbi, kv_nb01, Nat.reduceAdd, Nat.reduceLeDiff, kw_Kflies hKK hk, ek, c1, eq_self]
      · simp only [kv_e246_0, kv_e246_1, kv_e246_2, kv_e246_5, kv_e246_8, kv_e246_9, kv_e246_10, kv_e246_11, kv_e246_14, kv_e246_17, kv_e246_18, kv_e246_19, kv_e246_20, kv_e246_23, kv_e246_24, kv_e246_25, kv_e246_26, kv_e246_28, kv_e246_29, kv_e246_33, kv_e246_34, kv_e246_37, kv_e246_38, kv_e246_39, kv_e246_42, kv_e246_43, kv_e246_45, kv_e246_48, kv_e246_51, kv_e246_52, kv_e246_53, kv_e246_54, kv_e246_57, kv_e246_59, kv_e246_62, kv_e246_63, kv_e246_64, kv_e246_65, kv_e246_67, kv_e246_70, kv_e246_71, kv_e246_72, kv_e246_75, kv_e246_77, kv_e246_79, kv_e246_81, kv_e246_84, kv_e246_86, kv_e246_89, kv_e246_90, kv_e246_91, kv_e246_93, kv_e246_95, kv_e246_98, kv_e246_100, kv_e246_103, kv_e246_106, kv_e246_107, kv_e246_110, kv_e246_111, kv_e246_114, kv_e246_116, kv_o10, not_false_eq_true, not_true, if_true, if_false, kv_then_s, kv_then_v, kv_then_n, List.cons_append, List.nil_append, kv_Ci, kv_Cr, kv_Cn, kv_Cu, kv_C0, kv_catc, kv_gCi, kv_gCl, kv_gCr, kv_nb0, kv_nb1, kv_nbi, kv_nb01, Nat.reduceAdd, Nat.reduceLeDiff, kw_flies hI.1.1 hk, c1, eq_self]
    · have hk8 := (kw_lt8 h c1).2
      by_cases c2 : 0 ≤ w ∧ w ≤ 1
      · obtain ⟨own, o1, o2⟩ := h.2.1.1.2.2.2.2.2 k (by rw [show (kw_vk zK 36).1 = km zM from ek]; exact c1)
        have o2 : km zM k 0 = Int32.ofNat own := by rw [← ek]; exact o2
        -- what the game says
        generalize hv : (fun p => kw_Fl zK zM B M (fun _ => -1) (kv_pt (km zM) k 0 (Int32.ofNat p)) k 4) = v
        generalize hq : (fun p => p = own ∨ kw_free (km zM) (zM 14 0) (Int32.ofNat p)) = q
        have hvp : ∀ p, kw_Fl zK zM B M (fun _ => -1) (kv_pt (km zM) k 0 (Int32.ofNat p)) k 4 = v p := fun p => congrFun hv p
        have hqp : ∀ p, q p = (p = own ∨ kw_free (km zM) (zM 14 0) (Int32.ofNat p)) := fun p => (congrFun hq p).symm
        have okp : ∀ p, kw_okc (kv_pt (km zM) k 0 (Int32.ofNat p)) := fun p => kw_okc_pt hI.2.2.2.1 (by omega)
        have hv0 : ∀ p, -1 < v p := fun p => by
          rw [← hvp p, Int32.lt_iff_toInt_lt]
          have h2 := (kw_Fl_ok h (M := M) (dl := fun _ => -1) (okp p) k).2.1.1
          show (-1 : Int) < _
          omega
        have hs := kw_fo_some (q := q) hv0 W ⟨own, o1, by rw [hqp]; exact Or.inl rfl⟩
        have hlK := kv_up (fun p => ∀ z u6, kw_XK zK z → ∃ z', kv_Rn (d + 12) 111 26 [some (.ref 0), some (.int (Int32.ofNat k)), some (.int w), some (.int (kw_ob 0 (kw_fo q v p).1)), some (.int (kw_fo q v p).2), some (.int (Int32.ofNat p)), u6] [] (kv_h [] z zl) = some (some (.int (if w = 0 then kw_ob 0 (kw_fo q v W).1 else (kw_fo q v W).2)), kv_h [] z' zl) ∧ kw_XK zK z') W ?_ ?_
        · have hlM := kv_up (fun p => ∀ z u6, kw_J zM z → ∃ z', kv_Rn (d + 12) 246 31 [some (.ref 0), some (.int (Int32.ofNat k)), some (.int w), some (.int (kw_ob (-1) (kw_fo q v p).1)), some (.int (kw_fo q v p).2), some (.int (Int32.ofNat p)), u6] [] (kv_m z zlM) = some (some (.int (if w = 0 then kw_ob (-1) (kw_fo q v W).1 else (kw_fo q v W).2)), kv_m z' zlM) ∧ kw_XM zM z') W ?_ ?_
          · obtain ⟨z1, r1, x1⟩ := hlK zK none (kw_XK_rf zK)
            obtain ⟨y1, s1, j1⟩ := kw_aside (d := d + 10) (zM := zM) (zlM := zlM)
            obtain ⟨z2, r2, x2⟩ := hlM y1 none j1
            rw [kw_ob_eq (x := -1) (y := 0) hs] at r2
            refine kw_A2 (r := if w = 0 then kw_ob 0 (kw_fo q v W).1 else (kw_fo q v W).2) h ?_ ?_ x1 x2
            · simp only [kv_e111_0, kv_e111_1, kv_e111_2, kv_e111_5, kv_e111_8, kv_e111_9, kv_e111_10, kv_e111_13, kv_e111_18, kv_e111_19, kv_e111_20, kv_e111_21, kv_e111_23, kv_e111_24, kv_o10, not_false_eq_true, not_true, if_true, if_false, kv_then_s, kv_then_v, kv_then_n, List.cons_append, List.nil_append, kv_Ci, kv_Cr, kv_Cn, kv_Cu, kv_C0, kv_catc, kv_gCi, kv_gCl, kv_gCr, kv_nb0, kv_nb1, kv_nbi, kv_nb01, Nat.reduceAdd, Nat.reduceLeDiff, kw_Kflies hKK hk, ek, c1, kw_isOut, c2, and_self, eq_self]
              exact r1
            · simp only [kv_e246_0, kv_e246_1, kv_e246_2, kv_e246_5, kv_e246_8, kv_e246_9, kv_e246_10, kv_e246_11, kv_e246_14, kv_e246_19, kv_e246_20, kv_e246_23, kv_e246_24, kv_e246_25, kv_e246_26, kv_e246_28, kv_e246_29, kv_o10, not_false_eq_true, not_true, if_true, if_false, kv_then_s, kv_then_v, kv_then_n, List.cons_append, List.nil_append, kv_Ci, kv_Cr, kv_Cn, kv_Cu, kv_C0, kv_catc, kv_gCi, kv_gCl, kv_gCr, kv_nb0, kv_nb1, kv_nbi, kv_nb01, Nat.reduceAdd, Nat.reduceLeDiff, kw_flies hI.1.1 hk, c1, kw_in, c2, and_self, s1]
              exact r2
          · intro z u6 hj
            refine ⟨z, ?_, hj.1⟩
            have e14 : z 14 0 = Int32.ofNat W := by rw [hj.1 14 (by omega) (by omega) (by omega) (by omega) (by omega) (by omega), ← e30]; exact hw
            rw [kv_e246_31]
            by_cases w0 : w = 0
            · simp only [kv_e246_33, kv_e246_34, kv_e246_37, kv_e246_38, kv_e246_39, kv_e246_106, kv_e246_107, kv_e246_110, kv_e246_111, kv_e246_116, kv_o10, not_false_eq_true, not_true, if_true, if_false, kv_then_s, kv_then_v, kv_then_n, List.cons_append, List.nil_append, kv_Ci, kv_Cr, kv_Cn, kv_Cu, kv_C0, kv_catc, kv_gCi, kv_gCl, kv_gCr, kv_nb0, kv_nb1, kv_nbi, kv_nb01, Nat.reduceAdd, Nat.reduceLeDiff, kv_ar_lt (show 14 < 300 by omega), kv_rd_lt (show 14 < 300 by omega), kv_am14, kw_p0, kw_t0, or_self, e14, kv_nle (show W < 2147483648 by omega) (show W < 2147483648 by omega), Nat.le_refl, w0, eq_self]
            · simp only [kv_e246_33, kv_e246_34, kv_e246_37, kv_e246_38, kv_e246_39, kv_e246_106, kv_e246_107, kv_e246_114, kv_e246_116, kv_o10, not_false_eq_true, not_true, if_true, if_false, kv_then_s, kv_then_v, kv_then_n, List.cons_append, List.nil_append, kv_Ci, kv_Cr, kv_Cn, kv_Cu, kv_C0, kv_catc, kv_gCi, kv_gCl, kv_gCr, kv_nb0, kv_nb1, kv_nbi, kv_nb01, Nat.reduceAdd, Nat.reduceLeDiff, kv_ar_lt (show 14 < 300 by omega), kv_rd_lt (show 14 < 300 by omega), kv_am14, kw_p0, kw_t0, or_self, e14, kv_nle (show W < 2147483648 by omega) (show W < 2147483648 by omega), Nat.le_refl, w0]
          · intro p hp ih z u6 hj
            have hp2 : p < 2147483648 := by omega
            have hK := kw_J_K h hj.1
            have ekz := kw_J_km hj
            have e14 : z 14 0 = Int32.ofNat W := by rw [hj.1 14 (by omega) (by omega) (by omega) (by omega) (by omega) (by omega), ← e30]; exact hw
            have e14' : zM 14 0 = Int32.ofNat W := by rw [← e30]; exact hw
            have fr := @kw_misFree (d + 8) n z zlM hK W hW e14 (Int32.ofNat p)
            have qW : (Int32.ofNat W ≤ Int32.ofNat p) = False := kv_ln_ hp (by omega)
            by_cases c3 : q p
            · obtain ⟨y2, s2, j2⟩ := kw_hAB (d := d + 2) (zlM := zlM) (z := kw_mu z k 0 (Int32.ofNat p)) (c := kv_pt (km zM) k 0 (Int32.ofNat p)) (dl := fun _ => -1) h m1 (kw_Z_mu hk8 (by omega) (kw_J_Z hj)) (by rw [kw_mu_km _ hk8 (by omega), ekz]) (by rw [(kw_N_mu (z := z) (v := Int32.ofNat p) hk8 (show 0 < 13 by omega)).2 104 (by omega), kw_J_m hj, ← em, m3]) (fun i hi => by rw [kw_mu_fr _ _ _ _ (by omega)]; exact hj.2.2 i (by omega)) (kw_01_pt hI.1.1.2 (by omega)) (okp p) hk8
              rw [hvp p] at s2
              -- the two roads to the trial
              have road : kv_Rn (d + 12) 246 31 [some (.ref 0), some (.int (Int32.ofNat k)), some (.int w), some (.int (kw_ob (-1) (kw_fo q v p).1)), some (.int (kw_fo q v p).2), some (.int (Int32.ofNat p)), u6] [] (kv_m z zlM) = kv_Rn (d + 12) 246 62 [some (.ref 0), some (.int (Int32.ofNat k)), some (.int w), some (.int (kw_ob (-1) (kw_fo q v p).1)), some (.int (kw_fo q v p).2), some (.int (Int32.ofNat p)), u6] [] (kv_m z zlM) := by
                rw [hqp] at c3
                rw [kv_e246_31]
                by_cases c4 : 0 ≤ Int32.ofNat p ∧ Int32.ofNat p < z 14 0 ∧ kw_hd (km z) (Int32.ofNat p) = false
                · rw [if_pos c4] at fr
                  simp only [kv_e246_33, kv_e246_34, kv_e246_37, kv_e246_38, kv_e246_39, kv_e246_42, kv_e246_43, kv_e246_45, kv_e246_48, kv_o10, not_false_eq_true, not_true, if_true, if_false, kv_then_s, kv_then_v, kv_then_n, List.cons_append, List.nil_append, kv_Ci, kv_Cr, kv_Cn, kv_Cu, kv_C0, kv_catc, kv_gCi, kv_gCl, kv_gCr, kv_nb0, kv_nb1, kv_nbi, kv_nb01, Nat.reduceAdd, Nat.reduceLeDiff, kv_ar_lt (show 14 < 300 by omega), kv_rd_lt (show 14 < 300 by omega), kv_am14, kw_p0, kw_t0, or_self, e14, qW, fr]
                · rw [if_neg c4] at fr
                  have c5 : p = own := by
                    rcases c3 with c3 | c3
                    · exact c3
                    · exact absurd (by unfold kw_free at c3; rw [e14, ← e14', ekz]; exact c3) c4
                  have c6 : km zM k 0 = Int32.ofNat p := by rw [c5]; exact o2
                  simp only [kv_e246_33, kv_e246_34, kv_e246_37, kv_e246_38, kv_e246_39, kv_e246_42, kv_e246_43, kv_e246_45, kv_e246_48, kv_e246_51, kv_e246_52, kv_e246_53, kv_e246_54, kv_e246_57, kv_e246_59, kv_o10, not_false_eq_true, not_true, if_true, if_false, kv_then_s, kv_then_v, kv_then_n, List.cons_append, List.nil_append, kv_Ci, kv_Cr, kv_Cn, kv_Cu, kv_C0, kv_catc, kv_gCi, kv_gCl, kv_gCr, kv_nb0, kv_nb1, kv_nbi, kv_nb01, Nat.reduceAdd, Nat.reduceLeDiff, kv_ar_lt (show 14 < 300 by omega), kv_rd_lt (show 14 < 300 by omega), kv_am14, kw_p0, kw_t0, or_self, e14, qW, fr, kw_of0 hk8, ekz, c6, eq_self]
              by_cases c7 : (kw_fo q v p).2 < v p
              · rw [kw_fo_1 ⟨c3, c7⟩] at ih
                obtain ⟨z', r', x'⟩ := ih y2 (some (.int (v p))) j2
                refine ⟨z', ?_, x'⟩
                have mx : kv_mx (kw_fo q v p).2 (v p) = v p := if_pos c7
                have c8 : ¬ v p ≤ (kw_fo q v p).2 := Int32.not_le.mpr c7
                rw [← r', road]
                simp only [kv_e246_62, kv_e246_63, kv_e246_64, kv_e246_65, kv_e246_67, kv_e246_70, kv_e246_71, kv_e246_72, kv_e246_75, kv_e246_77, kv_e246_79, kv_e246_81, kv_e246_84, kv_e246_86, kv_e246_90, kv_e246_91, kv_e246_93, kv_e246_95, kv_e246_98, kv_e246_100, kv_e246_103, kv_o10, not_false_eq_true, not_true, if_true, if_false, kv_then_s, kv_then_v, kv_then_n, List.cons_append, List.nil_append, kv_Ci, kv_Cr, kv_Cn, kv_Cu, kv_C0, kv_catc, kv_gCi, kv_gCl, kv_gCr, kv_nb0, kv_nb1, kv_nbi, kv_nb01, Nat.reduceAdd, Nat.reduceLeDiff, kw_put0 hk8, s2, c8, mx, kv_suc, kw_ob]
              · rw [kw_fo_0 (fun r => c7 r.2)] at ih
                obtain ⟨z', r', x'⟩ := ih y2 (some (.int (v p))) j2
                refine ⟨z', ?_, x'⟩
                have mx : kv_mx (kw_fo q v p).2 (v p) = (kw_fo q v p).2 := if_neg c7
                have c8 : v p ≤ (kw_fo q v p).2 := Int32.not_lt.mp c7
                rw [← r', road]
                simp only [kv_e246_62, kv_e246_63, kv_e246_64, kv_e246_65, kv_e246_67, kv_e246_70, kv_e246_71, kv_e246_72, kv_e246_75, kv_e246_77, kv_e246_79, kv_e246_81, kv_e246_89, kv_e246_90, kv_e246_91, kv_e246_93, kv_e246_95, kv_e246_98, kv_e246_100, kv_e246_103, kv_o10, not_false_eq_true, not_true, if_true, if_false, kv_then_s, kv_then_v, kv_then_n, List.cons_append, List.nil_append, kv_Ci, kv_Cr, kv_Cn, kv_Cu, kv_C0, kv_catc, kv_gCi, kv_gCl, kv_gCr, kv_nb0, kv_nb1, kv_nbi, kv_nb01, Nat.reduceAdd, Nat.reduceLeDiff, kw_put0 hk8, s2, c8, mx, kv_suc]
            · rw [kw_fo_0 (fun r => c3 r.1)] at ih
              obtain ⟨z', r', x'⟩ := ih z u6 hj
              refine ⟨z', ?_, x'⟩
              rw [hqp] at c3
              have c4 : ¬ (0 ≤ Int32.ofNat p ∧ Int32.ofNat p < z 14 0 ∧ kw_hd (km z) (Int32.ofNat p) = false) := fun r => c3 (Or.inr (by unfold kw_free; rw [e14', ← e14, ← ekz]; exact r))
              rw [if_neg c4] at fr
              have c6 : (km zM k 0 = Int32.ofNat p) = False := by
                rw [o2, kv_neq (by omega) hp2]
                exact eq_false (fun r => c3 (Or.inl r.symm))
              rw [← r', kv_e246_31]
              simp only [kv_e246_33, kv_e246_34, kv_e246_37, kv_e246_38, kv_e246_39, kv_e246_42, kv_e246_43, kv_e246_45, kv_e246_48, kv_e246_51, kv_e246_52, kv_e246_53, kv_e246_54, kv_e246_57, kv_e246_59, kv_e246_100, kv_e246_103, kv_o10, not_false_eq_true, not_true, if_true, if_false, kv_then_s, kv_then_v, kv_then_n, List.cons_append, List.nil_append, kv_Ci, kv_Cr, kv_Cn, kv_Cu, kv_C0, kv_catc, kv_gCi, kv_gCl, kv_gCr, kv_nb0, kv_nb1, kv_nbi, kv_nb01, Nat.reduceAdd, Nat.reduceLeDiff, kv_ar_lt (show 14 < 300 by omega), kv_rd_lt (show 14 < 300 by omega), kv_am14, kw_p0, kw_t0, or_self, e14, qW, fr, kw_of0 hk8, ekz, c6, eq_self, kv_suc]
        · intro z u6 hx
          refine ⟨z, ?_, hx⟩
          obtain ⟨hK, ekz, e3, e36⟩ := kw_XK_KK h hx
          have e3W : z 3 0 = Int32.ofNat W := by rw [e3]; exact hw
          rw [kv_e111_26]
          by_cases w0 : w = 0
          · simp only [kv_e111_28, kv_e111_29, kv_e111_32, kv_e111_35, kv_e111_121, kv_e111_122, kv_e111_125, kv_e111_126, kv_e111_131, kv_o10, not_false_eq_true, not_true, if_true, if_false, kv_then_s, kv_then_v, kv_then_n, List.cons_append, List.nil_append, kv_Ci, kv_Cr, kv_Cn, kv_Cu, kv_C0, kv_catc, kv_gCi, kv_gCl, kv_gCr, kv_nb0, kv_nb1, kv_nbi, kv_nb01, Nat.reduceAdd, Nat.reduceLeDiff, kv_isF3, e3W, kv_nle (show W < 2147483648 by omega) (show W < 2147483648 by omega), Nat.le_refl, w0, eq_self]
          · simp only [kv_e111_28, kv_e111_29, kv_e111_32, kv_e111_35, kv_e111_121, kv_e111_122, kv_e111_129, kv_e111_131, kv_o10, not_false_eq_true, not_true, if_true, if_false, kv_then_s, kv_then_v, kv_then_n, List.cons_append, List.nil_append, kv_Ci, kv_Cr, kv_Cn, kv_Cu, kv_C0, kv_catc, kv_gCi, kv_gCl, kv_gCr, kv_nb0, kv_nb1, kv_nbi, kv_nb01, Nat.reduceAdd, Nat.reduceLeDiff, kv_isF3, e3W, kv_nle (show W < 2147483648 by omega) (show W < 2147483648 by omega), Nat.le_refl, w0]
        · intro p hp ih z u6 hx
          have hp2 : p < 2147483648 := by omega
          obtain ⟨hK, ekz, e3, e36⟩ := kw_XK_KK h hx
          have e3W : z 3 0 = Int32.ofNat W := by rw [e3]; exact hw
          have e14' : zM 14 0 = Int32.ofNat W := by rw [← e30]; exact hw
          have qW : (Int32.ofNat W ≤ Int32.ofNat p) = False := kv_ln_ hp (by omega)
          have fr := @kw_KisFree (d + 8) [] z zl (Int32.ofNat p)
          by_cases c3 : q p
          · have fr2 : ∀ c, c ≠ 39 → c ≠ 40 → c ≠ 41 → kv_su (kv_sc z 39 36) 39 (Int32.ofNat k) 0 (Int32.ofNat p) c = z c := fun c a1 a2 a3 => (kw_su_fr _ _ _ _ _ a2).trans (kw_sc_fr z a1 a2 a3)
            obtain ⟨z1, r1, x1, k1, b1⟩ := kw_flyK (d := d + 5) (e := []) (zl := zl) (z := kv_su (kv_sc z 39 36) 39 (Int32.ofNat k) 0 (Int32.ofNat p)) (c := kv_pt (km zM) k 0 (Int32.ofNat p)) h m3 m1 (fun c a1 a2 a3 a4 a5 a6 => (fr2 c a3 a4 a5).trans (hx c a1 a2 a3 a4 a5 a6)) (by rw [kw_sk0 _ 39 hk8, kw_sc_kc, ekz]) (by
              rw [kw_su_fr _ _ _ _ _ (by omega), kw_sc_0 z (by omega)]
              show z 36 3 = _
              rw [e36]
              exact m3)
            have g4 : kv_gt z1 39 (Int32.ofNat k) 4 = v p := by rw [kv_g4 _ 39 hk8, k1, hvp p]
            have road : kv_Rn (d + 12) 111 26 [some (.ref 0), some (.int (Int32.ofNat k)), some (.int w), some (.int (kw_ob 0 (kw_fo q v p).1)), some (.int (kw_fo q v p).2), some (.int (Int32.ofNat p)), u6] [] (kv_h [] z zl) = kv_Rn (d + 12) 111 64 [some (.ref 0), some (.int (Int32.ofNat k)), some (.int w), some (.int (kw_ob 0 (kw_fo q v p).1)), some (.int (kw_fo q v p).2), some (.int (Int32.ofNat p)), u6] [] (kv_h [] z zl) := by
              rw [hqp] at c3
              rw [kv_e111_26]
              by_cases c5 : p = own
              · have c6 : km zM k 0 = Int32.ofNat p := by rw [c5]; exact o2
                simp only [kv_e111_28, kv_e111_29, kv_e111_32, kv_e111_35, kv_e111_38, kv_e111_40, kv_e111_41, kv_e111_44, kv_e111_45, kv_e111_46, kv_e111_49, kv_o10, not_false_eq_true, not_true, if_true, if_false, kv_then_s, kv_then_v, kv_then_n, List.cons_append, List.nil_append, kv_Ci, kv_Cr, kv_Cn, kv_Cu, kv_C0, kv_catc, kv_gCi, kv_gCl, kv_gCr, kv_nb0, kv_nb1, kv_nbi, kv_nb01, Nat.reduceAdd, Nat.reduceLeDiff, kv_isF3, e3W, qW, kv_isS36, kv_get, kv_g0 z 36 hk8, ekz, c6, eq_self]
              · have c6 : (Int32.ofNat p = km zM k 0) = False := by
                  rw [o2, kv_neq hp2 (by omega)]
                  exact eq_false c5
                have c4 : 0 ≤ Int32.ofNat p ∧ Int32.ofNat p < z 3 0 ∧ kw_hd (kc z 36) (Int32.ofNat p) = false := by
                  rcases c3 with c3 | c3
                  · exact absurd c3 c5
                  · unfold kw_free at c3
                    rw [e3W, ← e14', ekz]
                    exact c3
                rw [if_pos c4] at fr
                simp only [kv_e111_28, kv_e111_29, kv_e111_32, kv_e111_35, kv_e111_38, kv_e111_40, kv_e111_41, kv_e111_44, kv_e111_45, kv_e111_46, kv_e111_49, kv_e111_52, kv_e111_53, kv_e111_55, kv_e111_58, kv_o10, not_false_eq_true, not_true, if_true, if_false, kv_then_s, kv_then_v, kv_then_n, List.cons_append, List.nil_append, kv_Ci, kv_Cr, kv_Cn, kv_Cu, kv_C0, kv_catc, kv_gCi, kv_gCl, kv_gCr, kv_nb0, kv_nb1, kv_nbi, kv_nb01, Nat.reduceAdd, Nat.reduceLeDiff, kv_isF3, e3W, qW, kv_isS36, kv_get, kv_g0 z 36 hk8, ekz, c6, fr]
            by_cases c7 : (kw_fo q v p).2 < v p
            · rw [kw_fo_1 ⟨c3, c7⟩] at ih
              obtain ⟨z', r', x'⟩ := ih z1 (some (.int (v p))) x1
              refine ⟨z', ?_, x'⟩
              have c8 : ¬ v p ≤ (kw_fo q v p).2 := Int32.not_le.mpr c7
              rw [← r', road]
              simp only [kv_e111_64, kv_e111_65, kv_e111_68, kv_e111_69, kv_e111_72, kv_e111_75, kv_e111_76, kv_e111_79, kv_e111_80, kv_e111_81, kv_e111_83, kv_e111_86, kv_e111_87, kv_e111_90, kv_e111_91, kv_e111_94, kv_e111_95, kv_e111_96, kv_e111_99, kv_e111_101, kv_e111_103, kv_e111_105, kv_e111_108, kv_e111_110, kv_e111_112, kv_e111_114, kv_e111_115, kv_e111_118, kv_o10, not_false_eq_true, not_true, if_true, if_false, kv_then_s, kv_then_v, kv_then_n, List.cons_append, List.nil_append, kv_Ci, kv_Cr, kv_Cn, kv_Cu, kv_C0, kv_catc, kv_gCi, kv_gCl, kv_gCr, kv_nb0, kv_nb1, kv_nbi, kv_nb01, Nat.reduceAdd, Nat.reduceLeDiff, kv_isS36, kv_isS39, kv_copyS, kv_set, r1, kv_get, g4, c8, kv_suc, kw_ob]
            · rw [kw_fo_0 (fun r => c7 r.2)] at ih
              obtain ⟨z', r', x'⟩ := ih z1 (some (.int (v p))) x1
              refine ⟨z', ?_, x'⟩
              have c8 : v p ≤ (kw_fo q v p).2 := Int32.not_lt.mp c7
              rw [← r', road]
              simp only [kv_e111_64, kv_e111_65, kv_e111_68, kv_e111_69, kv_e111_72, kv_e111_75, kv_e111_76, kv_e111_79, kv_e111_80, kv_e111_81, kv_e111_83, kv_e111_86, kv_e111_87, kv_e111_90, kv_e111_91, kv_e111_94, kv_e111_95, kv_e111_96, kv_e111_99, kv_e111_101, kv_e111_103, kv_e111_105, kv_e111_115, kv_e111_118, kv_o10, not_false_eq_true, not_true, if_true, if_false, kv_then_s, kv_then_v, kv_then_n, List.cons_append, List.nil_append, kv_Ci, kv_Cr, kv_Cn, kv_Cu, kv_C0, kv_catc, kv_gCi, kv_gCl, kv_gCr, kv_nb0, kv_nb1, kv_nbi, kv_nb01, Nat.reduceAdd, Nat.reduceLeDiff, kv_isS36, kv_isS39, kv_copyS, kv_set, r1, kv_get, g4, c8, kv_suc]
          · rw [kw_fo_0 (fun r => c3 r.1)] at ih
            obtain ⟨z', r', x'⟩ := ih z u6 hx
            refine ⟨z', ?_, x'⟩
            rw [hqp] at c3
            have c4 : ¬ (0 ≤ Int32.ofNat p ∧ Int32.ofNat p < z 3 0 ∧ kw_hd (kc z 36) (Int32.ofNat p) = false) := fun r => c3 (Or.inr (by unfold kw_free; rw [e14', ← e3W, ← ekz]; exact r))
            rw [if_neg c4] at fr
            have c6 : (Int32.ofNat p = km zM k 0) = False := by
              rw [o2, kv_neq hp2 (by omega)]
              exact eq_false (fun r => c3 (Or.inl r))
            rw [← r', kv_e111_26]
            simp only [kv_e111_28, kv_e111_29, kv_e111_32, kv_e111_35, kv_e111_38, kv_e111_40, kv_e111_41, kv_e111_44, kv_e111_45, kv_e111_46, kv_e111_49, kv_e111_52, kv_e111_53, kv_e111_55, kv_e111_58, kv_e111_61, kv_e111_115, kv_e111_118, kv_o10, not_false_eq_true, not_true, if_true, if_false, kv_then_s, kv_then_v, kv_then_n, List.cons_append, List.nil_append, kv_Ci, kv_Cr, kv_Cn, kv_Cu, kv_C0, kv_catc, kv_gCi, kv_gCl, kv_gCr, kv_nb0, kv_nb1, kv_nbi, kv_nb01, Nat.reduceAdd, Nat.reduceLeDiff, kv_isF3, e3W, qW, kv_isS36, kv_get, kv_g0 z 36 hk8, ekz, c6, fr, eq_self, kv_suc]
      · refine kw_A0 (r := -1) h ?_ ?_
        · simp only [kv_e111_0, kv_e111_1, kv_e111_2, kv_e111_5, kv_e111_8, kv_e111_9, kv_e111_10, kv_e111_13, kv_e111_16, kv_e111_17, kv_e111_18, kv_e111_19, kv_e111_20, kv_e111_21, kv_e111_23, kv_e111_24, kv_e111_28, kv_e111_29, kv_e111_32, kv_e111_35, kv_e111_38, kv_e111_40, kv_e111_41, kv_e111_44, kv_e111_45, kv_e111_46, kv_e111_49, kv_e111_52, kv_e111_53, kv_e111_55, kv_e111_58, kv_e111_61, kv_e111_64, kv_e111_65, kv_e111_68, kv_e111_69, kv_e111_72, kv_e111_75, kv_e111_76, kv_e111_79, kv_e111_80, kv_e111_81, kv_e111_83, kv_e111_86, kv_e111_87, kv_e111_90, kv_e111_91, kv_e111_94, kv_e111_95, kv_e111_96, kv_e111_99, kv_e111_101, kv_e111_103, kv_e111_105, kv_e111_108, kv_e111_110, kv_e111_112, kv_e111_114, kv_e111_115, kv_e111_118, kv_e111_121, kv_e111_122, kv_e111_125, kv_e111_126, kv_e111_129, kv_e111_131, kv_o10, not_false_eq_true, not_true, if_true, if_false, kv_then_s, kv_then_v, kv_then_n, List.cons_append, List.nil_append, kv_Ci, kv_Cr, kv_Cn, kv_Cu, kv_C0, kv_catc, kv_gCi, kv_gCl, kv_gCr, kv_nb0, kv_nb1, kv_nbi, kv_nb01, Nat.reduceAdd, Nat.reduceLeDiff, kw_Kflies hKK hk, ek, c1, kw_isOut, c2, eq_self]
        · simp only [kv_e246_0, kv_e246_1, kv_e246_2, kv_e246_5, kv_e246_8, kv_e246_9, kv_e246_10, kv_e246_11, kv_e246_14, kv_e246_17, kv_e246_18, kv_e246_19, kv_e246_20, kv_e246_23, kv_e246_24, kv_e246_25, kv_e246_26, kv_e246_28, kv_e246_29, kv_e246_33, kv_e246_34, kv_e246_37, kv_e246_38, kv_e246_39, kv_e246_42, kv_e246_43, kv_e246_45, kv_e246_48, kv_e246_51, kv_e246_52, kv_e246_53, kv_e246_54, kv_e246_57, kv_e246_59, kv_e246_62, kv_e246_63, kv_e246_64, kv_e246_65, kv_e246_67, kv_e246_70, kv_e246_71, kv_e246_72, kv_e246_75, kv_e246_77, kv_e246_79, kv_e246_81, kv_e246_84, kv_e246_86, kv_e246_89, kv_e246_90, kv_e246_91, kv_e246_93, kv_e246_95, kv_e246_98, kv_e246_100, kv_e246_103, kv_e246_106, kv_e246_107, kv_e246_110, kv_e246_111, kv_e246_114, kv_e246_116, kv_o10, not_false_eq_true, not_true, if_true, if_false, kv_then_s, kv_then_v, kv_then_n, List.cons_append, List.nil_append, kv_Ci, kv_Cr, kv_Cn, kv_Cu, kv_C0, kv_catc, kv_gCi, kv_gCl, kv_gCr, kv_nb0, kv_nb1, kv_nbi, kv_nb01, Nat.reduceAdd, Nat.reduceLeDiff, kw_flies hI.1.1 hk, c1, kw_in, c2, eq_self]
end
