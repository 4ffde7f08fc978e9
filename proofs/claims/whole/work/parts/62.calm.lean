/-! calm -/
section
variable {d n B W : Nat} {e : List kv_E} {z zK zM zK' zM' : Nat → Nat → Int32} {zl zlM : Nat → Nat → Int64}
theorem kw_sm_congr {f g : Nat → Int32} : ∀ {n : Nat}, (∀ k, k < n → f k = g k) → kv_sm n f = kv_sm n g := by
  intro n
  induction n with
  | zero => intro _; rfl
  | succ n ih =>
    intro h
    rw [kv_sm_s, kv_sm_s, h n (by omega), ih (fun k hk => h k (by omega))]
theorem kw_bt_bs (p : Nat → Bool) {k : Nat} (hk : k < 8) : kv_bt (kv_bs 8 p) k = p k := by
  unfold kv_bt
  rw [kw_bs_bit p hk]
  cases p k <;> decide
def kw_sh (c : Nat → Nat → Int32) : Int32 := kv_sm 8 (fun k => if c k 11 = 0 then 0 else c k 4)
theorem kw_hf_sh (c : Nat → Nat → Int32) : kv_hf c (kv_bs 8 (fun k => decide (¬ c k 11 = 0))) = kw_sh c := by
  unfold kv_hf kw_sh
  refine kw_sm_congr (fun k hk => ?_)
  rw [kw_bt_bs _ hk]
  by_cases h : c k 11 = 0
  · rw [if_pos h, if_neg (by simp [h])]
  · rw [if_neg h, if_pos (by simp [h])]
theorem kw_isCalm (hK : kw_K n z) : kv_Rn (d + 3) 242 0 [some (.ref 0), none, none] [] (kv_m z zl) = some (some (.int (if kw_sh (km z) = 0 then 1 else 0)), kv_m z zl) := by
  have h8 := hK.1.2
  have he : kw_sh (km z) = kv_sm n (fun k => if km z k 11 = 0 then 0 else km z k 4) := by
    have := kw_sm_ext (f := fun k => if km z k 11 = 0 then 0 else km z k 4) (m := n) (8 - n) (fun k hk => by rw [(hK.2 k).2 hk]; exact if_pos rfl)
    rw [show n + (8 - n) = 8 from by omega] at this
    exact this
  rw [he]
  have hl := kv_up (fun k => kv_Rn (d + 3) 242 4 [some (.ref 0), some (.int (kv_sm k (fun k => if km z k 11 = 0 then 0 else km z k 4))), some (.int (Int32.ofNat k))] [] (kv_m z zl) = some (some (.int (if kv_sm n (fun k => if km z k 11 = 0 then 0 else km z k 4) = 0 then 1 else 0)), kv_m z zl)) n ?_ ?_
  · simp only [kv_e242_0, kv_e242_1, kv_e242_2, kv_e242_3, kv_o10, not_false_eq_true, not_true, if_true, if_false, kv_then_s, kv_then_v, kv_then_n, List.cons_append, List.nil_append, kv_Ci, kv_Cr, kv_Cn, kv_Cu, kv_C0, kv_catc, kv_gCi, kv_gCl, kv_gCr, kv_nb0, kv_nb1, kv_nbi, kv_nb01, Nat.reduceAdd, Nat.reduceLeDiff]
    exact hl
  · rw [kv_e242_4]
    by_cases c : kv_sm n (fun k => if km z k 11 = 0 then 0 else km z k 4) = 0
    · simp only [kv_e242_0, kv_e242_1, kv_e242_2, kv_e242_3, kv_e242_5, kv_e242_6, kv_e242_9, kv_e242_12, kv_e242_13, kv_e242_14, kv_e242_15, kv_e242_18, kv_e242_21, kv_e242_22, kv_e242_23, kv_e242_24, kv_e242_27, kv_e242_30, kv_e242_31, kv_e242_32, kv_e242_33, kv_e242_36, kv_e242_39, kv_e242_40, kv_e242_43, kv_e242_44, kv_e242_47, kv_e242_48, kv_o10, not_false_eq_true, not_true, if_true, if_false, kv_then_s, kv_then_v, kv_then_n, List.cons_append, List.nil_append, kv_Ci, kv_Cr, kv_Cn, kv_Cu, kv_C0, kv_catc, kv_gCi, kv_gCl, kv_gCr, kv_nb0, kv_nb1, kv_nbi, kv_nb01, Nat.reduceAdd, Nat.reduceLeDiff, hK.1.1, kw_ln2 h8 (show n < 2147483648 by omega), Nat.le_refl, c, eq_self]
    · simp only [kv_e242_0, kv_e242_1, kv_e242_2, kv_e242_3, kv_e242_5, kv_e242_6, kv_e242_9, kv_e242_12, kv_e242_13, kv_e242_14, kv_e242_15, kv_e242_18, kv_e242_21, kv_e242_22, kv_e242_23, kv_e242_24, kv_e242_27, kv_e242_30, kv_e242_31, kv_e242_32, kv_e242_33, kv_e242_36, kv_e242_39, kv_e242_40, kv_e242_43, kv_e242_44, kv_e242_47, kv_e242_48, kv_o10, not_false_eq_true, not_true, if_true, if_false, kv_then_s, kv_then_v, kv_then_n, List.cons_append, List.nil_append, kv_Ci, kv_Cr, kv_Cn, kv_Cu, kv_C0, kv_catc, kv_gCi, kv_gCl, kv_gCr, kv_nb0, kv_nb1, kv_nbi, kv_nb01, Nat.reduceAdd, Nat.reduceLeDiff, hK.1.1, kw_ln2 h8 (show n < 2147483648 by omega), Nat.le_refl, c]
  · intro k hk ih
    have hk2 : k < 2147483648 := by omega
    have hk8 : k < 8 := by omega
    rw [kv_sm_s k] at ih
    rw [kv_e242_4]
    by_cases hc : km z k 11 = 0
    · rw [if_pos hc, Int32.add_zero] at ih
      simp only [kv_e242_0, kv_e242_1, kv_e242_2, kv_e242_3, kv_e242_5, kv_e242_6, kv_e242_9, kv_e242_12, kv_e242_13, kv_e242_14, kv_e242_15, kv_e242_18, kv_e242_21, kv_e242_22, kv_e242_23, kv_e242_24, kv_e242_27, kv_e242_30, kv_e242_31, kv_e242_32, kv_e242_33, kv_e242_36, kv_e242_39, kv_e242_40, kv_e242_43, kv_e242_44, kv_e242_47, kv_e242_48, kv_o10, not_false_eq_true, not_true, if_true, if_false, kv_then_s, kv_then_v, kv_then_n, List.cons_append, List.nil_append, kv_Ci, kv_Cr, kv_Cn, kv_Cu, kv_C0, kv_catc, kv_gCi, kv_gCl, kv_gCr, kv_nb0, kv_nb1, kv_nbi, kv_nb01, Nat.reduceAdd, Nat.reduceLeDiff, hK.1.1, kw_ln2 h8 hk2, eq_false (show ¬ n ≤ k by omega), kw_flies hK hk2, hc, eq_self, Int32.add_zero, kv_suc]
      exact ih
    · rw [if_neg hc] at ih
      simp only [kv_e242_0, kv_e242_1, kv_e242_2, kv_e242_3, kv_e242_5, kv_e242_6, kv_e242_9, kv_e242_12, kv_e242_13, kv_e242_14, kv_e242_15, kv_e242_18, kv_e242_21, kv_e242_22, kv_e242_23, kv_e242_24, kv_e242_27, kv_e242_30, kv_e242_31, kv_e242_32, kv_e242_33, kv_e242_36, kv_e242_39, kv_e242_40, kv_e242_43, kv_e242_44, kv_e242_47, kv_e242_48, kv_o10, not_false_eq_true, not_true, if_true, if_false, kv_then_s, kv_then_v, kv_then_n, List.cons_append, List.nil_append, kv_Ci, kv_Cr, kv_Cn, kv_Cu, kv_C0, kv_catc, kv_gCi, kv_gCl, kv_gCr, kv_nb0, kv_nb1, kv_nbi, kv_nb01, Nat.reduceAdd, Nat.reduceLeDiff, hK.1.1, kw_ln2 h8 hk2, eq_false (show ¬ n ≤ k by omega), kw_flies hK hk2, hc, kw_of3 hk8, kv_suc]
      exact ih
noncomputable def kw_rc (low : Nat → Int32) : Nat → Nat → Int32
  | 0, i => if low i = 0 then Int32.ofNat i else -1
  | t + 1, i => if low i = 0 then Int32.ofNat i else kw_rc low t (i + 1)
theorem kw_Z_K (h : kw_R n B W zK zM) (hz : kw_Z zM z) {c : Nat → Nat → Int32} (hc : km z = c) (h1 : kw_01 n c) : kw_K n z := by
  obtain ⟨a1, a2⟩ := (kw_R_I h).1.1
  exact ⟨by rw [hz.1 0 (by omega) (by omega) (by omega) (by omega) (by omega) (by omega) (by omega)]; exact a1, by rw [hc]; exact h1⟩
theorem kw_f_calm (h : kw_R n B W zK zM) : kw_A (d + 12) 109 243 [some (.ref 0), none, none] [some (.ref 0), none, none] zK zM zl zlM := by
  have hI := kw_R_I h
  have h8 := hI.1.1.1.2
  have hF := h.1.2.2.1
  have ez : (zM 0 24 = 0) = (n = 0) := by
    rw [hF.1.2.1, show (0 : Int32) = Int32.ofNat 0 from rfl, kv_neq (by omega) (by omega)]
  obtain ⟨em, M, m1, m2, m3, m4, m5⟩ := kw_R_min h
  have el : Int32.ofNat B - Int32.ofNat M = Int32.ofNat (B - M) := by
    have := @kw_subN M (B - M)
    rw [show M + (B - M) = B from by omega] at this
    exact this
  have em2 : zM 16 104 = Int32.ofNat M := by rw [← em, m3]
  by_cases c : n = 0
  · replace c := eq_true c
    refine kw_A0 (r := -1) h ?_ ?_
    · simp only [kv_e109_0, kv_e109_1, kv_e109_4, kv_e109_7, kv_e109_8, kv_e109_9, kv_e109_10, kv_e109_13, kv_e109_14, kv_e109_17, kv_e109_20, kv_e109_21, kv_e109_24, kv_e109_25, kv_e109_26, kv_e109_28, kv_e109_29, kv_e109_32, kv_e109_33, kv_e109_36, kv_e109_39, kv_e109_42, kv_e109_43, kv_e109_44, kv_e109_45, kv_e109_46, kv_e109_49, kv_e109_50, kv_e109_53, kv_e109_54, kv_e109_57, kv_e109_60, kv_e109_63, kv_e109_66, kv_e109_67, kv_o10, not_false_eq_true, not_true, if_true, if_false, kv_then_s, kv_then_v, kv_then_n, List.cons_append, List.nil_append, kv_Ci, kv_Cr, kv_Cn, kv_Cu, kv_C0, kv_catc, kv_gCi, kv_gCl, kv_gCr, kv_nb0, kv_nb1, kv_nbi, kv_nb01, Nat.reduceAdd, Nat.reduceLeDiff, kw_KhF h, c, eq_self]
    · simp only [kv_e243_0, kv_e243_1, kv_e243_4, kv_e243_7, kv_e243_8, kv_e243_9, kv_e243_10, kv_e243_13, kv_e243_14, kv_e243_16, kv_e243_19, kv_e243_22, kv_e243_23, kv_e243_26, kv_e243_29, kv_e243_30, kv_e243_33, kv_e243_34, kv_e243_37, kv_e243_40, kv_e243_41, kv_e243_44, kv_e243_47, kv_e243_48, kv_e243_51, kv_e243_52, kv_e243_53, kv_e243_54, kv_e243_57, kv_e243_58, kv_o10, not_false_eq_true, not_true, if_true, if_false, kv_then_s, kv_then_v, kv_then_n, List.cons_append, List.nil_append, kv_Ci, kv_Cr, kv_Cn, kv_Cu, kv_C0, kv_catc, kv_gCi, kv_gCl, kv_gCr, kv_nb0, kv_nb1, kv_nbi, kv_nb01, Nat.reduceAdd, Nat.reduceLeDiff, ez, c]
  · have hlK : ∀ t i, i + t = B - M → ∀ z, kw_XK zK z → kc z 39 = kw_ci zK zM M i → z 39 3 = Int32.ofNat (M + i) → ∃ z', kv_Rn (d + 12) 109 27 [some (.ref 0), some (.int (Int32.ofNat (B - M))), some (.int (Int32.ofNat i))] [] (kv_h [] z zl) = some (some (.int (kw_rc (fun i => kw_sh (kw_ci zK zM M i)) t i)), kv_h [] z' zl) ∧ kw_XK zK z' := by
      intro t
      induction t with
      | zero =>
        intro i hi z hx hc hm
        have q1 : (Int32.ofNat (B - M) < Int32.ofNat i) = False := by rw [kv_nlt (by omega) (by omega)]; exact eq_false (by omega)
        have q2 : (Int32.ofNat (B - M) ≤ Int32.ofNat i) = True := by rw [kv_nle (by omega) (by omega)]; exact eq_true (by omega)
        have q3 : (Int32.ofNat (B - M) < Int32.ofNat (i + 1)) = True := by rw [kv_nlt (by omega) (by omega)]; exact eq_true (by omega)
        refine ⟨z, ?_, hx⟩
        rw [kv_e109_27]
        unfold kw_rc
        by_cases c1 : kw_sh (kw_ci zK zM M i) = 0
        · simp only [kv_e109_0, kv_e109_1, kv_e109_4, kv_e109_7, kv_e109_8, kv_e109_9, kv_e109_10, kv_e109_13, kv_e109_14, kv_e109_17, kv_e109_20, kv_e109_21, kv_e109_24, kv_e109_25, kv_e109_26, kv_e109_28, kv_e109_29, kv_e109_32, kv_e109_33, kv_e109_36, kv_e109_39, kv_e109_42, kv_e109_43, kv_e109_44, kv_e109_45, kv_e109_46, kv_e109_49, kv_e109_50, kv_e109_53, kv_e109_54, kv_e109_57, kv_e109_60, kv_e109_63, kv_e109_66, kv_e109_67, kv_o10, not_false_eq_true, not_true, if_true, if_false, kv_then_s, kv_then_v, kv_then_n, List.cons_append, List.nil_append, kv_Ci, kv_Cr, kv_Cn, kv_Cu, kv_C0, kv_catc, kv_gCi, kv_gCl, kv_gCr, kv_nb0, kv_nb1, kv_nbi, kv_nb01, Nat.reduceAdd, Nat.reduceLeDiff, q1, kv_isS39, kv_isLow, hc, kw_hf_sh, c1]
        · simp only [kv_e109_0, kv_e109_1, kv_e109_4, kv_e109_7, kv_e109_8, kv_e109_9, kv_e109_10, kv_e109_13, kv_e109_14, kv_e109_17, kv_e109_20, kv_e109_21, kv_e109_24, kv_e109_25, kv_e109_26, kv_e109_28, kv_e109_29, kv_e109_32, kv_e109_33, kv_e109_36, kv_e109_39, kv_e109_42, kv_e109_43, kv_e109_44, kv_e109_45, kv_e109_46, kv_e109_49, kv_e109_50, kv_e109_53, kv_e109_54, kv_e109_57, kv_e109_60, kv_e109_63, kv_e109_66, kv_e109_67, kv_o10, not_false_eq_true, not_true, if_true, if_false, kv_then_s, kv_then_v, kv_then_n, List.cons_append, List.nil_append, kv_Ci, kv_Cr, kv_Cn, kv_Cu, kv_C0, kv_catc, kv_gCi, kv_gCl, kv_gCr, kv_nb0, kv_nb1, kv_nbi, kv_nb01, Nat.reduceAdd, Nat.reduceLeDiff, q1, kv_isS39, kv_isLow, hc, kw_hf_sh, c1, eq_self, q2, kv_suc]
          rw [kv_e109_27]
          simp only [kv_e109_0, kv_e109_1, kv_e109_4, kv_e109_7, kv_e109_8, kv_e109_9, kv_e109_10, kv_e109_13, kv_e109_14, kv_e109_17, kv_e109_20, kv_e109_21, kv_e109_24, kv_e109_25, kv_e109_26, kv_e109_28, kv_e109_29, kv_e109_32, kv_e109_33, kv_e109_36, kv_e109_39, kv_e109_42, kv_e109_43, kv_e109_44, kv_e109_45, kv_e109_46, kv_e109_49, kv_e109_50, kv_e109_53, kv_e109_54, kv_e109_57, kv_e109_60, kv_e109_63, kv_e109_66, kv_e109_67, kv_o10, not_false_eq_true, not_true, if_true, if_false, kv_then_s, kv_then_v, kv_then_n, List.cons_append, List.nil_append, kv_Ci, kv_Cr, kv_Cn, kv_Cu, kv_C0, kv_catc, kv_gCi, kv_gCl, kv_gCr, kv_nb0, kv_nb1, kv_nbi, kv_nb01, Nat.reduceAdd, Nat.reduceLeDiff, q3]
      | succ t ih =>
        intro i hi z hx hc hm
        have q1 : (Int32.ofNat (B - M) < Int32.ofNat i) = False := by rw [kv_nlt (by omega) (by omega)]; exact eq_false (by omega)
        have q2 : (Int32.ofNat (B - M) ≤ Int32.ofNat i) = False := by rw [kv_nle (by omega) (by omega)]; exact eq_false (by omega)
        by_cases c1 : kw_sh (kw_ci zK zM M i) = 0
        · refine ⟨z, ?_, hx⟩
          rw [kv_e109_27]
          unfold kw_rc
          simp only [kv_e109_0, kv_e109_1, kv_e109_4, kv_e109_7, kv_e109_8, kv_e109_9, kv_e109_10, kv_e109_13, kv_e109_14, kv_e109_17, kv_e109_20, kv_e109_21, kv_e109_24, kv_e109_25, kv_e109_26, kv_e109_28, kv_e109_29, kv_e109_32, kv_e109_33, kv_e109_36, kv_e109_39, kv_e109_42, kv_e109_43, kv_e109_44, kv_e109_45, kv_e109_46, kv_e109_49, kv_e109_50, kv_e109_53, kv_e109_54, kv_e109_57, kv_e109_60, kv_e109_63, kv_e109_66, kv_e109_67, kv_o10, not_false_eq_true, not_true, if_true, if_false, kv_then_s, kv_then_v, kv_then_n, List.cons_append, List.nil_append, kv_Ci, kv_Cr, kv_Cn, kv_Cu, kv_C0, kv_catc, kv_gCi, kv_gCl, kv_gCr, kv_nb0, kv_nb1, kv_nbi, kv_nb01, Nat.reduceAdd, Nat.reduceLeDiff, q1, kv_isS39, kv_isLow, hc, kw_hf_sh, c1]
        · obtain ⟨z2, r2, x2, c2, m2'⟩ := kw_stepK (d := d + 7) (e := []) (zl := zl) h hx hc hm
          obtain ⟨z', r', x'⟩ := ih (i + 1) (by omega) z2 x2 c2 m2'
          refine ⟨z', ?_, x'⟩
          have e9 : kw_rc (fun i => kw_sh (kw_ci zK zM M i)) (t + 1) i = kw_rc (fun i => kw_sh (kw_ci zK zM M i)) t (i + 1) := if_neg c1
          rw [e9, ← r', kv_e109_27]
          simp only [kv_e109_0, kv_e109_1, kv_e109_4, kv_e109_7, kv_e109_8, kv_e109_9, kv_e109_10, kv_e109_13, kv_e109_14, kv_e109_17, kv_e109_20, kv_e109_21, kv_e109_24, kv_e109_25, kv_e109_26, kv_e109_28, kv_e109_29, kv_e109_32, kv_e109_33, kv_e109_36, kv_e109_39, kv_e109_42, kv_e109_43, kv_e109_44, kv_e109_45, kv_e109_46, kv_e109_49, kv_e109_50, kv_e109_53, kv_e109_54, kv_e109_57, kv_e109_60, kv_e109_63, kv_e109_66, kv_e109_67, kv_o10, not_false_eq_true, not_true, if_true, if_false, kv_then_s, kv_then_v, kv_then_n, List.cons_append, List.nil_append, kv_Ci, kv_Cr, kv_Cn, kv_Cu, kv_C0, kv_catc, kv_gCi, kv_gCl, kv_gCr, kv_nb0, kv_nb1, kv_nbi, kv_nb01, Nat.reduceAdd, Nat.reduceLeDiff, q1, kv_isS39, kv_isLow, hc, kw_hf_sh, c1, eq_self, q2, r2, kv_suc]
    have hlM : ∀ t i, i + t = B - M → ∀ z, kw_Z zM z → km z = kw_ci zK zM M i → z 16 104 = Int32.ofNat (M + i) → (∀ i, i < n → z 17 i = -1) → ∃ z', kv_Rn (d + 12) 243 15 [some (.ref 0), some (.int (Int32.ofNat i)), none] [] (kv_m z zlM) = some (some (.int (kw_rc (fun i => kw_sh (kw_ci zK zM M i)) t i)), kv_m z' zlM) ∧ kw_XM zM z' := by
      intro t
      induction t with
      | zero =>
        intro i hi z hz hc hm hd
        have hK := kw_Z_K h hz hc (kw_ci_ok h M i).2
        have e14 := hz.1 14 (by omega) (by omega) (by omega) (by omega) (by omega) (by omega) (by omega)
        have el2 : (Int32.ofNat B - Int32.ofNat (M + i) ≤ 0) = True := by
          rw [show M + i = B from by omega, Int32.sub_self]
          decide
        obtain ⟨y3, s3, j3⟩ := kw_backM (d := d + 10) (zlM := zlM) hz
        refine ⟨y3, ?_, j3.1⟩
        rw [kv_e243_15]
        unfold kw_rc
        by_cases c1 : kw_sh (kw_ci zK zM M i) = 0
        · simp only [kv_e243_0, kv_e243_1, kv_e243_4, kv_e243_7, kv_e243_8, kv_e243_9, kv_e243_10, kv_e243_13, kv_e243_14, kv_e243_16, kv_e243_19, kv_e243_22, kv_e243_23, kv_e243_26, kv_e243_29, kv_e243_30, kv_e243_33, kv_e243_34, kv_e243_37, kv_e243_40, kv_e243_41, kv_e243_44, kv_e243_47, kv_e243_48, kv_e243_51, kv_e243_52, kv_e243_53, kv_e243_54, kv_e243_57, kv_e243_58, kv_o10, not_false_eq_true, not_true, if_true, if_false, kv_then_s, kv_then_v, kv_then_n, List.cons_append, List.nil_append, kv_Ci, kv_Cr, kv_Cn, kv_Cu, kv_C0, kv_catc, kv_gCi, kv_gCl, kv_gCr, kv_nb0, kv_nb1, kv_nbi, kv_nb01, Nat.reduceAdd, Nat.reduceLeDiff, kw_isCalm hK, hc, c1, eq_self, s3]
        · simp only [kv_e243_0, kv_e243_1, kv_e243_4, kv_e243_7, kv_e243_8, kv_e243_9, kv_e243_10, kv_e243_13, kv_e243_14, kv_e243_16, kv_e243_19, kv_e243_22, kv_e243_23, kv_e243_26, kv_e243_29, kv_e243_30, kv_e243_33, kv_e243_34, kv_e243_37, kv_e243_40, kv_e243_41, kv_e243_44, kv_e243_47, kv_e243_48, kv_e243_51, kv_e243_52, kv_e243_53, kv_e243_54, kv_e243_57, kv_e243_58, kv_o10, not_false_eq_true, not_true, if_true, if_false, kv_then_s, kv_then_v, kv_then_n, List.cons_append, List.nil_append, kv_Ci, kv_Cr, kv_Cn, kv_Cu, kv_C0, kv_catc, kv_gCi, kv_gCl, kv_gCr, kv_nb0, kv_nb1, kv_nbi, kv_nb01, Nat.reduceAdd, Nat.reduceLeDiff, kw_isCalm hK, hc, c1, eq_self, kw_mleft, e14, m5, hm, el2, s3]
      | succ t ih =>
        intro i hi z hz hc hm hd
        have hK := kw_Z_K h hz hc (kw_ci_ok h M i).2
        have e14 := hz.1 14 (by omega) (by omega) (by omega) (by omega) (by omega) (by omega) (by omega)
        by_cases c1 : kw_sh (kw_ci zK zM M i) = 0
        · obtain ⟨y3, s3, j3⟩ := kw_backM (d := d + 10) (zlM := zlM) hz
          refine ⟨y3, ?_, j3.1⟩
          rw [kv_e243_15]
          unfold kw_rc
          simp only [kv_e243_0, kv_e243_1, kv_e243_4, kv_e243_7, kv_e243_8, kv_e243_9, kv_e243_10, kv_e243_13, kv_e243_14, kv_e243_16, kv_e243_19, kv_e243_22, kv_e243_23, kv_e243_26, kv_e243_29, kv_e243_30, kv_e243_33, kv_e243_34, kv_e243_37, kv_e243_40, kv_e243_41, kv_e243_44, kv_e243_47, kv_e243_48, kv_e243_51, kv_e243_52, kv_e243_53, kv_e243_54, kv_e243_57, kv_e243_58, kv_o10, not_false_eq_true, not_true, if_true, if_false, kv_then_s, kv_then_v, kv_then_n, List.cons_append, List.nil_append, kv_Ci, kv_Cr, kv_Cn, kv_Cu, kv_C0, kv_catc, kv_gCi, kv_gCl, kv_gCr, kv_nb0, kv_nb1, kv_nbi, kv_nb01, Nat.reduceAdd, Nat.reduceLeDiff, kw_isCalm hK, hc, c1, eq_self, s3]
        · obtain ⟨z2, r2, z2Z, c2, m2', d2⟩ := kw_stepM (d := d + 5) (zlM := zlM) h (show M + i ≤ 1000 by omega) hz hc hm hd
          obtain ⟨z', r', x'⟩ := ih (i + 1) (by omega) z2 z2Z c2 m2' d2
          refine ⟨z', ?_, x'⟩
          have e9 : kw_rc (fun i => kw_sh (kw_ci zK zM M i)) (t + 1) i = kw_rc (fun i => kw_sh (kw_ci zK zM M i)) t (i + 1) := if_neg c1
          have el2 : (Int32.ofNat B - Int32.ofNat (M + i) ≤ 0) = False := by
            have := @kw_subN (M + i) (t + 1)
            rw [show M + i + (t + 1) = B from by omega] at this
            rw [this]
            exact eq_false (fun q => by
              have := (kv_nle (a := t + 1) (b := 0) (by omega) (by omega)).mp q
              omega)
          rw [e9, ← r', kv_e243_15]
          simp only [kv_e243_0, kv_e243_1, kv_e243_4, kv_e243_7, kv_e243_8, kv_e243_9, kv_e243_10, kv_e243_13, kv_e243_14, kv_e243_16, kv_e243_19, kv_e243_22, kv_e243_23, kv_e243_26, kv_e243_29, kv_e243_30, kv_e243_33, kv_e243_34, kv_e243_37, kv_e243_40, kv_e243_41, kv_e243_44, kv_e243_47, kv_e243_48, kv_e243_51, kv_e243_52, kv_e243_53, kv_e243_54, kv_e243_57, kv_e243_58, kv_o10, not_false_eq_true, not_true, if_true, if_false, kv_then_s, kv_then_v, kv_then_n, List.cons_append, List.nil_append, kv_Ci, kv_Cr, kv_Cn, kv_Cu, kv_C0, kv_catc, kv_gCi, kv_gCl, kv_gCr, kv_nb0, kv_nb1, kv_nbi, kv_nb01, Nat.reduceAdd, Nat.reduceLeDiff, kw_isCalm hK, hc, c1, eq_self, kw_mleft, e14, m5, hm, el2, r2, kv_suc]
    obtain ⟨t1, t2, t3⟩ := kw_trial h m3
    obtain ⟨z1, r1, x1⟩ := hlK (B - M) 0 (by omega) (kv_sc zK 39 36) t1 t2 t3
    obtain ⟨y1, s1, j1⟩ := kw_aside (d := d + 10) (zM := zM) (zlM := zlM)
    obtain ⟨z2, r2, x2⟩ := hlM (B - M) 0 (by omega) y1 (kw_J_Z j1) (kw_J_km j1) (by rw [kw_J_m j1]; exact em2) (fun i hi => j1.2.2 i (by omega))
    refine kw_A2 (r := kw_rc (fun i => kw_sh (kw_ci zK zM M i)) (B - M) 0) h ?_ ?_ x1 x2
    · have l36 : kv_sc zK 39 36 3 = zK 3 ∧ kv_sc zK 39 36 36 = zK 36 := ⟨kw_sc_fr zK (by omega) (by omega) (by omega), kw_sc_fr zK (by omega) (by omega) (by omega)⟩
      simp only [kv_e109_0, kv_e109_1, kv_e109_4, kv_e109_9, kv_e109_10, kv_e109_13, kv_e109_14, kv_e109_17, kv_e109_20, kv_e109_21, kv_e109_24, kv_e109_25, kv_e109_26, kv_o10, not_false_eq_true, not_true, if_true, if_false, kv_then_s, kv_then_v, kv_then_n, List.cons_append, List.nil_append, kv_Ci, kv_Cr, kv_Cn, kv_Cu, kv_C0, kv_catc, kv_gCi, kv_gCl, kv_gCr, kv_nb0, kv_nb1, kv_nbi, kv_nb01, Nat.reduceAdd, Nat.reduceLeDiff, kw_KhF h, c, eq_self, kv_isS36, kv_isS39, kv_copyS, kw_left, l36.1, l36.2, m4, m3, el]
      exact r1
    · simp only [kv_e243_0, kv_e243_1, kv_e243_4, kv_e243_9, kv_e243_10, kv_e243_13, kv_e243_14, kv_o10, not_false_eq_true, not_true, if_true, if_false, kv_then_s, kv_then_v, kv_then_n, List.cons_append, List.nil_append, kv_Ci, kv_Cr, kv_Cn, kv_Cu, kv_C0, kv_catc, kv_gCi, kv_gCl, kv_gCr, kv_nb0, kv_nb1, kv_nbi, kv_nb01, Nat.reduceAdd, Nat.reduceLeDiff, ez, c, s1]
      exact r2
end
