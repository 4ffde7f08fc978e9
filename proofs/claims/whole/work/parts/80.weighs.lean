/-! weighs: what was seen, flights with another weight -/
section
variable {d n B W : Nat} {e : List kv_E} {z zK zM zK' zM' : Nat → Nat → Int32} {zl zlM : Nat → Nat → Int64}
noncomputable def kw_cj (zK zM : Nat → Nat → Int32) (M : Nat) (c0 : Nat → Nat → Int32) : Nat → (Nat → Nat → Int32)
  | 0 => c0
  | i + 1 => kw_passM (kw_lf zK (zK 7 2)) (kw_lf zK (zK 7 3)) (kw_mwin zM) (zM 14 3) (Int32.ofNat (M + i)) (kw_md (fun _ => -1) (kw_cj zK zM M c0 i)) (kw_cj zK zM M c0 i)
theorem kw_cj_ok (h : kw_R n B W zK zM) (M : Nat) {c0 : Nat → Nat → Int32} (h1 : kw_okc c0) (h2 : kw_01 n c0) : ∀ i, kw_okc (kw_cj zK zM M c0 i) ∧ kw_01 n (kw_cj zK zM M c0 i) := by
  intro i
  have hI := kw_R_I h
  induction i with
  | zero => exact ⟨h1, h2⟩
  | succ i ih => exact ⟨kw_passM_ok ih.1 hI.2.2.2.2, kw_passM_01 ih.2⟩
theorem kw_stepKj (h : kw_R n B W zK zM) {M i : Nat} {c0 : Nat → Nat → Int32} (hx : kw_XK zK z) (hc : kc z 39 = kw_cj zK zM M c0 i) (hm : z 39 3 = Int32.ofNat (M + i)) : ∃ z', kv_Rn (d + 4) 22 0 [some (.ref 33), some (.ref 39)] [] (kv_h e z zl) = some (none, kv_h e z' zl) ∧ kw_XK zK z' ∧ kc z' 39 = kw_cj zK zM M c0 (i + 1) ∧ z' 39 3 = Int32.ofNat (M + (i + 1)) := by
  have lo : ∀ c, c < 34 → z c = zK c := fun c hc => hx c (by omega) (by omega) (by omega) (by omega) (by omega) (by omega)
  obtain ⟨z2, r1, p1, m1, q1⟩ := kw_passS (d := d) (e := e) (z := z) (zl := zl) (kv_isS39 e) (by omega) (kw_air_fr lo (kw_R_air h))
  have e3 : zK 3 3 = zM 14 3 := h.1.2.2.1.2.1 3 (by omega)
  refine ⟨z2, r1, fun c a1 a2 a3 a4 a5 a6 => (p1 c a3 a4 a1 a2).trans (hx c a1 a2 a3 a4 a5 a6), ?_, ?_⟩
  · rw [q1, kw_passK, kw_lf_fr lo, kw_lf_fr lo, kw_win_fr lo, lo 7 (by omega), lo 3 (by omega), hm, hc, kw_R_win h.1.2.1, e3]
    rfl
  · rw [m1]
    show z 39 3 + 1 = _
    rw [hm, kv_suc]
    rfl
theorem kw_stepMj (h : kw_R n B W zK zM) {M i : Nat} {c0 : Nat → Nat → Int32} (h1 : kw_okc c0) (h2 : kw_01 n c0) (hM : M + i ≤ 1000) (hz : kw_Z zM z) (hc : km z = kw_cj zK zM M c0 i) (hm : z 16 104 = Int32.ofNat (M + i)) (hd : ∀ i, i < n → z 17 i = -1) : ∃ z' r, kv_Rn (d + 6) 215 0 [some (.ref 0)] [] (kv_m z zlM) = some (some (.int r), kv_m z' zlM) ∧ kw_Z zM z' ∧ km z' = kw_cj zK zM M c0 (i + 1) ∧ z' 16 104 = Int32.ofNat (M + (i + 1)) ∧ ∀ i, i < n → z' 17 i = -1 := by
  have ok := kw_cj_ok h M h1 h2 i
  have I := kw_Z_I h hz.1 (by rw [hc]; exact ok.2) (by rw [hc]; exact ok.1)
  have e14 := hz.1 14 (by omega) (by omega) (by omega) (by omega) (by omega) (by omega) (by omega)
  have e0 := hz.1 0 (by omega) (by omega) (by omega) (by omega) (by omega) (by omega) (by omega)
  have e15 := hz.1 15 (by omega) (by omega) (by omega) (by omega) (by omega) (by omega) (by omega)
  have ew : kw_mwin z = kw_mwin zM := by
    unfold kw_mwin
    rw [e0, e15]
  obtain ⟨z', r, p, q, dd, I2⟩ := kw_mpassS (d := d) (zl := zlM) I (by rw [hm]; exact kw_okm_of hM)
  have eq1 : kw_passM (kw_lf zK (zK 7 2)) (kw_lf zK (zK 7 3)) (kw_mwin z) (z 14 3) (z 16 104) (kw_md (z 17) (km z)) (km z) = kw_cj zK zM M c0 (i + 1) := by
    rw [ew, e14, hm, hc]
    exact kw_passM_md ok.2 hd
  rw [eq1] at q
  refine ⟨z', _, r, ⟨fun c a1 a2 a3 a4 a5 a6 a7 => (p.1.1 c a1 a2 a3 a4 a5).trans (hz.1 c a1 a2 a3 a4 a5 a6 a7), fun i hi => (p.1.2 i hi).trans (hz.2.1 i hi), fun i hi => by rw [p.1.1 20 (by omega) (by omega) (by omega) (by omega) (by omega)]; exact hz.2.2 i hi⟩, q, by rw [p.2, hm, kv_suc]; rfl, fun i hi => by rw [dd i, if_pos hi, hd i hi]; rfl⟩
theorem kw_fa_snoc (p : Nat → Bool) : ∀ (m k : Nat), kv_fa (m + 1) k p = (kv_fa m k p || p (k + m)) := by
  intro m
  induction m with
  | zero =>
    intro k
    rw [kv_fa_s, Nat.add_zero]
    show (p k || false) = (false || p k)
    cases p k <;> rfl
  | succ m ih =>
    intro k
    rw [kv_fa_s, ih (k + 1), kv_fa_s, Bool.or_assoc, show k + 1 + m = k + (m + 1) from by omega]
def kw_lan (K : Nat → Int32) (b : Nat → Nat) (x : Int32) : Nat → Nat
  | 0 => 0
  | i + 1 => if K i = x then max (kw_lan K b x i) (b i) else kw_lan K b x i
theorem kw_lan_le {K : Nat → Int32} {b : Nat → Nat} {x : Int32} {T : Nat} : ∀ s, (kw_lan K b x s ≤ T) = ∀ i, i < s → K i = x → b i ≤ T := by
  intro s
  induction s with
  | zero => exact propext ⟨fun _ i hi => by omega, fun _ => Nat.zero_le _⟩
  | succ s ih =>
    unfold kw_lan
    by_cases q : K s = x
    · rw [if_pos q]
      refine propext ⟨fun r i hi hk => ?_, fun r => ?_⟩
      · by_cases e : i = s
        · subst e
          omega
        · have r2 : kw_lan K b x s ≤ T := by omega
          rw [ih] at r2
          exact r2 i (by omega) hk
      · have r2 : kw_lan K b x s ≤ T := by
          rw [ih]
          exact fun i hi hk => r i (by omega) hk
        have := r s (by omega) q
        omega
    · rw [if_neg q, ih]
      refine propext ⟨fun r i hi hk => ?_, fun r i hi hk => r i (by omega) hk⟩
      by_cases e : i = s
      · subst e
        exact absurd hk q
      · exact r i (by omega) hk
theorem kw_mxN {a b : Nat} (ha : a < 2147483648) (hb : b < 2147483648) : kv_mx (Int32.ofNat a) (Int32.ofNat b) = Int32.ofNat (max a b) := by
  unfold kv_mx
  by_cases q : a < b
  · rw [if_pos (by rw [kv_nlt ha hb]; exact q), Nat.max_eq_right (by omega)]
  · rw [if_neg (by rw [kv_nlt ha hb]; exact q), Nat.max_eq_left (by omega)]
theorem kw_mnN {a b : Nat} (ha : a < 2147483648) (hb : b < 2147483648) : kv_mn (Int32.ofNat a) (Int32.ofNat b) = Int32.ofNat (min a b) := by
  unfold kv_mn
  by_cases q : b < a
  · rw [if_pos (by rw [kv_nlt hb ha]; exact q), Nat.min_eq_right (by omega)]
  · rw [if_neg (by rw [kv_nlt hb ha]; exact q), Nat.min_eq_left (by omega)]
theorem kw_le8' {k : Nat} (h : k < 2147483648) : ((8 : Int32) ≤ Int32.ofNat k) = (8 ≤ k) := kv_nle (a := 8) (by omega) h
theorem kw_lastOf {s : Nat} {b : Nat → Nat} (hs : s ≤ 8) (h1 : z 167 3 = Int32.ofNat s) (hb : ∀ i, i < s → z 169 i = Int32.ofNat (b i) ∧ b i ≤ 9) (x : Int32) : kv_Rn d 54 0 [some (.ref 167), some (.int x), none, none] [] (kv_h e z zl) = some (some (.int (Int32.ofNat (kw_lan (z 168) b x s))), kv_h e z zl) := by
  have ln : ∀ i, i ≤ s → kw_lan (z 168) b x i ≤ 9 := fun i hi => by
    rw [kw_lan_le]
    exact fun j hj _ => (hb j (by omega)).2
  have hl := kv_up (fun i => kv_Rn d 54 4 [some (.ref 167), some (.int x), some (.int (Int32.ofNat (kw_lan (z 168) b x i))), some (.int (Int32.ofNat i))] [] (kv_h e z zl) = some (some (.int (Int32.ofNat (kw_lan (z 168) b x s))), kv_h e z zl)) s ?_ ?_
  · simp only [kv_e54_0, kv_e54_1, kv_e54_2, kv_e54_3, kv_o10, not_false_eq_true, not_true, if_true, if_false, kv_then_s, kv_then_v, kv_then_n, List.cons_append, List.nil_append, kv_Ci, kv_Cr, kv_Cn, kv_Cu, kv_C0, kv_catc, kv_gCi, kv_gCl, kv_gCr, kv_nb0, kv_nb1, kv_nbi, kv_nb01, Nat.reduceAdd, Nat.reduceLeDiff]
    exact hl
  · rw [kv_e54_4]
    simp only [kv_e54_0, kv_e54_1, kv_e54_2, kv_e54_3, kv_e54_5, kv_e54_6, kv_e54_9, kv_e54_12, kv_e54_13, kv_e54_15, kv_e54_18, kv_e54_19, kv_e54_22, kv_e54_23, kv_e54_24, kv_e54_25, kv_e54_28, kv_e54_29, kv_e54_30, kv_e54_33, kv_e54_34, kv_e54_35, kv_e54_38, kv_e54_39, kv_e54_42, kv_e54_45, kv_e54_46, kv_o10, not_false_eq_true, not_true, if_true, if_false, kv_then_s, kv_then_v, kv_then_n, List.cons_append, List.nil_append, kv_Ci, kv_Cr, kv_Cn, kv_Cu, kv_C0, kv_catc, kv_gCi, kv_gCl, kv_gCr, kv_nb0, kv_nb1, kv_nbi, kv_nb01, Nat.reduceAdd, Nat.reduceLeDiff, h1, Int32.le_refl]
  · intro i hi ih
    have hi2 : i < 2147483648 := by omega
    have r : ∀ c j, c < 300 → kv_rd z c j = z c j := fun c j hc => kv_rd_lt hc
    rw [kv_e54_4, ← ih]
    by_cases q : z 168 i = x
    · have e1 : kw_lan (z 168) b x (i + 1) = max (kw_lan (z 168) b x i) (b i) := if_pos q
      rw [e1, ← kw_mxN (by have := ln i (by omega); omega) (by have := (hb i hi).2; omega), ← (hb i hi).1]
      simp only [kv_e54_0, kv_e54_1, kv_e54_2, kv_e54_3, kv_e54_5, kv_e54_6, kv_e54_9, kv_e54_12, kv_e54_13, kv_e54_15, kv_e54_18, kv_e54_19, kv_e54_22, kv_e54_23, kv_e54_24, kv_e54_25, kv_e54_28, kv_e54_29, kv_e54_30, kv_e54_33, kv_e54_34, kv_e54_35, kv_e54_38, kv_e54_39, kv_e54_42, kv_e54_45, kv_e54_46, kv_o10, not_false_eq_true, not_true, if_true, if_false, kv_then_s, kv_then_v, kv_then_n, List.cons_append, List.nil_append, kv_Ci, kv_Cr, kv_Cn, kv_Cu, kv_C0, kv_catc, kv_gCi, kv_gCl, kv_gCr, kv_nb0, kv_nb1, kv_nbi, kv_nb01, Nat.reduceAdd, Nat.reduceLeDiff, h1, kv_nle (show s < 2147483648 by omega) hi2, eq_false (show ¬ s ≤ i by omega), kw_le8' hi2, eq_false (show ¬ 8 ≤ i by omega), kw_n0 hi2, kv_tn hi2, kv_ar_lt (show 168 < 300 by omega), kv_ar_lt (show 169 < 300 by omega), r _ _ (show 168 < 300 by omega), r _ _ (show 169 < 300 by omega), kv_aw168, kv_aw169, or_self, q, kv_suc]
    · have e1 : kw_lan (z 168) b x (i + 1) = kw_lan (z 168) b x i := if_neg q
      rw [e1]
      simp only [kv_e54_0, kv_e54_1, kv_e54_2, kv_e54_3, kv_e54_5, kv_e54_6, kv_e54_9, kv_e54_12, kv_e54_13, kv_e54_15, kv_e54_18, kv_e54_19, kv_e54_22, kv_e54_23, kv_e54_24, kv_e54_25, kv_e54_28, kv_e54_29, kv_e54_30, kv_e54_33, kv_e54_34, kv_e54_35, kv_e54_38, kv_e54_39, kv_e54_42, kv_e54_45, kv_e54_46, kv_o10, not_false_eq_true, not_true, if_true, if_false, kv_then_s, kv_then_v, kv_then_n, List.cons_append, List.nil_append, kv_Ci, kv_Cr, kv_Cn, kv_Cu, kv_C0, kv_catc, kv_gCi, kv_gCl, kv_gCr, kv_nb0, kv_nb1, kv_nbi, kv_nb01, Nat.reduceAdd, Nat.reduceLeDiff, h1, kv_nle (show s < 2147483648 by omega) hi2, eq_false (show ¬ s ≤ i by omega), kw_le8' hi2, eq_false (show ¬ 8 ≤ i by omega), kw_n0 hi2, kv_tn hi2, kv_ar_lt (show 168 < 300 by omega), r _ _ (show 168 < 300 by omega), kv_aw168, or_self, q, kv_suc]
theorem kw_allows {s : Nat} (hs : s ≤ 8) (h1 : z 167 3 = Int32.ofNat s) (x m v : Int32) : kv_Rn d 55 0 [some (.ref 167), some (.int x), some (.int m), some (.int v), none] [] (kv_h e z zl) = some (some (.int (if kv_fa s 0 (fun i => decide (z 168 i = x ∧ z 169 i = m ∧ ¬ z 170 i = v)) = true then 0 else 1)), kv_h e z zl) := by
  have hl := kv_up (fun i => kv_Rn d 55 3 [some (.ref 167), some (.int x), some (.int m), some (.int v), some (.int (Int32.ofNat i))] [] (kv_h e z zl) = some (some (.int (if kv_fa (s - i) i (fun i => decide (z 168 i = x ∧ z 169 i = m ∧ ¬ z 170 i = v)) = true then 0 else 1)), kv_h e z zl)) s ?_ ?_
  · simp only [kv_e55_0, kv_e55_1, kv_o10, not_false_eq_true, not_true, if_true, if_false, kv_then_s, kv_then_v, kv_then_n, List.cons_append, List.nil_append, kv_Ci, kv_Cr, kv_Cn, kv_Cu, kv_C0, kv_catc, kv_gCi, kv_gCl, kv_gCr, kv_nb0, kv_nb1, kv_nbi, kv_nb01, Nat.reduceAdd, Nat.reduceLeDiff]
    exact hl
  · rw [kv_e55_3, Nat.sub_self]
    simp only [kv_e55_0, kv_e55_1, kv_e55_5, kv_e55_6, kv_e55_9, kv_e55_12, kv_e55_14, kv_e55_16, kv_e55_19, kv_e55_20, kv_e55_23, kv_e55_25, kv_e55_26, kv_e55_27, kv_e55_30, kv_e55_31, kv_e55_34, kv_e55_36, kv_e55_37, kv_e55_38, kv_e55_41, kv_e55_42, kv_e55_45, kv_e55_47, kv_e55_48, kv_e55_49, kv_e55_52, kv_e55_53, kv_e55_54, kv_e55_57, kv_e55_60, kv_e55_61, kv_o10, not_false_eq_true, not_true, if_true, if_false, kv_then_s, kv_then_v, kv_then_n, List.cons_append, List.nil_append, kv_Ci, kv_Cr, kv_Cn, kv_Cu, kv_C0, kv_catc, kv_gCi, kv_gCl, kv_gCr, kv_nb0, kv_nb1, kv_nbi, kv_nb01, Nat.reduceAdd, Nat.reduceLeDiff, h1, Int32.le_refl]
    rfl
  · intro i hi ih
    have hi2 : i < 2147483648 := by omega
    have r : ∀ c j, c < 300 → kv_rd z c j = z c j := fun c j hc => kv_rd_lt hc
    rw [kv_e55_3, show s - i = (s - (i + 1)) + 1 from by omega, kv_fa_s]
    by_cases q1 : z 168 i = x
    · by_cases q2 : z 169 i = m
      · by_cases q3 : z 170 i = v
        · simp only [kv_e55_0, kv_e55_1, kv_e55_5, kv_e55_6, kv_e55_9, kv_e55_12, kv_e55_14, kv_e55_16, kv_e55_19, kv_e55_20, kv_e55_23, kv_e55_25, kv_e55_26, kv_e55_27, kv_e55_30, kv_e55_31, kv_e55_34, kv_e55_36, kv_e55_37, kv_e55_38, kv_e55_41, kv_e55_42, kv_e55_45, kv_e55_47, kv_e55_48, kv_e55_49, kv_e55_52, kv_e55_53, kv_e55_54, kv_e55_57, kv_e55_60, kv_e55_61, kv_o10, not_false_eq_true, not_true, if_true, if_false, kv_then_s, kv_then_v, kv_then_n, List.cons_append, List.nil_append, kv_Ci, kv_Cr, kv_Cn, kv_Cu, kv_C0, kv_catc, kv_gCi, kv_gCl, kv_gCr, kv_nb0, kv_nb1, kv_nbi, kv_nb01, Nat.reduceAdd, Nat.reduceLeDiff, h1, kv_nle (show s < 2147483648 by omega) hi2, eq_false (show ¬ s ≤ i by omega), kw_le8' hi2, eq_false (show ¬ 8 ≤ i by omega), kw_n0 hi2, kv_tn hi2, kv_ar_lt (show 168 < 300 by omega), kv_ar_lt (show 169 < 300 by omega), kv_ar_lt (show 170 < 300 by omega), r _ _ (show 168 < 300 by omega), r _ _ (show 169 < 300 by omega), r _ _ (show 170 < 300 by omega), kv_aw168, kv_aw169, kv_aw170, or_self, q1, q2, q3, kv_suc, and_false, decide_false, Bool.false_or]
          exact ih
        · simp only [kv_e55_0, kv_e55_1, kv_e55_5, kv_e55_6, kv_e55_9, kv_e55_12, kv_e55_14, kv_e55_16, kv_e55_19, kv_e55_20, kv_e55_23, kv_e55_25, kv_e55_26, kv_e55_27, kv_e55_30, kv_e55_31, kv_e55_34, kv_e55_36, kv_e55_37, kv_e55_38, kv_e55_41, kv_e55_42, kv_e55_45, kv_e55_47, kv_e55_48, kv_e55_49, kv_e55_52, kv_e55_53, kv_e55_54, kv_e55_57, kv_e55_60, kv_e55_61, kv_o10, not_false_eq_true, not_true, if_true, if_false, kv_then_s, kv_then_v, kv_then_n, List.cons_append, List.nil_append, kv_Ci, kv_Cr, kv_Cn, kv_Cu, kv_C0, kv_catc, kv_gCi, kv_gCl, kv_gCr, kv_nb0, kv_nb1, kv_nbi, kv_nb01, Nat.reduceAdd, Nat.reduceLeDiff, h1, kv_nle (show s < 2147483648 by omega) hi2, eq_false (show ¬ s ≤ i by omega), kw_le8' hi2, eq_false (show ¬ 8 ≤ i by omega), kw_n0 hi2, kv_tn hi2, kv_ar_lt (show 168 < 300 by omega), kv_ar_lt (show 169 < 300 by omega), kv_ar_lt (show 170 < 300 by omega), r _ _ (show 168 < 300 by omega), r _ _ (show 169 < 300 by omega), r _ _ (show 170 < 300 by omega), kv_aw168, kv_aw169, kv_aw170, or_self, q1, q2, q3, and_self, decide_true, Bool.true_or]
      · simp only [kv_e55_0, kv_e55_1, kv_e55_5, kv_e55_6, kv_e55_9, kv_e55_12, kv_e55_14, kv_e55_16, kv_e55_19, kv_e55_20, kv_e55_23, kv_e55_25, kv_e55_26, kv_e55_27, kv_e55_30, kv_e55_31, kv_e55_34, kv_e55_36, kv_e55_37, kv_e55_38, kv_e55_41, kv_e55_42, kv_e55_45, kv_e55_47, kv_e55_48, kv_e55_49, kv_e55_52, kv_e55_53, kv_e55_54, kv_e55_57, kv_e55_60, kv_e55_61, kv_o10, not_false_eq_true, not_true, if_true, if_false, kv_then_s, kv_then_v, kv_then_n, List.cons_append, List.nil_append, kv_Ci, kv_Cr, kv_Cn, kv_Cu, kv_C0, kv_catc, kv_gCi, kv_gCl, kv_gCr, kv_nb0, kv_nb1, kv_nbi, kv_nb01, Nat.reduceAdd, Nat.reduceLeDiff, h1, kv_nle (show s < 2147483648 by omega) hi2, eq_false (show ¬ s ≤ i by omega), kw_le8' hi2, eq_false (show ¬ 8 ≤ i by omega), kw_n0 hi2, kv_tn hi2, kv_ar_lt (show 168 < 300 by omega), kv_ar_lt (show 169 < 300 by omega), r _ _ (show 168 < 300 by omega), r _ _ (show 169 < 300 by omega), kv_aw168, kv_aw169, or_self, q1, q2, kv_suc, false_and, and_false, decide_false, Bool.false_or]
        exact ih
    · simp only [kv_e55_0, kv_e55_1, kv_e55_5, kv_e55_6, kv_e55_9, kv_e55_12, kv_e55_14, kv_e55_16, kv_e55_19, kv_e55_20, kv_e55_23, kv_e55_25, kv_e55_26, kv_e55_27, kv_e55_30, kv_e55_31, kv_e55_34, kv_e55_36, kv_e55_37, kv_e55_38, kv_e55_41, kv_e55_42, kv_e55_45, kv_e55_47, kv_e55_48, kv_e55_49, kv_e55_52, kv_e55_53, kv_e55_54, kv_e55_57, kv_e55_60, kv_e55_61, kv_o10, not_false_eq_true, not_true, if_true, if_false, kv_then_s, kv_then_v, kv_then_n, List.cons_append, List.nil_append, kv_Ci, kv_Cr, kv_Cn, kv_Cu, kv_C0, kv_catc, kv_gCi, kv_gCl, kv_gCr, kv_nb0, kv_nb1, kv_nbi, kv_nb01, Nat.reduceAdd, Nat.reduceLeDiff, h1, kv_nle (show s < 2147483648 by omega) hi2, eq_false (show ¬ s ≤ i by omega), kw_le8' hi2, eq_false (show ¬ 8 ≤ i by omega), kw_n0 hi2, kv_tn hi2, kv_ar_lt (show 168 < 300 by omega), r _ _ (show 168 < 300 by omega), kv_aw168, or_self, q1, kv_suc, false_and, decide_false, Bool.false_or]
      exact ih
/-- a seen height that a flight doesn't show, of minute j -/
noncomputable def kw_bad (zK zM : Nat → Nat → Int32) (M s : Nat) (b : Nat → Nat) (k : Nat) (c0 : Nat → Nat → Int32) (j : Nat) : Bool := kv_fa s 0 (fun i => decide (zM 22 i = Int32.ofNat k ∧ b i = j ∧ ¬ zM 24 i = kw_cj zK zM M c0 j k 4))
noncomputable def kw_sw (zK zM : Nat → Nat → Int32) (B M s : Nat) (b : Nat → Nat) (k : Nat) (c0 : Nat → Nat → Int32) : Bool := !(decide (B - M < kw_lan (zM 22) b (Int32.ofNat k) s) || kv_fa (kw_lan (zM 22) b (Int32.ofNat k) s) 1 (kw_bad zK zM M s b k c0))
theorem kw_lan_congr {K K' : Nat → Int32} {b : Nat → Nat} {x : Int32} : ∀ s, (∀ i, i < s → K i = K' i) → kw_lan K b x s = kw_lan K' b x s := by
  intro s
  induction s with
  | zero => intro _; rfl
  | succ s ih =>
    intro h
    unfold kw_lan
    rw [h s (by omega), ih (fun i hi => h i (by omega))]
theorem kw_bad_big {zK zM : Nat → Nat → Int32} {M s : Nat} {b : Nat → Nat} {k : Nat} {c0 : Nat → Nat → Int32} {j : Nat} (h : kw_lan (zM 22) b (Int32.ofNat k) s < j) : kw_bad zK zM M s b k c0 j = false := by
  unfold kw_bad
  rw [kw_fa_f]
  intro i _ hi
  refine decide_eq_false (fun q => ?_)
  have h1 : kw_lan (zM 22) b (Int32.ofNat k) s ≤ j - 1 := by omega
  rw [kw_lan_le] at h1
  have := h1 i (by omega) q.1
  omega
theorem kw_late {K : Nat → Int32} {b : Nat → Nat} {x : Int32} {T s : Nat} : kv_fa s 0 (fun i => decide (K i = x ∧ T < b i)) = decide (T < kw_lan K b x s) := by
  have h1 := @kw_lan_le K b x T s
  by_cases q : kw_lan K b x s ≤ T
  · rw [decide_eq_false (by omega), kw_fa_f]
    rw [h1] at q
    exact fun i _ hi => decide_eq_false (fun r => by have := q i (by omega) r.1; omega)
  · rw [decide_eq_true (by omega)]
    rw [h1] at q
    cases hf : kv_fa s 0 (fun i => decide (K i = x ∧ T < b i)) with
    | true => rfl
    | false =>
      rw [kw_fa_f] at hf
      exact absurd (fun i hi hk => Nat.le_of_not_lt (fun r => of_decide_eq_false (hf i (by omega) (by omega)) ⟨hk, r⟩)) q
theorem kw_soK (h : kw_R n B W zK zM) {M s : Nat} {b : Nat → Nat} (hM : zK 36 3 = Int32.ofNat M) (hB : M ≤ B) (hs : s ≤ 8) (h1 : zK 167 3 = Int32.ofNat s) (hb : ∀ i, i < s → (zK 168 i = zM 22 i ∧ zK 169 i = Int32.ofNat (b i) ∧ zK 170 i = zM 24 i) ∧ b i ≤ 9) (hx : kw_XK zK z) {k w : Nat} (hk : k < 8) (hw : w ≤ 9) : ∃ z', kv_Rn (d + 6) 130 0 [some (.ref 0), some (.int (Int32.ofNat k)), some (.int (Int32.ofNat w)), none, none] [] (kv_h e z zl) = some (some (.int (if kw_sw zK zM B M s b k (kv_pt (km zM) k 1 (Int32.ofNat w)) = true then 1 else 0)), kv_h e z' zl) ∧ kw_XK zK z' := by
  obtain ⟨em, M', m1, m2, m3, m4, m5⟩ := kw_R_min h
  have el : Int32.ofNat B - Int32.ofNat M = Int32.ofNat (B - M) := by
    have := @kw_subN M (B - M)
    rw [show M + (B - M) = B from by omega] at this
    exact this
  have cell : ∀ {z : Nat → Nat → Int32}, kw_XK zK z → z 167 = zK 167 ∧ z 168 = zK 168 ∧ z 169 = zK 169 ∧ z 170 = zK 170 := fun {z} hx => ⟨hx 167 (by omega) (by omega) (by omega) (by omega) (by omega) (by omega), hx 168 (by omega) (by omega) (by omega) (by omega) (by omega) (by omega), hx 169 (by omega) (by omega) (by omega) (by omega) (by omega) (by omega), hx 170 (by omega) (by omega) (by omega) (by omega) (by omega) (by omega)⟩
  obtain ⟨hK, ekz, e3, e36⟩ := kw_XK_KK h hx
  obtain ⟨g1, g2, g3, g4⟩ := cell hx
  have lst := kw_lastOf (d := d + 5) (e := e) (z := z) (zl := zl) (b := b) hs (by rw [g1]; exact h1) (fun i hi => ⟨by rw [g3]; exact (hb i hi).1.2.1, (hb i hi).2⟩) (Int32.ofNat k)
  rw [g2, kw_lan_congr (K' := zM 22) s (fun i hi => (hb i hi).1.1)] at lst
  have L9 : kw_lan (zM 22) b (Int32.ofNat k) s ≤ 9 := by
    rw [kw_lan_le]
    exact fun i hi _ => (hb i hi).2
  unfold kw_sw
  generalize hL : kw_lan (zM 22) b (Int32.ofNat k) s = L at lst L9 ⊢
  generalize hc0 : kv_pt (km zM) k 1 (Int32.ofNat w) = c0
  by_cases q : B - M < L
  · refine ⟨z, ?_, hx⟩
    have q1 : (Int32.ofNat L ≤ Int32.ofNat (B - M)) = False := kv_ln_ q (by omega)
    simp only [kv_e130_0, kv_e130_1, kv_e130_4, kv_e130_5, kv_e130_8, kv_e130_9, kv_e130_10, kv_e130_11, kv_e130_14, kv_e130_17, kv_e130_18, kv_o10, not_false_eq_true, not_true, if_true, if_false, kv_then_s, kv_then_v, kv_then_n, List.cons_append, List.nil_append, kv_Ci, kv_Cr, kv_Cn, kv_Cu, kv_C0, kv_catc, kv_gCi, kv_gCl, kv_gCr, kv_nb0, kv_nb1, kv_nbi, kv_nb01, Nat.reduceAdd, Nat.reduceLeDiff, lst, kw_left, e3, e36, m4, hM, el, q1, q, decide_true, Bool.true_or, Bool.not_true, Bool.false_eq_true]
  · have q1 : (Int32.ofNat L ≤ Int32.ofNat (B - M)) = True := by rw [kv_nle (by omega) (by omega)]; exact eq_true (by omega)
    rw [decide_eq_false q, Bool.false_or]
    have hl : ∀ t j, j + t = L + 1 → 1 ≤ j → ∀ z, kw_XK zK z → kc z 39 = kw_cj zK zM M c0 (j - 1) → z 39 3 = Int32.ofNat (M + (j - 1)) → ∃ z', kv_Rn (d + 6) 130 43 [some (.ref 0), some (.int (Int32.ofNat k)), some (.int (Int32.ofNat w)), some (.int (Int32.ofNat L)), some (.int (Int32.ofNat j))] [] (kv_h e z zl) = some (some (.int (if (!kv_fa t j (kw_bad zK zM M s b k c0)) = true then 1 else 0)), kv_h e z' zl) ∧ kw_XK zK z' := by
      intro t
      induction t with
      | zero =>
        intro j hj hj1 z hx hc hm
        refine ⟨z, ?_, hx⟩
        have q2 : (Int32.ofNat L < Int32.ofNat j) = True := by rw [kv_nlt (by omega) (by omega)]; exact eq_true (by omega)
        rw [kv_e130_43]
        simp only [kv_e130_45, kv_e130_46, kv_e130_90, kv_e130_91, kv_o10, not_false_eq_true, not_true, if_true, if_false, kv_then_s, kv_then_v, kv_then_n, List.cons_append, List.nil_append, kv_Ci, kv_Cr, kv_Cn, kv_Cu, kv_C0, kv_catc, kv_gCi, kv_gCl, kv_gCr, kv_nb0, kv_nb1, kv_nbi, kv_nb01, Nat.reduceAdd, Nat.reduceLeDiff, q2]
        rfl
      | succ t ih =>
        intro j hj hj1 z hx hc hm
        have q2 : (Int32.ofNat L < Int32.ofNat j) = False := by rw [kv_nlt (by omega) (by omega)]; exact eq_false (by omega)
        obtain ⟨z2, r2, x2, c2, m2'⟩ := kw_stepKj (d := d + 1) (e := e) (zl := zl) h hx hc hm
        rw [show j - 1 + 1 = j from by omega] at c2 m2'
        obtain ⟨f1, f2, f3, f4⟩ := cell x2
        have al := kw_allows (d := d + 5) (e := e) (z := z2) (zl := zl) hs (by rw [f1]; exact h1) (Int32.ofNat k) (Int32.ofNat j) (kw_cj zK zM M c0 j k 4)
        have eb : kv_fa s 0 (fun i => decide (z2 168 i = Int32.ofNat k ∧ z2 169 i = Int32.ofNat j ∧ ¬ z2 170 i = kw_cj zK zM M c0 j k 4)) = kw_bad zK zM M s b k c0 j := by
          unfold kw_bad
          refine kw_fa_congr s 0 (fun i _ hi => ?_)
          obtain ⟨⟨b1, b2, b3⟩, b4⟩ := hb i (by omega)
          rw [f2, f3, f4, b1, b2, b3]
          congr 1
          rw [kv_neq (by omega) (by omega)]
        rw [eb] at al
        have gg : kv_gt z2 39 (Int32.ofNat k) 4 = kw_cj zK zM M c0 j k 4 := by rw [kv_g4 _ 39 hk, c2]
        rw [kv_fa_s]
        cases hbad : kw_bad zK zM M s b k c0 j with
        | true =>
          refine ⟨z2, ?_, x2⟩
          rw [hbad] at al
          rw [kv_e130_43]
          simp only [kv_e130_0, kv_e130_1, kv_e130_4, kv_e130_5, kv_e130_8, kv_e130_9, kv_e130_10, kv_e130_11, kv_e130_14, kv_e130_17, kv_e130_18, kv_e130_19, kv_e130_20, kv_e130_23, kv_e130_24, kv_e130_27, kv_e130_30, kv_e130_31, kv_e130_34, kv_e130_35, kv_e130_36, kv_e130_37, kv_e130_40, kv_e130_41, kv_e130_45, kv_e130_46, kv_e130_49, kv_e130_50, kv_e130_53, kv_e130_54, kv_e130_57, kv_e130_60, kv_e130_61, kv_e130_64, kv_e130_65, kv_e130_67, kv_e130_68, kv_e130_71, kv_e130_72, kv_e130_73, kv_e130_76, kv_e130_79, kv_e130_82, kv_e130_83, kv_e130_84, kv_e130_87, kv_e130_90, kv_e130_91, kv_o10, not_false_eq_true, not_true, if_true, if_false, kv_then_s, kv_then_v, kv_then_n, List.cons_append, List.nil_append, kv_Ci, kv_Cr, kv_Cn, kv_Cu, kv_C0, kv_catc, kv_gCi, kv_gCl, kv_gCr, kv_nb0, kv_nb1, kv_nbi, kv_nb01, Nat.reduceAdd, Nat.reduceLeDiff, q2, kv_isS39, r2, kv_get, gg, al, eq_self, Bool.true_or, Bool.not_true, Bool.false_eq_true]
        | false =>
          rw [hbad] at al
          obtain ⟨z', r', x'⟩ := ih (j + 1) (by omega) (by omega) z2 x2 (by rw [show j + 1 - 1 = j from by omega]; exact c2) (by rw [show j + 1 - 1 = j from by omega]; exact m2')
          refine ⟨z', ?_, x'⟩
          rw [Bool.false_or, ← r', kv_e130_43]
          simp only [kv_e130_0, kv_e130_1, kv_e130_4, kv_e130_5, kv_e130_8, kv_e130_9, kv_e130_10, kv_e130_11, kv_e130_14, kv_e130_17, kv_e130_18, kv_e130_19, kv_e130_20, kv_e130_23, kv_e130_24, kv_e130_27, kv_e130_30, kv_e130_31, kv_e130_34, kv_e130_35, kv_e130_36, kv_e130_37, kv_e130_40, kv_e130_41, kv_e130_45, kv_e130_46, kv_e130_49, kv_e130_50, kv_e130_53, kv_e130_54, kv_e130_57, kv_e130_60, kv_e130_61, kv_e130_64, kv_e130_65, kv_e130_67, kv_e130_68, kv_e130_71, kv_e130_72, kv_e130_73, kv_e130_76, kv_e130_79, kv_e130_82, kv_e130_83, kv_e130_84, kv_e130_87, kv_e130_90, kv_e130_91, kv_o10, not_false_eq_true, not_true, if_true, if_false, kv_then_s, kv_then_v, kv_then_n, List.cons_append, List.nil_append, kv_Ci, kv_Cr, kv_Cn, kv_Cu, kv_C0, kv_catc, kv_gCi, kv_gCl, kv_gCr, kv_nb0, kv_nb1, kv_nbi, kv_nb01, Nat.reduceAdd, Nat.reduceLeDiff, q2, kv_isS39, r2, kv_get, gg, al, Bool.false_eq_true, kv_suc]
    have xs : kw_XK zK (kv_su (kv_sc z 39 36) 39 (Int32.ofNat k) 1 (Int32.ofNat w)) := fun c a1 a2 a3 a4 a5 a6 => (kw_su_fr _ _ _ _ _ a4).trans ((kw_sc_fr z a3 a4 a5).trans (hx c a1 a2 a3 a4 a5 a6))
    obtain ⟨z', r', x'⟩ := hl L 1 (by omega) (by omega) _ xs (by rw [kw_sk1 _ 39 hk, kw_sc_kc, ekz, hc0]; rfl) (by
      rw [kw_su_fr _ _ _ _ _ (by omega), kw_sc_0 z (by omega)]
      show z 36 3 = _
      rw [e36]
      exact hM)
    refine ⟨z', ?_, x'⟩
    simp only [kv_e130_0, kv_e130_1, kv_e130_4, kv_e130_5, kv_e130_8, kv_e130_9, kv_e130_10, kv_e130_11, kv_e130_14, kv_e130_19, kv_e130_20, kv_e130_23, kv_e130_24, kv_e130_27, kv_e130_30, kv_e130_31, kv_e130_34, kv_e130_35, kv_e130_36, kv_e130_37, kv_e130_40, kv_e130_41, kv_o10, not_false_eq_true, not_true, if_true, if_false, kv_then_s, kv_then_v, kv_then_n, List.cons_append, List.nil_append, kv_Ci, kv_Cr, kv_Cn, kv_Cu, kv_C0, kv_catc, kv_gCi, kv_gCl, kv_gCr, kv_nb0, kv_nb1, kv_nbi, kv_nb01, Nat.reduceAdd, Nat.reduceLeDiff, lst, kw_left, e3, e36, m4, hM, el, q1, kv_isS36, kv_isS39, kv_copyS, kv_set]
    exact r'
end
