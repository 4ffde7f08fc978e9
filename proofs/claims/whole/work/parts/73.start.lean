/-! flights with a start told: the class changes the mode, the model waits -/
section
variable {d n B W : Nat} {e : List kv_E} {z zK zM zK' zM' : Nat → Nat → Int32} {zl zlM : Nat → Nat → Int64}
def kw_av (v : Nat) (c c' : Nat → Nat → Int32) : Prop := ∀ k w, w ≠ v → c' k w = c k w
theorem kw_av_climb {v : Nat} {fl : Option ((Nat → Int32) → Int32)} {wd : Int32 → Int32 → Int32} {pays m : Int32} {md : Nat → Int32} {c c' : Nat → Nat → Int32} (hv : v = 5 ∨ v = 8) (h : kw_av v c c') : kw_av v (kw_climbM fl wd pays m md c) (kw_climbM fl wd pays m md c') := by
  intro k w hw
  unfold kw_climbM
  rw [h k 11 (by omega)]
  by_cases q : c k 11 = 0
  · rw [if_pos q, if_pos q]
    exact h k w hw
  · rw [if_neg q, if_neg q]
    have e2 : kw_paid pays (md k) (c' k) = kw_paid pays (md k) (c k) := by
      unfold kw_paid
      rw [h k 2 (by omega), h k 3 (by omega)]
    have e3 : ∀ p, kw_lift fl wd (kw_rp p (c' k)) m = kw_lift fl wd (kw_rp p (c k)) m := by
      intro p
      have a4 : kw_rp p (c' k) 4 = kw_rp p (c k) 4 := h k 4 (by omega)
      have a1 : kw_rp p (c' k) 1 = kw_rp p (c k) 1 := h k 1 (by omega)
      have a3 : kw_rp p (c' k) 3 = kw_rp p (c k) 3 := rfl
      unfold kw_lift
      rw [a4, a1, a3]
    unfold kw_cl
    rw [e2, e3, h k 4 (by omega)]
    unfold kw_rh kw_rp
    by_cases q4 : w = 4
    · rw [if_pos q4, if_pos q4]
    · rw [if_neg q4, if_neg q4]
      by_cases q3 : w = 3
      · rw [if_pos q3, if_pos q3]
      · rw [if_neg q3, if_neg q3]
        exact h k w hw
theorem kw_av_wear {v : Nat} {fw : Option ((Nat → Int32) → Int32)} {m : Int32} {c c' : Nat → Nat → Int32} (hv : v = 5 ∨ v = 8) (h : kw_av v c c') (k o : Nat) : kw_wear fw (c' k) (c' o) m = kw_wear fw (c k) (c o) m := by
  unfold kw_wear
  rw [h k 4 (by omega), h o 4 (by omega), h k 6 (by omega), h o 6 (by omega), h k 1 (by omega), h k 3 (by omega)]
theorem kw_av_up {v : Nat} {c c' : Nat → Nat → Int32} (hv : v = 5 ∨ v = 8) (h : kw_av v c c') (k : Nat) : kw_up (c' k) = kw_up (c k) := by
  unfold kw_up
  rw [h k 11 (by omega), h k 4 (by omega)]
theorem kw_av_tch {v : Nat} {c c' : Nat → Nat → Int32} (hv : v = 5 ∨ v = 8) (h : kw_av v c c') (k o : Nat) : kw_tch (c' k) (c' o) = kw_tch (c k) (c o) := by
  unfold kw_tch
  rw [h k 0 (by omega), h o 0 (by omega), kw_av_up hv h o]
theorem kw_av_rub1 {v : Nat} {fw : Option ((Nat → Int32) → Int32)} {m : Int32} {c c' : Nat → Nat → Int32} (hv : v = 5 ∨ v = 8) (h : kw_av v c c') : kw_av v (kw_rub1 fw m c) (kw_rub1 fw m c') := by
  intro k w hw
  have es : kw_wsum fw m c' k 8 = kw_wsum fw m c k 8 := by
    unfold kw_wsum
    refine kw_sm_congr (fun o _ => ?_)
    rw [kw_av_tch hv h k o, kw_av_wear hv h k o]
  unfold kw_rub1
  rw [kw_av_up hv h k, es, h k 9 (by omega)]
  by_cases q : kw_up (c k)
  · rw [if_pos q, if_pos q]
    unfold kw_rw
    by_cases q9 : w = 9
    · rw [if_pos q9, if_pos q9]
    · rw [if_neg q9, if_neg q9]
      exact h k w hw
  · rw [if_neg q, if_neg q]
    exact h k w hw
theorem kw_av_cut {v : Nat} {c c' : Nat → Nat → Int32} (hv : v = 5 ∨ v = 8) (h : kw_av v c c') : kw_av v (kw_cut c) (kw_cut c') := by
  intro k w hw
  unfold kw_cut
  rw [h k 11 (by omega), h k 10 (by omega), h k 9 (by omega)]
  by_cases q : ¬ c k 11 = 0 ∧ kv_mx 1 (10 - 3 * c k 10) ≤ c k 9
  · rw [if_pos q, if_pos q]
    unfold kw_gr
    by_cases q3 : w = 3 ∨ w = 4 ∨ w = 11
    · rw [if_pos q3, if_pos q3]
    · rw [if_neg q3, if_neg q3]
      exact h k w hw
  · rw [if_neg q, if_neg q]
    exact h k w hw
theorem kw_av_pass {v : Nat} {fl fw : Option ((Nat → Int32) → Int32)} {wd : Int32 → Int32 → Int32} {pays m : Int32} {md : Nat → Int32} {c c' : Nat → Nat → Int32} (hv : v = 5 ∨ v = 8) (h : kw_av v c c') : kw_av v (kw_passM fl fw wd pays m md c) (kw_passM fl fw wd pays m md c') := kw_av_cut hv (kw_av_rub1 hv (kw_av_climb hv h))
abbrev kw_a8 (c c' : Nat → Nat → Int32) : Prop := kw_av 8 c c'
theorem kw_passM_w {fl fw : Option ((Nat → Int32) → Int32)} {wd : Int32 → Int32 → Int32} {pays m : Int32} {md : Nat → Int32} {c : Nat → Nat → Int32} {w : Nat} (hw : w ≠ 3 ∧ w ≠ 4 ∧ w ≠ 9 ∧ w ≠ 11) (k : Nat) : kw_passM fl fw wd pays m md c k w = c k w := (kw_rub_12 hw k).trans (kw_climbM_w ⟨hw.1, hw.2.1⟩ k)
theorem kw_dc_m1 {x : Int32} (h : kw_dc x = -1) : x ≤ 0 := by
  unfold kw_dc at h
  by_cases q : x ≤ 0
  · exact q
  · rw [if_neg q] at h
    have := congrArg (fun y => y + 1) h
    rw [Int32.sub_add_cancel] at this
    rw [this]
    decide
/-- delays at minute i -/
def kw_D (k : Nat) (other : Int32) (na nb : Nat) (i : Nat) : Nat → Int32 := fun j => if j = k then Int32.ofNat (na - i) else if j < 8 ∧ Int32.ofNat j = other then Int32.ofNat (nb - i) else -1
theorem kw_dc_N {a i : Nat} (ha : a < 2147483648) : kw_dc (Int32.ofNat (a - i)) = Int32.ofNat (a - (i + 1)) := by
  have h0 : (Int32.ofNat (a - i) ≤ 0) = (a - i ≤ 0) := kv_nle (b := 0) (by omega) (by omega)
  unfold kw_dc
  by_cases q : a - i ≤ 0
  · rw [if_pos (by rw [h0]; exact q)]
    congr 1
    omega
  · rw [if_neg (by rw [h0]; exact q), show a - i = (a - (i + 1)) + 1 from by omega, kv_pre]
theorem kw_D_s {k na nb : Nat} {other : Int32} (ha : na < 2147483648) (hb : nb < 2147483648) (i : Nat) : (fun j => kw_dc (kw_D k other na nb i j)) = kw_D k other na nb (i + 1) := by
  funext j
  unfold kw_D
  by_cases q : j = k
  · rw [if_pos q, if_pos q, kw_dc_N ha]
  · rw [if_neg q, if_neg q]
    by_cases q2 : j < 8 ∧ Int32.ofNat j = other
    · rw [if_pos q2, if_pos q2, kw_dc_N hb]
    · rw [if_neg q2, if_neg q2]
      rfl
theorem kw_md_N {c : Nat → Nat → Int32} {dl : Nat → Int32} {j a i : Nat} (ha : a < 2147483648) (h : dl j = Int32.ofNat (a - i)) : kw_md dl c j = if a ≤ i then 1 else 0 := by
  have h1 : ¬ (Int32.ofNat (a - i) = -1) := by rw [kw_of_m1 (by omega)]; exact fun q => q
  have h0 : (Int32.ofNat (a - i) = 0) = (a - i = 0) := kv_neq (b := 0) (by omega) (by omega)
  unfold kw_md
  rw [h, if_neg h1]
  by_cases q : a ≤ i
  · rw [if_pos q, if_pos (by rw [h0]; omega)]
  · rw [if_neg q, if_neg (by rw [h0]; omega)]
theorem kw_fsS (h : kw_R n B W zK zM) {M : Nat} {dl : Nat → Int32} {c : Nat → Nat → Int32} (hx : kw_XK zK z) (ha : kw_a8 c (kc z 39)) (h8 : ∀ j, kc z 39 j 8 = kw_md dl c j) (hm : z 39 3 = Int32.ofNat M) :
    ∃ z', kv_Rn (d + 4) 22 0 [some (.ref 33), some (.ref 39)] [] (kv_h e z zl) = some (none, kv_h e z' zl) ∧ kw_XK zK z' ∧ kw_a8 (kw_passM (kw_lf zK (zK 7 2)) (kw_lf zK (zK 7 3)) (kw_mwin zM) (zM 14 3) (Int32.ofNat M) (kw_md dl c) c) (kc z' 39) ∧ (∀ j, kc z' 39 j 8 = kc z 39 j 8) ∧ z' 39 3 = Int32.ofNat (M + 1) ∧ z' 171 = z 171 := by
  have lo : ∀ c, c < 34 → z c = zK c := fun c hc => hx c (by omega) (by omega) (by omega) (by omega) (by omega) (by omega)
  obtain ⟨z2, r1, p1, m1, q1⟩ := kw_passS (d := d) (e := e) (z := z) (zl := zl) (kv_isS39 e) (by omega) (kw_air_fr lo (kw_R_air h))
  have e3 : zK 3 3 = zM 14 3 := h.1.2.2.1.2.1 3 (by omega)
  rw [kw_passK, kw_lf_fr lo, kw_lf_fr lo, kw_win_fr lo, lo 7 (by omega), lo 3 (by omega), hm, kw_R_win h.1.2.1, e3, kw_md_1 (dl := dl), show (fun j => kc z 39 j 8) = kw_md dl c from funext h8] at q1
  refine ⟨z2, r1, fun c a1 a2 a3 a4 a5 a6 => (p1 c a3 a4 a1 a2).trans (hx c a1 a2 a3 a4 a5 a6), ?_, ?_, ?_, p1 171 (by omega) (by omega) (by omega) (by omega)⟩
  · rw [q1]
    exact kw_av_pass (Or.inr rfl) ha
  · intro j
    rw [q1]
    exact kw_passM_w (by omega) j
  · rw [m1]
    show z 39 3 + 1 = _
    rw [hm, kv_suc]
theorem kw_fs_set {k na nb i : Nat} {other : Int32} {c : Nat → Nat → Int32} (hk : k < 8) (ha : na < 2147483648) (hb : nb < 2147483648) (ho : other = -1 ∨ ∃ o, o < 8 ∧ other = Int32.ofNat o ∧ ¬ o = k) (hc : kw_a8 c (kc z 39)) (h8 : ∀ j, kw_D k other na nb i j = -1 → kc z 39 j 8 = c j 8) (z2 : Nat → Nat → Int32) (hz : z2 = if other = -1 then kv_su z 39 (Int32.ofNat k) 8 (if na ≤ i then 1 else 0) else kv_su (kv_su z 39 (Int32.ofNat k) 8 (if na ≤ i then 1 else 0)) 39 other 8 (if nb ≤ i then 1 else 0)) :
    (∀ c, c ≠ 40 → z2 c = z c) ∧ kw_a8 c (kc z2 39) ∧ ∀ j, kc z2 39 j 8 = kw_md (kw_D k other na nb i) c j := by
  have dk : kw_D k other na nb i k = Int32.ofNat (na - i) := if_pos rfl
  rcases ho with q | ⟨o, o1, q, o2⟩
  · rw [if_pos q] at hz
    subst hz
    refine ⟨fun c h => kw_su_fr _ _ _ _ _ h, ?_, ?_⟩
    · rw [kw_sk8 _ 39 hk]
      intro j w hw
      rw [kw_pt_ne _ _ (fun r => hw r.2)]
      exact hc j w hw
    · intro j
      rw [kw_sk8 _ 39 hk]
      by_cases e : j = k
      · subst e
        rw [kw_pt_at, kw_md_N ha dk]
      · have dj : kw_D k other na nb i j = -1 := by
          unfold kw_D
          rw [if_neg e, if_neg]
          rintro ⟨r1, r2⟩
          rw [q, kw_of_m1 (by omega)] at r2
          exact r2
        rw [kw_pt_ne _ _ (fun r => e r.1), h8 j dj]
        unfold kw_md
        rw [dj, if_pos rfl]
  · have q' : ¬ other = -1 := by rw [q, kw_of_m1 (by omega)]; exact fun r => r
    rw [if_neg q', q] at hz
    subst hz
    have dO : kw_D k other na nb i o = Int32.ofNat (nb - i) := by
      unfold kw_D
      rw [if_neg o2, if_pos ⟨o1, q.symm⟩]
    refine ⟨fun c h => (kw_su_fr _ _ _ _ _ h).trans (kw_su_fr _ _ _ _ _ h), ?_, ?_⟩
    · rw [kw_sk8 _ 39 o1, kw_sk8 _ 39 hk]
      intro j w hw
      rw [kw_pt_ne _ _ (fun r => hw r.2), kw_pt_ne _ _ (fun r => hw r.2)]
      exact hc j w hw
    · intro j
      rw [kw_sk8 _ 39 o1, kw_sk8 _ 39 hk]
      by_cases e0 : j = o
      · subst e0
        rw [kw_pt_at, kw_md_N hb dO]
      · rw [kw_pt_ne _ _ (fun r => e0 r.1)]
        by_cases e : j = k
        · subst e
          rw [kw_pt_at, kw_md_N ha dk]
        · have dj : kw_D k other na nb i j = -1 := by
            unfold kw_D
            rw [if_neg e, if_neg]
            rintro ⟨r1, r2⟩
            rw [q, kv_neq (by omega) (by omega)] at r2
            exact e0 r2
          rw [kw_pt_ne _ _ (fun r => e r.1), h8 j dj]
          unfold kw_md
          rw [dj, if_pos rfl]
theorem kw_fs_l (h : kw_R n B W zK zM) {k na nb : Nat} {other mn : Int32} (hk : k < 8) (ha : na < 2147483648) (hb : nb < 2147483648) (ho : other = -1 ∨ ∃ o, o < 8 ∧ other = Int32.ofNat o ∧ ¬ o = k) : ∀ (T i M : Nat) (z : Nat → Nat → Int32) (c : Nat → Nat → Int32), mn = Int32.ofNat (i + T) → i + T < 2147483648 → kw_XK zK z → kw_a8 c (kc z 39) → (∀ j, kw_D k other na nb i j = -1 → kc z 39 j 8 = c j 8) → z 39 3 = Int32.ofNat M →
    ∃ z', kv_Rn (d + 5) 145 20 [some (.ref 0), some (.int (Int32.ofNat k)), some (.int (Int32.ofNat na)), some (.int other), some (.int (Int32.ofNat nb)), some (.int mn), some (.int (Int32.ofNat i))] [] (kv_h e z zl) = some (none, kv_h e z' zl) ∧ kw_XK zK z' ∧ kw_a8 (kw_fly (kw_lf zK (zK 7 2)) (kw_lf zK (zK 7 3)) (kw_mwin zM) (zM 14 3) T (Int32.ofNat M) (kw_D k other na nb i) c) (kc z' 39) ∧ z' 171 = z 171 := by
  intro T
  induction T with
  | zero =>
    intro i M z c hmn hi hx hc h8 hm
    refine ⟨z, ?_, hx, hc, rfl⟩
    rw [kv_e145_20]
    simp only [kv_e145_22, kv_e145_24, kv_e145_92, kv_o10, not_false_eq_true, not_true, if_true, if_false, kv_then_s, kv_then_v, kv_then_n, List.cons_append, List.nil_append, kv_Ci, kv_Cr, kv_Cn, kv_Cu, kv_C0, kv_catc, kv_gCi, kv_gCl, kv_gCr, kv_nb0, kv_nb1, kv_nbi, kv_nb01, Nat.reduceAdd, Nat.reduceLeDiff, hmn, Nat.add_zero, kv_nle (show i < 2147483648 by omega) (show i < 2147483648 by omega), Nat.le_refl]
  | succ T ih =>
    intro i M z c hmn hi hx hc h8 hm
    generalize hz2 : (if other = -1 then kv_su z 39 (Int32.ofNat k) 8 (if na ≤ i then 1 else 0) else kv_su (kv_su z 39 (Int32.ofNat k) 8 (if na ≤ i then 1 else 0)) 39 other 8 (if nb ≤ i then 1 else 0)) = z2
    obtain ⟨f2, c2, m2⟩ := kw_fs_set hk ha hb ho hc h8 z2 hz2.symm
    have x2 : kw_XK zK z2 := fun c a1 a2 a3 a4 a5 a6 => (f2 c a4).trans (hx c a1 a2 a3 a4 a5 a6)
    obtain ⟨z3, r3, x3, c3, p3, t3, g3⟩ := kw_fsS (d := d) (e := e) (zl := zl) (dl := kw_D k other na nb i) (c := c) h x2 c2 m2 (by rw [f2 39 (by omega)]; exact hm)
    obtain ⟨z', r', x', c', g'⟩ := ih (i + 1) (M + 1) z3 _ (by rw [hmn]; congr 1; omega) (by omega) x3 c3 (fun j hj => by
      have hj0 : kw_D k other na nb i j = -1 := by
        have h0 := congrFun (kw_D_s (k := k) (other := other) ha hb i) j
        rw [hj] at h0
        have h1 := kw_dc_m1 h0
        unfold kw_D at h1 ⊢
        unfold kw_D at hj
        by_cases q : j = k
        · rw [if_pos q] at hj
          rw [kw_of_m1 (by omega)] at hj
          exact hj.elim
        · rw [if_neg q] at hj ⊢
          by_cases q2 : j < 8 ∧ Int32.ofNat j = other
          · rw [if_pos q2, kw_of_m1 (by omega)] at hj
            exact hj.elim
          · rw [if_neg q2]
      rw [p3 j, m2 j, kw_passM_w (by omega) j]
      unfold kw_md
      rw [hj0, if_pos rfl]) t3
    refine ⟨z', ?_, x', ?_, (g'.trans g3).trans (f2 171 (by omega))⟩
    · rw [← r', kv_e145_20]
      have q0 : (mn ≤ Int32.ofNat i) = False := by rw [hmn]; exact kv_ln_ (by omega) (by omega)
      by_cases qo : other = -1
      · rw [if_pos qo] at hz2
        by_cases qa : na ≤ i
        · rw [if_pos qa] at hz2
          simp only [kv_e145_0, kv_e145_1, kv_e145_4, kv_e145_5, kv_e145_8, kv_e145_11, kv_e145_12, kv_e145_15, kv_e145_17, kv_e145_18, kv_e145_22, kv_e145_24, kv_e145_27, kv_e145_28, kv_e145_31, kv_e145_32, kv_e145_34, kv_e145_36, kv_e145_37, kv_e145_40, kv_e145_41, kv_e145_44, kv_e145_45, kv_e145_48, kv_e145_49, kv_e145_50, kv_e145_53, kv_e145_54, kv_e145_57, kv_e145_58, kv_e145_60, kv_e145_62, kv_e145_64, kv_e145_67, kv_e145_68, kv_e145_71, kv_e145_72, kv_e145_75, kv_e145_76, kv_e145_79, kv_e145_80, kv_e145_83, kv_e145_86, kv_e145_89, kv_e145_92, kv_o10, not_false_eq_true, not_true, if_true, if_false, kv_then_s, kv_then_v, kv_then_n, List.cons_append, List.nil_append, kv_Ci, kv_Cr, kv_Cn, kv_Cu, kv_C0, kv_catc, kv_gCi, kv_gCl, kv_gCr, kv_nb0, kv_nb1, kv_nbi, kv_nb01, Nat.reduceAdd, Nat.reduceLeDiff, q0, kv_nle ha (show i < 2147483648 by omega), qa, qo, eq_self, kv_isS39, kv_set, hz2, r3, kv_suc]
        · rw [if_neg qa] at hz2
          simp only [kv_e145_0, kv_e145_1, kv_e145_4, kv_e145_5, kv_e145_8, kv_e145_11, kv_e145_12, kv_e145_15, kv_e145_17, kv_e145_18, kv_e145_22, kv_e145_24, kv_e145_27, kv_e145_28, kv_e145_31, kv_e145_32, kv_e145_34, kv_e145_36, kv_e145_37, kv_e145_40, kv_e145_41, kv_e145_44, kv_e145_45, kv_e145_48, kv_e145_49, kv_e145_50, kv_e145_53, kv_e145_54, kv_e145_57, kv_e145_58, kv_e145_60, kv_e145_62, kv_e145_64, kv_e145_67, kv_e145_68, kv_e145_71, kv_e145_72, kv_e145_75, kv_e145_76, kv_e145_79, kv_e145_80, kv_e145_83, kv_e145_86, kv_e145_89, kv_e145_92, kv_o10, not_false_eq_true, not_true, if_true, if_false, kv_then_s, kv_then_v, kv_then_n, List.cons_append, List.nil_append, kv_Ci, kv_Cr, kv_Cn, kv_Cu, kv_C0, kv_catc, kv_gCi, kv_gCl, kv_gCr, kv_nb0, kv_nb1, kv_nbi, kv_nb01, Nat.reduceAdd, Nat.reduceLeDiff, q0, kv_nle ha (show i < 2147483648 by omega), qa, qo, eq_self, kv_isS39, kv_set, hz2, r3, kv_suc]
      · rw [if_neg qo] at hz2
        by_cases qa : na ≤ i
        · rw [if_pos qa] at hz2
          by_cases qb : nb ≤ i
          · rw [if_pos qb] at hz2
            simp only [kv_e145_0, kv_e145_1, kv_e145_4, kv_e145_5, kv_e145_8, kv_e145_11, kv_e145_12, kv_e145_15, kv_e145_17, kv_e145_18, kv_e145_22, kv_e145_24, kv_e145_27, kv_e145_28, kv_e145_31, kv_e145_32, kv_e145_34, kv_e145_36, kv_e145_37, kv_e145_40, kv_e145_41, kv_e145_44, kv_e145_45, kv_e145_48, kv_e145_49, kv_e145_50, kv_e145_53, kv_e145_54, kv_e145_57, kv_e145_58, kv_e145_60, kv_e145_62, kv_e145_64, kv_e145_67, kv_e145_68, kv_e145_71, kv_e145_72, kv_e145_75, kv_e145_76, kv_e145_79, kv_e145_80, kv_e145_83, kv_e145_86, kv_e145_89, kv_e145_92, kv_o10, not_false_eq_true, not_true, if_true, if_false, kv_then_s, kv_then_v, kv_then_n, List.cons_append, List.nil_append, kv_Ci, kv_Cr, kv_Cn, kv_Cu, kv_C0, kv_catc, kv_gCi, kv_gCl, kv_gCr, kv_nb0, kv_nb1, kv_nbi, kv_nb01, Nat.reduceAdd, Nat.reduceLeDiff, q0, kv_nle ha (show i < 2147483648 by omega), kv_nle hb (show i < 2147483648 by omega), qa, qb, qo, kv_isS39, kv_set, hz2, r3, kv_suc]
          · rw [if_neg qb] at hz2
            simp only [kv_e145_0, kv_e145_1, kv_e145_4, kv_e145_5, kv_e145_8, kv_e145_11, kv_e145_12, kv_e145_15, kv_e145_17, kv_e145_18, kv_e145_22, kv_e145_24, kv_e145_27, kv_e145_28, kv_e145_31, kv_e145_32, kv_e145_34, kv_e145_36, kv_e145_37, kv_e145_40, kv_e145_41, kv_e145_44, kv_e145_45, kv_e145_48, kv_e145_49, kv_e145_50, kv_e145_53, kv_e145_54, kv_e145_57, kv_e145_58, kv_e145_60, kv_e145_62, kv_e145_64, kv_e145_67, kv_e145_68, kv_e145_71, kv_e145_72, kv_e145_75, kv_e145_76, kv_e145_79, kv_e145_80, kv_e145_83, kv_e145_86, kv_e145_89, kv_e145_92, kv_o10, not_false_eq_true, not_true, if_true, if_false, kv_then_s, kv_then_v, kv_then_n, List.cons_append, List.nil_append, kv_Ci, kv_Cr, kv_Cn, kv_Cu, kv_C0, kv_catc, kv_gCi, kv_gCl, kv_gCr, kv_nb0, kv_nb1, kv_nbi, kv_nb01, Nat.reduceAdd, Nat.reduceLeDiff, q0, kv_nle ha (show i < 2147483648 by omega), kv_nle hb (show i < 2147483648 by omega), qa, qb, qo, kv_isS39, kv_set, hz2, r3, kv_suc]
        · rw [if_neg qa] at hz2
          by_cases qb : nb ≤ i
          · rw [if_pos qb] at hz2
            simp only [kv_e145_0, kv_e145_1, kv_e145_4, kv_e145_5, kv_e145_8, kv_e145_11, kv_e145_12, kv_e145_15, kv_e145_17, kv_e145_18, kv_e145_22, kv_e145_24, kv_e145_27, kv_e145_28, kv_e145_31, kv_e145_32, kv_e145_34, kv_e145_36, kv_e145_37, kv_e145_40, kv_e145_41, kv_e145_44, kv_e145_45, kv_e145_48, kv_e145_49, kv_e145_50, kv_e145_53, kv_e145_54, kv_e145_57, kv_e145_58, kv_e145_60, kv_e145_62, kv_e145_64, kv_e145_67, kv_e145_68, kv_e145_71, kv_e145_72, kv_e145_75, kv_e145_76, kv_e145_79, kv_e145_80, kv_e145_83, kv_e145_86, kv_e145_89, kv_e145_92, kv_o10, not_false_eq_true, not_true, if_true, if_false, kv_then_s, kv_then_v, kv_then_n, List.cons_append, List.nil_append, kv_Ci, kv_Cr, kv_Cn, kv_Cu, kv_C0, kv_catc, kv_gCi, kv_gCl, kv_gCr, kv_nb0, kv_nb1, kv_nbi, kv_nb01, Nat.reduceAdd, Nat.reduceLeDiff, q0, kv_nle ha (show i < 2147483648 by omega), kv_nle hb (show i < 2147483648 by omega), qa, qb, qo, kv_isS39, kv_set, hz2, r3, kv_suc]
          · rw [if_neg qb] at hz2
            simp only [kv_e145_0, kv_e145_1, kv_e145_4, kv_e145_5, kv_e145_8, kv_e145_11, kv_e145_12, kv_e145_15, kv_e145_17, kv_e145_18, kv_e145_22, kv_e145_24, kv_e145_27, kv_e145_28, kv_e145_31, kv_e145_32, kv_e145_34, kv_e145_36, kv_e145_37, kv_e145_40, kv_e145_41, kv_e145_44, kv_e145_45, kv_e145_48, kv_e145_49, kv_e145_50, kv_e145_53, kv_e145_54, kv_e145_57, kv_e145_58, kv_e145_60, kv_e145_62, kv_e145_64, kv_e145_67, kv_e145_68, kv_e145_71, kv_e145_72, kv_e145_75, kv_e145_76, kv_e145_79, kv_e145_80, kv_e145_83, kv_e145_86, kv_e145_89, kv_e145_92, kv_o10, not_false_eq_true, not_true, if_true, if_false, kv_then_s, kv_then_v, kv_then_n, List.cons_append, List.nil_append, kv_Ci, kv_Cr, kv_Cn, kv_Cu, kv_C0, kv_catc, kv_gCi, kv_gCl, kv_gCr, kv_nb0, kv_nb1, kv_nbi, kv_nb01, Nat.reduceAdd, Nat.reduceLeDiff, q0, kv_nle ha (show i < 2147483648 by omega), kv_nle hb (show i < 2147483648 by omega), qa, qb, qo, kv_isS39, kv_set, hz2, r3, kv_suc]
    · rw [← kw_D_s ha hb i, ← kv_suc] at c'
      exact c'
/-- the class's flight with starts, beside the model's cells -/
theorem kw_startK (h : kw_R n B W zK zM) {M : Nat} (hM : zK 36 3 = Int32.ofNat M) (hB : M ≤ B) (hx : kw_XK zK z) {k na nb : Nat} {other : Int32} (hk : k < 8) (ha : na < 2147483648) (hb : nb < 2147483648) (ho : other = -1 ∨ ∃ o, o < 8 ∧ other = Int32.ofNat o ∧ ¬ o = k) :
    ∃ z', kv_Rn (d + 6) 145 0 [some (.ref 0), some (.int (Int32.ofNat k)), some (.int (Int32.ofNat na)), some (.int other), some (.int (Int32.ofNat nb)), none, none] [] (kv_h e z zl) = some (none, kv_h e z' zl) ∧ kw_XK zK z' ∧ kw_a8 (kw_Fl zK zM B M (kw_D k other na nb 0) (km zM)) (kc z' 39) ∧ z' 171 = z 171 := by
  obtain ⟨em, M', m1, m2, m3, m4, m5⟩ := kw_R_min h
  obtain ⟨hK, ekz, e3, e36⟩ := kw_XK_KK h hx
  have el : Int32.ofNat B - Int32.ofNat M = Int32.ofNat (B - M) := by
    have := @kw_subN M (B - M)
    rw [show M + (B - M) = B from by omega] at this
    exact this
  have x1 : kw_XK zK (kv_sc z 39 36) := fun c a1 a2 a3 a4 a5 a6 => (kw_sc_fr z a3 a4 a5).trans (hx c a1 a2 a3 a4 a5 a6)
  have c1 : kc (kv_sc z 39 36) 39 = km zM := by rw [kw_sc_kc, ekz]
  have t1 : kv_sc z 39 36 39 3 = Int32.ofNat M := by
    rw [kw_sc_0 z (by omega)]
    show z 36 3 = _
    rw [e36, hM]
  obtain ⟨z', r', x', c', g'⟩ := kw_fs_l (d := d + 1) (e := e) (zl := zl) (mn := Int32.ofNat (B - M)) h hk ha hb ho (B - M) 0 M (kv_sc z 39 36) (km zM) (by rw [Nat.zero_add]) (by omega) x1 (by rw [c1]; exact fun _ _ _ => rfl) (fun j _ => by rw [c1]) t1
  refine ⟨z', ?_, x', c', g'.trans (kw_sc_fr z (by omega) (by omega) (by omega))⟩
  have l36 : kv_sc z 39 36 3 = z 3 ∧ kv_sc z 39 36 36 = z 36 := ⟨kw_sc_fr z (by omega) (by omega) (by omega), kw_sc_fr z (by omega) (by omega) (by omega)⟩
  simp only [kv_e145_0, kv_e145_1, kv_e145_4, kv_e145_5, kv_e145_8, kv_e145_11, kv_e145_12, kv_e145_15, kv_e145_17, kv_e145_18, kv_o10, not_false_eq_true, not_true, if_true, if_false, kv_then_s, kv_then_v, kv_then_n, List.cons_append, List.nil_append, kv_Ci, kv_Cr, kv_Cn, kv_Cu, kv_C0, kv_catc, kv_gCi, kv_gCl, kv_gCr, kv_nb0, kv_nb1, kv_nbi, kv_nb01, Nat.reduceAdd, Nat.reduceLeDiff, kv_isS36, kv_isS39, kv_copyS, kw_left, l36.1, l36.2, e3, e36, m4, hM, el]
  exact r'
end
