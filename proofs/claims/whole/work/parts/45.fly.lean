/-! to the bell -/
section
variable {d n : Nat} {e : List kv_E} {z : Nat → Nat → Int32} {zl : Nat → Nat → Int64}
noncomputable def kw_fly (fl fw : Option ((Nat → Int32) → Int32)) (wd : Int32 → Int32 → Int32) (pays : Int32) : Nat → Int32 → (Nat → Int32) → (Nat → Nat → Int32) → (Nat → Nat → Int32)
  | 0, _, _, c => c
  | T + 1, m, dl, c => kw_fly fl fw wd pays T (m + 1) (fun i => kw_dc (dl i)) (kw_passM fl fw wd pays m (kw_md dl c) c)
theorem kw_climbM_md {fl : Option ((Nat → Int32) → Int32)} {wd : Int32 → Int32 → Int32} {pays m : Int32} {md md' : Nat → Int32} {c : Nat → Nat → Int32} (h : ∀ k, ¬ c k 11 = 0 → md k = md' k) : kw_climbM fl wd pays m md c = kw_climbM fl wd pays m md' c := by
  funext k
  unfold kw_climbM
  by_cases q : c k 11 = 0
  · rw [if_pos q, if_pos q]
  · rw [if_neg q, if_neg q, h k q]
theorem kw_passM_md {fl fw : Option ((Nat → Int32) → Int32)} {wd : Int32 → Int32 → Int32} {pays m : Int32} {dl dl' : Nat → Int32} {c : Nat → Nat → Int32} (h1 : kw_01 n c) (h : ∀ k, k < n → dl k = dl' k) : kw_passM fl fw wd pays m (kw_md dl c) c = kw_passM fl fw wd pays m (kw_md dl' c) c := by
  unfold kw_passM
  rw [kw_climbM_md (md := kw_md dl c) (md' := kw_md dl' c) (fun k q => by
    unfold kw_md
    rw [h k (Nat.lt_of_not_le (fun r => q ((h1 k).2 r)))])]
theorem kw_passM_11 {fl fw : Option ((Nat → Int32) → Int32)} {wd : Int32 → Int32 → Int32} {pays m : Int32} {md : Nat → Int32} {c : Nat → Nat → Int32} {k : Nat} (h : c k 11 = 0) : kw_passM fl fw wd pays m md c k 11 = 0 := by
  unfold kw_passM kw_rub kw_cut
  split
  · rfl
  · rw [kw_rub_11, kw_climbM_11]
    exact h
theorem kw_bs_or (p q : Nat → Bool) : ∀ n, kv_bs n p ||| kv_bs n q = kv_bs n (fun k => p k || q k) := by
  intro n
  induction n with
  | zero => exact (show (0 : Int32) ||| 0 = 0 from by decide)
  | succ n ih =>
    rw [kv_bs_s, kv_bs_s, kv_bs_s, ← ih]
    generalize (1 : Int32) <<< (Int32.ofNat n &&& 31) = x
    generalize kv_bs n p = a
    generalize kv_bs n q = b
    cases p n <;> cases q n <;> simp only [Bool.false_eq_true, if_true, if_false, Bool.or_true, Bool.or_false, Bool.true_or, Bool.or_self]
    · rw [Int32.or_assoc]
    · rw [Int32.or_assoc, Int32.or_comm x b, ← Int32.or_assoc]
    · rw [Int32.or_assoc a x, Int32.or_comm x, Int32.or_assoc b, Int32.or_self, ← Int32.or_assoc]
theorem kw_bs_congr {p q : Nat → Bool} : ∀ {n : Nat}, (∀ k, k < n → p k = q k) → kv_bs n p = kv_bs n q := by
  intro n
  induction n with
  | zero => intro _; rfl
  | succ n ih =>
    intro h
    rw [kv_bs_s, kv_bs_s, h n (by omega), ih (fun k hk => h k (by omega))]
theorem kw_bs_0 {p : Nat → Bool} : ∀ {n : Nat}, (∀ k, k < n → p k = false) → kv_bs n p = 0 := by
  intro n
  induction n with
  | zero => intro _; rfl
  | succ n ih =>
    intro h
    rw [kv_bs_s, h n (by omega), ih (fun k hk => h k (by omega))]
    rfl
theorem kw_cb_0 (c : Nat → Nat → Int32) : kw_cb c c 8 = 0 := by
  unfold kw_cb
  exact kw_bs_0 (fun k _ => decide_eq_false (fun q => q.1 q.2))
theorem kw_cb_tr {c c1 c2 : Nat → Nat → Int32} (h1 : ∀ k, c k 11 = 0 → c1 k 11 = 0) (h2 : ∀ k, c1 k 11 = 0 → c2 k 11 = 0) : kw_cb c c1 8 ||| kw_cb c1 c2 8 = kw_cb c c2 8 := by
  unfold kw_cb
  rw [kw_bs_or]
  refine kw_bs_congr (fun k _ => ?_)
  have a1 := h1 k
  have a2 := h2 k
  by_cases q0 : c k 11 = 0
  · simp [q0, a1 q0]
  · by_cases q1 : c1 k 11 = 0
    · simp [q0, q1, a2 q1]
    · simp [q0, q1]
def kw_Q (z z' : Nat → Nat → Int32) : Prop := (∀ c, c ≠ 9 → c ≠ 10 → c ≠ 16 → c ≠ 17 → c ≠ 18 → z' c = z c) ∧ ∀ i, 105 ≤ i → z' 16 i = z 16 i
theorem kw_Q_tr {z z1 z2 : Nat → Nat → Int32} (h : kw_Q z z1) (g : kw_Q z1 z2) : kw_Q z z2 := ⟨fun c a1 a2 a3 a4 a5 => (g.1 c a1 a2 a3 a4 a5).trans (h.1 c a1 a2 a3 a4 a5), fun i hi => (g.2 i hi).trans (h.2 i hi)⟩
theorem kw_mleft : kv_Rn d 199 0 [some (.ref 0)] [] (kv_m z zl) = some (some (.int (z 14 1 - z 16 104)), kv_m z zl) := by
  simp only [kv_e199_0, kv_e199_1, kv_e199_4, kv_e199_5, kv_e199_6, kv_e199_7, kv_e199_10, kv_e199_12, kv_e199_13, kv_e199_14, kv_o10, not_false_eq_true, not_true, if_true, if_false, kv_then_s, kv_then_v, kv_then_n, List.cons_append, List.nil_append, kv_Ci, kv_Cr, kv_Cn, kv_Cu, kv_C0, kv_catc, kv_gCi, kv_gCl, kv_gCr, kv_nb0, kv_nb1, kv_nbi, kv_nb01, Nat.reduceAdd, Nat.reduceLeDiff, kv_ar_lt (show 14 < 300 by omega), kv_rd_lt (show 14 < 300 by omega), kv_am14, kv_ar_lt (show 16 < 300 by omega), kv_rd_lt (show 16 < 300 by omega), kv_am16, kw_p1, kw_t1, kv_l104, kv_t104, or_self]
theorem kw_subN {a b : Nat} : Int32.ofNat (a + b) - Int32.ofNat a = Int32.ofNat b := by
  rw [Int32.ofNat_add, Int32.add_comm]
  exact Int32.add_sub_cancel _ _
theorem kw_okm_of {M : Nat} (h : M ≤ 1000) : kw_okm (Int32.ofNat M) := by
  unfold kw_okm kw_rg
  rw [kv_ti (by omega)]
  omega
theorem kw_toBell {fl fw : Option ((Nat → Int32) → Int32)} : ∀ (T M : Nat) (z : Nat → Nat → Int32) (dl : Nat → Int32) (cut : Int32), kw_I n fl fw z → z 16 104 = Int32.ofNat M → z 14 1 = Int32.ofNat (M + T) → M + T ≤ 1000 → (∀ i, i < n → z 17 i = dl i) →
    ∃ z', kv_Rn (d + 7) 238 2 [some (.ref 0), some (.int cut)] [] (kv_m z zl) = some (some (.int (cut ||| kw_cb (km z) (km z') 8)), kv_m z' zl) ∧ kw_Q z z' ∧ km z' = kw_fly fl fw (kw_mwin z) (z 14 3) T (Int32.ofNat M) dl (km z) ∧ z' 16 104 = Int32.ofNat (M + T) ∧ kw_I n fl fw z' ∧ (∀ k, km z k 11 = 0 → km z' k 11 = 0) := by
  intro T
  induction T with
  | zero =>
    intro M z dl cut hI hm hb h1 hd
    refine ⟨z, ?_, ⟨fun _ _ _ _ _ _ => rfl, fun _ _ => rfl⟩, rfl, hm, hI, fun _ q => q⟩
    rw [kw_cb_0, Int32.or_zero, kv_e238_2]
    have h0 : Int32.ofNat (M + 0) - Int32.ofNat M ≤ 0 := by rw [kw_subN]; decide
    simp only [kv_e238_3, kv_e238_6, kv_e238_19, kv_e238_20, kv_o10, not_false_eq_true, not_true, if_true, if_false, kv_then_s, kv_then_v, kv_then_n, List.cons_append, List.nil_append, kv_Ci, kv_Cr, kv_Cn, kv_Cu, kv_C0, kv_catc, kv_gCi, kv_gCl, kv_gCr, kv_nb0, kv_nb1, kv_nbi, kv_nb01, Nat.reduceAdd, Nat.reduceLeDiff, kw_mleft, hb, hm, h0]
  | succ T ih =>
    intro M z dl cut hI hm hb h1 hd
    obtain ⟨z1, r1, p1, q1, d1, I1⟩ := kw_mpassS (d := d) (zl := zl) hI (by rw [hm]; exact kw_okm_of (by omega))
    have e14 : z1 14 = z 14 := p1.1.1 14 (by omega) (by omega) (by omega) (by omega) (by omega)
    have e0 : z1 0 = z 0 := p1.1.1 0 (by omega) (by omega) (by omega) (by omega) (by omega)
    have e15 : z1 15 = z 15 := p1.1.1 15 (by omega) (by omega) (by omega) (by omega) (by omega)
    have ew : kw_mwin z1 = kw_mwin z := by
      unfold kw_mwin
      rw [e0, e15]
    obtain ⟨z', r2, p2, q2, m2, I2, n2⟩ := ih (M + 1) z1 (fun i => kw_dc (dl i)) (cut ||| kw_cb (km z) (km z1) 8) I1 (by rw [p1.2, hm, kv_suc]) (by rw [e14, hb]; congr 1; omega) (by omega) (fun i hi => by rw [d1 i, if_pos hi, hd i hi])
    have mono1 : ∀ k, km z k 11 = 0 → km z1 k 11 = 0 := fun k q => by rw [q1]; exact kw_passM_11 q
    refine ⟨z', ?_, kw_Q_tr ⟨p1.1.1, p1.1.2⟩ p2, ?_, by rw [m2]; congr 1; omega, I2, fun k q => n2 k (mono1 k q)⟩
    · rw [Int32.or_assoc, kw_cb_tr mono1 n2] at r2
      rw [← r2, kv_e238_2]
      have h0 : ¬ Int32.ofNat (M + (T + 1)) - Int32.ofNat M ≤ 0 := by
        rw [kw_subN]
        exact fun q => by
          have := (kv_nle (a := T + 1) (b := 0) (by omega) (by omega)).mp q
          omega
      rw [← q1] at r1
      simp only [kv_e238_3, kv_e238_6, kv_e238_9, kv_e238_10, kv_e238_11, kv_e238_14, kv_e238_15, kv_e238_16, kv_o10, not_false_eq_true, not_true, if_true, if_false, kv_then_s, kv_then_v, kv_then_n, List.cons_append, List.nil_append, kv_Ci, kv_Cr, kv_Cn, kv_Cu, kv_C0, kv_catc, kv_gCi, kv_gCl, kv_gCr, kv_nb0, kv_nb1, kv_nbi, kv_nb01, Nat.reduceAdd, Nat.reduceLeDiff, kw_mleft, hb, hm, h0, r1]
    · rw [q2, q1, ew, e14, hm]
      show kw_fly fl fw (kw_mwin z) (z 14 3) T (Int32.ofNat (M + 1)) (fun i => kw_dc (dl i)) _ = kw_fly fl fw (kw_mwin z) (z 14 3) T (Int32.ofNat M + 1) (fun i => kw_dc (dl i)) _
      rw [kv_suc, kw_passM_md hI.1.1.2 hd]
theorem kw_passK (z : Nat → Nat → Int32) (m : Int32) (c : Nat → Nat → Int32) : kw_pass z m c = kw_passM (kw_lf z (z 7 2)) (kw_lf z (z 7 3)) (kw_win z) (z 3 3) m (kw_md (fun _ => -1) c) c := by
  unfold kw_pass kw_passM
  rw [kw_climb_M]
  congr 1
def kw_HT (z z' : Nat → Nat → Int32) : Prop := ∀ c, c ≠ 39 → c ≠ 40 → c ≠ 34 → c ≠ 35 → z' c = z c
theorem kw_flyT_l (h9 : kw_air z) (mn : Int32) : ∀ (T i M : Nat) (z1 : Nat → Nat → Int32), mn = Int32.ofNat (i + T) → i + T < 2147483648 → kw_HT z z1 → z1 39 3 = Int32.ofNat M → ∃ z', kv_Rn (d + 5) 144 7 [some (.ref 0), some (.int mn), some (.int (Int32.ofNat i))] [] (kv_h e z1 zl) = some (none, kv_h e z' zl) ∧ kw_HT z z' ∧ kc z' 39 = kw_fly (kw_lf z (z 7 2)) (kw_lf z (z 7 3)) (kw_win z) (z 3 3) T (Int32.ofNat M) (fun _ => -1) (kc z1 39) ∧ z' 39 = upd (z1 39) 3 (Int32.ofNat (M + T)) := by
  intro T
  induction T with
  | zero =>
    intro i M z1 hmn hi hF hM
    refine ⟨z1, ?_, hF, rfl, ?_⟩
    · rw [kv_e144_7]
      simp only [kv_e144_0, kv_e144_1, kv_e144_4, kv_e144_5, kv_e144_6, kv_e144_8, kv_e144_9, kv_e144_12, kv_e144_13, kv_e144_16, kv_e144_17, kv_e144_20, kv_e144_23, kv_e144_26, kv_e144_29, kv_o10, not_false_eq_true, not_true, if_true, if_false, kv_then_s, kv_then_v, kv_then_n, List.cons_append, List.nil_append, kv_Ci, kv_Cr, kv_Cn, kv_Cu, kv_C0, kv_catc, kv_gCi, kv_gCl, kv_gCr, kv_nb0, kv_nb1, kv_nbi, kv_nb01, Nat.reduceAdd, Nat.reduceLeDiff, hmn, Nat.add_zero, kv_nle (show i < 2147483648 by omega) (show i < 2147483648 by omega), Nat.le_refl]
    · funext j
      unfold upd
      by_cases h : j = 3
      · subst h
        rw [if_pos rfl, hM]
        rfl
      · rw [if_neg h]
  | succ T ih =>
    intro i M z1 hmn hi hF hM
    have lo : ∀ c, c < 34 → z1 c = z c := fun c hc => hF c (by omega) (by omega) (by omega) (by omega)
    obtain ⟨z2, r1, p1, m1, q1⟩ := kw_passS (d := d) (e := e) (z := z1) (zl := zl) (kv_isS39 e) (by omega) (kw_air_fr lo h9)
    have kp : kw_pass z1 (z1 39 3) (kc z1 39) = kw_passM (kw_lf z (z 7 2)) (kw_lf z (z 7 3)) (kw_win z) (z 3 3) (Int32.ofNat M) (kw_md (fun _ => -1) (kc z1 39)) (kc z1 39) := by
      rw [kw_passK, kw_lf_fr lo, kw_lf_fr lo, kw_win_fr lo, lo 7 (by omega), lo 3 (by omega), hM]
    obtain ⟨z', r2, p2, q2, m2⟩ := ih (i + 1) (M + 1) z2 (by rw [hmn]; congr 1; omega) (by omega) (fun c a1 a2 a3 a4 => (p1 c a1 a2 a3 a4).trans (hF c a1 a2 a3 a4)) (by rw [m1]; unfold upd; rw [if_pos rfl, hM, kv_suc])
    refine ⟨z', ?_, p2, ?_, ?_⟩
    · rw [← r2, kv_e144_7]
      have h0 : (mn ≤ Int32.ofNat i) = False := by rw [hmn]; exact kv_ln_ (by omega) (by omega)
      simp only [kv_e144_0, kv_e144_1, kv_e144_4, kv_e144_5, kv_e144_6, kv_e144_8, kv_e144_9, kv_e144_12, kv_e144_13, kv_e144_16, kv_e144_17, kv_e144_20, kv_e144_23, kv_e144_26, kv_e144_29, kv_o10, not_false_eq_true, not_true, if_true, if_false, kv_then_s, kv_then_v, kv_then_n, List.cons_append, List.nil_append, kv_Ci, kv_Cr, kv_Cn, kv_Cu, kv_C0, kv_catc, kv_gCi, kv_gCl, kv_gCr, kv_nb0, kv_nb1, kv_nbi, kv_nb01, Nat.reduceAdd, Nat.reduceLeDiff, h0, r1, kv_suc]
    · rw [q2, q1, kp]
      show kw_fly _ _ _ _ T (Int32.ofNat (M + 1)) (fun _ => -1) _ = kw_fly _ _ _ _ T (Int32.ofNat M + 1) (fun i => kw_dc (-1)) _
      rw [kv_suc]
      rfl
    · rw [m2, m1]
      funext j
      unfold upd
      by_cases h : j = 3
      · rw [if_pos h, if_pos h]
        congr 1
        omega
      · rw [if_neg h, if_neg h, if_neg h]
end
