/-! fields as texts: ranges, what can stand, the class's whole reader -/
section
variable {d L a : Nat} {e : List kv_E} {t : Nat → Int32} {z : Nat → Nat → Int32} {zl : Nat → Nat → Int64}
def kx_in (g i : Nat) (x : Int32) : Prop := kx_lo g i ≤ x ∧ x ≤ kx_hi g i
theorem kx_nw_in {lo hi : Int32} (h : (kx_nw t L lo hi a).1 = true) : lo ≤ (kx_nw t L lo hi a).2.2 ∧ (kx_nw t L lo hi a).2.2 ≤ hi := by
  by_cases q : (kw_nu t L 2 a).1 = true
  · by_cases g : lo ≤ Int32.ofNat (kw_nu t L 2 a).2.2 ∧ Int32.ofNat (kw_nu t L 2 a).2.2 ≤ hi
    · rw [kx_nw_1 q g]
      exact g
    · rw [kx_nw_2 q g] at h
      exact absurd h (by simp)
  · rw [kx_nw_0 q] at h
    exact absurd h (by simp)
theorem kx_it_in {g : Nat} (hg : g < 3) : ∀ f a s vs, (∀ i, i < kx_ct g → kx_in g i (vs i)) → ∀ i, i < kx_ct g → kx_in g i ((kx_it t L g f a s vs).2.2 i) := by
  intro f
  induction f with
  | zero => intro a s vs h; exact h
  | succ f ih =>
    intro a s vs hv
    rcases kx_ix_r g hg (kx_sg t L (kw_nx t L a)) with h | ⟨i, hi, h⟩
    · rw [kx_it_1 h]
      exact hv
    · have hi8 : i < 8 := by have := (kx_ct_8 hg).1; omega
      rw [kx_it_i hi8 h]
      by_cases q : s.testBit i = true
      · rw [if_pos q]
        exact hv
      · rw [if_neg q]
        by_cases q2 : (kx_nw t L (kx_lo g i) (kx_hi g i) (kw_nx t L a + 1)).1 = true
        · rw [if_pos q2]
          refine ih _ _ _ (fun j hj => ?_)
          unfold upd
          by_cases qj : j = i
          · rw [if_pos qj, qj]
            exact kx_nw_in q2
          · rw [if_neg qj]
            exact hv j hj
        · rw [if_neg q2]
          exact hv
theorem kx_us_in0 : ∀ i : Fin 4, kx_in 0 i.val (kx_us 0 0 i.val) := by unfold kx_in; decide +kernel
theorem kx_us_in1 : ∀ k : Fin 8, ∀ i : Fin 8, kx_in 1 i.val (kx_us 1 k.val i.val) := by unfold kx_in; decide +kernel
theorem kx_us_in2 : ∀ i : Fin 3, kx_in 2 i.val (kx_us 2 0 i.val) := by unfold kx_in; decide +kernel
def kx_rq (q : kx_fs) : Prop := (∀ j, j < 4 → kx_in 0 j (q.2.2.2.1 j)) ∧ (∀ k, k < q.2.1 → ∀ i, i < 8 → kx_in 1 i (q.2.2.2.2.1 k i)) ∧ ∀ j, j < q.2.2.1 → ∀ i, i < 3 → kx_in 2 i (q.2.2.2.2.2 j i)
theorem kx_fc_rq {q : kx_fs} (h : kx_rq q) : kx_rq (kx_fc t L a q).2.2 := by
  unfold kx_fc
  obtain ⟨r1, r2, r3⟩ := h
  by_cases h1 : kx_sg t L (kw_nx t L a) = 102 ∧ q.1 = false
  · rw [if_pos h1]
    exact ⟨kx_it_in (g := 0) (by omega) _ _ _ _ (fun i hi => kx_us_in0 ⟨i, hi⟩), r2, r3⟩
  · rw [if_neg h1]
    by_cases h2 : kx_sg t L (kw_nx t L a) = 107 ∧ q.2.1 < 8
    · rw [if_pos h2]
      refine ⟨r1, fun k hk i hi => ?_, r3⟩
      dsimp only at hk ⊢
      unfold kx_up
      by_cases qk : k = q.2.1
      · rw [if_pos qk]
        exact kx_it_in (g := 1) (by omega) _ _ _ _ (fun i hi => kx_us_in1 ⟨q.2.1, h2.2⟩ ⟨i, hi⟩) i hi
      · rw [if_neg qk]
        exact r2 k (by omega) i hi
    · rw [if_neg h2]
      by_cases h3 : kx_sg t L (kw_nx t L a) = 97 ∧ q.2.2.1 < 6
      · rw [if_pos h3]
        refine ⟨r1, r2, fun k hk i hi => ?_⟩
        dsimp only at hk ⊢
        unfold kx_up
        by_cases qk : k = q.2.2.1
        · rw [if_pos qk]
          exact kx_it_in (g := 2) (by omega) _ _ _ _ (fun i hi => kx_us_in2 ⟨i, hi⟩) i hi
        · rw [if_neg qk]
          exact r3 k (by omega) i hi
      · rw [if_neg h3]
        exact ⟨r1, r2, r3⟩
theorem kx_fc_W {q : kx_fs} (ha : a ≤ L) : (a ≤ (kx_fc t L a q).2.1 ∧ (kx_fc t L a q).2.1 ≤ L) ∧ ((kx_fc t L a q).1 = 0 → a + 1 ≤ (kx_fc t L a q).2.1) := by
  have n1 := kw_nx_le t L a
  have n2 := kw_nx_L (t := t) ha
  unfold kx_fc
  by_cases h1 : kx_sg t L (kw_nx t L a) = 102 ∧ q.1 = false
  · have hlt := kx_sg_ne (t := t) (L := L) (a := kw_nx t L a) (fun s => absurd (h1.1.symm.trans s) (by decide))
    rw [if_pos h1]
    obtain ⟨w1, w2⟩ := kx_it_W (t := t) (L := L) (g := 0) (by omega) 5 (kw_nx t L a + 1) 0 (kx_us 0 0) (by omega)
    exact ⟨⟨by dsimp only; omega, w2⟩, fun _ => by dsimp only; omega⟩
  · rw [if_neg h1]
    by_cases h2 : kx_sg t L (kw_nx t L a) = 107 ∧ q.2.1 < 8
    · have hlt := kx_sg_ne (t := t) (L := L) (a := kw_nx t L a) (fun s => absurd (h2.1.symm.trans s) (by decide))
      rw [if_pos h2]
      obtain ⟨w1, w2⟩ := kx_it_W (t := t) (L := L) (g := 1) (by omega) 9 (kw_nx t L a + 1) 0 (kx_us 1 q.2.1) (by omega)
      exact ⟨⟨by dsimp only; omega, w2⟩, fun _ => by dsimp only; omega⟩
    · rw [if_neg h2]
      by_cases h3 : kx_sg t L (kw_nx t L a) = 97 ∧ q.2.2.1 < 6
      · have hlt := kx_sg_ne (t := t) (L := L) (a := kw_nx t L a) (fun s => absurd (h3.1.symm.trans s) (by decide))
        rw [if_pos h3]
        obtain ⟨w1, w2⟩ := kx_it_W (t := t) (L := L) (g := 2) (by omega) 4 (kw_nx t L a + 1) 0 (kx_us 2 0) (by omega)
        exact ⟨⟨by dsimp only; omega, w2⟩, fun _ => by dsimp only; omega⟩
      · rw [if_neg h3]
        exact ⟨⟨n1, n2⟩, fun s => absurd s (by simp)⟩
/-- what can stand -/
def kx_gk (q : kx_fs) (k : Nat) : Prop := q.2.2.2.2.1 k 0 < q.2.2.2.1 0 ∧ ¬ q.2.2.2.2.1 k 2 < q.2.2.2.2.1 k 3 ∧ ∀ j, j < k → ¬ q.2.2.2.2.1 j 0 = q.2.2.2.2.1 k 0
def kx_st (q : kx_fs) : Prop := 0 < q.2.1 ∧ ∀ k, k < q.2.1 → kx_gk q k
theorem kx_pl20 {q : kx_fs} (h : kx_rq q) {k : Nat} (hk : k < q.2.1) : ∃ p, p < 20 ∧ q.2.2.2.2.1 k 0 = Int32.ofNat p := by
  obtain ⟨h1, h2⟩ := h.2.1 k hk 0 (by omega)
  have e1 : kx_lo 1 0 = 0 := rfl
  have e2 : kx_hi 1 0 = 19 := rfl
  rw [e1, Int32.le_iff_toInt_le] at h1
  rw [e2, Int32.le_iff_toInt_le] at h2
  have h1 : 0 ≤ (q.2.2.2.2.1 k 0).toInt := h1
  have h2 : (q.2.2.2.2.1 k 0).toInt ≤ 19 := h2
  refine ⟨(q.2.2.2.2.1 k 0).toInt.toNat, by omega, ?_⟩
  apply Int32.toInt.inj
  rw [Int32.toInt_ofNat_of_lt (by omega)]
  omega
theorem kx_ite {α : Type} {P Q : Prop} (h : P = Q) (a b : α) : @ite _ P (Classical.propDecidable _) a b = @ite _ Q (Classical.propDecidable _) a b := by
  subst h
  rfl
theorem kx_standK {q : kx_fs} (hq : kx_fK q z) (hr : kx_rq q) : kv_Rn (d + 1) 20 0 [some (.ref 21), none, none, none] [] (kv_h e z zl) = some (some (.int (@ite _ (kx_st q) (Classical.propDecidable _) 1 0)), kv_h e z zl) := by
  obtain ⟨-, ⟨q2, q2'⟩, -, q4, q5, -⟩ := hq
  have n0 : ((Int32.ofNat q.2.1 ≤ 0) = (q.2.1 = 0)) := kw_le0 q2'
  have key : ∀ m i h u, i + m = q.2.1 → h < 2 ^ 20 → (∀ p, p < 20 → (h.testBit p = true ↔ ∃ j, j < i ∧ q.2.2.2.2.1 j 0 = Int32.ofNat p)) → kv_Rn (d + 1) 20 4 [some (.ref 21), some (.int (Int32.ofNat h)), some (.int (Int32.ofNat i)), u] [] (kv_h e z zl) = some (some (.int (@ite _ (0 < q.2.1 ∧ ∀ k, i ≤ k → k < q.2.1 → kx_gk q k) (Classical.propDecidable _) 1 0)), kv_h e z zl) := by
    intro m
    induction m with
    | zero =>
      intro i h u hi hh hb
      have ge : (Int32.ofNat q.2.1 ≤ Int32.ofNat i) = True := by
        rw [kv_nle (by omega) (by omega)]
        exact eq_true (by omega)
      rw [kv_e20_4]
      by_cases qn : q.2.1 = 0
      · have n0 : (Int32.ofNat q.2.1 ≤ 0) = True := by rw [n0]; exact eq_true qn
        rw [if_neg (fun s => by omega)]
        simp only [kv_e20_5, kv_e20_6, kv_e20_9, kv_e20_12, kv_e20_81, kv_e20_82, kv_e20_85, kv_e20_88, kv_e20_91, kv_e20_92, kv_e20_95, kv_e20_96, kv_o10, not_false_eq_true, not_true, if_true, if_false, kv_then_s, kv_then_v, kv_then_n, List.cons_append, List.nil_append, kv_Ci, kv_Cr, kv_Cn, kv_Cu, kv_C0, kv_catc, kv_gCi, kv_gCl, kv_gCr, kv_nb0, kv_nb1, kv_nbi, kv_nb01, Nat.reduceAdd, Nat.reduceLeDiff, kv_isF23, q2, ge, n0]
      · have n0 : (Int32.ofNat q.2.1 ≤ 0) = False := by rw [n0]; exact eq_false qn
        rw [if_pos ⟨by omega, fun k h1 h2 => by omega⟩]
        simp only [kv_e20_5, kv_e20_6, kv_e20_9, kv_e20_12, kv_e20_81, kv_e20_82, kv_e20_85, kv_e20_88, kv_e20_91, kv_e20_92, kv_e20_95, kv_e20_96, kv_o10, not_false_eq_true, not_true, if_true, if_false, kv_then_s, kv_then_v, kv_then_n, List.cons_append, List.nil_append, kv_Ci, kv_Cr, kv_Cn, kv_Cu, kv_C0, kv_catc, kv_gCi, kv_gCl, kv_gCr, kv_nb0, kv_nb1, kv_nbi, kv_nb01, Nat.reduceAdd, Nat.reduceLeDiff, kv_isF23, q2, ge, n0]
    | succ m ih =>
      intro i h u hi hh hb
      have hin : i < q.2.1 := by omega
      have hi8 : i < 8 := by omega
      obtain ⟨p, hp, ep⟩ := kx_pl20 hr hin
      have ge : (Int32.ofNat q.2.1 ≤ Int32.ofNat i) = False := kv_ln_ hin (by omega)
      have k0 : kv_gt z 27 (Int32.ofNat i) 0 = Int32.ofNat p := (kv_gt_of z 27 hi8 (w := 0) (x := 0) (by omega) rfl).trans (by rw [q5, if_pos hin, ← ep]; rfl)
      have k4 : kv_gt z 27 (Int32.ofNat i) 4 = q.2.2.2.2.1 i 3 := (kv_gt_of z 27 hi8 (w := 4) (x := 4) (by omega) rfl).trans (by rw [q5, if_pos hin]; rfl)
      have k2 : kv_gt z 27 (Int32.ofNat i) 2 = q.2.2.2.2.1 i 2 := (kv_gt_of z 27 hi8 (w := 2) (x := 2) (by omega) rfl).trans (by rw [q5, if_pos hin]; rfl)
      have w0 : z 23 0 = q.2.2.2.1 0 := q4 0 (by omega)
      have bt := kx_bt (h := h) (p := p) (by omega) (by omega)
      have bs := kx_bs (h := h) (p := p) (by omega) (by omega)
      have hbp := hb p hp
      rw [kv_e20_4]
      by_cases g1 : q.2.2.2.1 0 ≤ Int32.ofNat p
      · rw [if_neg (fun s => by
          have := (s.2 i (Nat.le_refl _) hin).1
          rw [ep] at this
          exact Int32.not_le.mpr this g1)]
        simp only [kv_e20_5, kv_e20_6, kv_e20_9, kv_e20_12, kv_e20_15, kv_e20_16, kv_e20_19, kv_e20_20, kv_e20_21, kv_e20_24, kv_e20_25, kv_e20_26, kv_e20_27, kv_e20_30, kv_e20_33, kv_e20_36, kv_e20_37, kv_e20_38, kv_e20_39, kv_e20_40, kv_e20_41, kv_e20_44, kv_e20_45, kv_e20_46, kv_e20_47, kv_e20_50, kv_e20_51, kv_e20_52, kv_e20_55, kv_e20_56, kv_e20_59, kv_e20_60, kv_e20_61, kv_e20_64, kv_e20_67, kv_e20_68, kv_e20_69, kv_e20_70, kv_e20_71, kv_e20_72, kv_e20_73, kv_e20_74, kv_e20_75, kv_e20_78, kv_o10, not_false_eq_true, not_true, if_true, if_false, kv_then_s, kv_then_v, kv_then_n, List.cons_append, List.nil_append, kv_Ci, kv_Cr, kv_Cn, kv_Cu, kv_C0, kv_catc, kv_gCi, kv_gCl, kv_gCr, kv_nb0, kv_nb1, kv_nbi, kv_nb01, Nat.reduceAdd, Nat.reduceLeDiff, kv_isF23, kv_isS27, q2, ge, kv_get, k0, w0, g1]
      · by_cases g2 : h.testBit p = true
        · obtain ⟨j, hj, ej⟩ := hbp.mp g2
          rw [if_pos g2] at bt
          rw [if_neg (fun s => (s.2 i (Nat.le_refl _) hin).2.2 j hj (ej.trans ep.symm))]
          simp only [kv_e20_5, kv_e20_6, kv_e20_9, kv_e20_12, kv_e20_15, kv_e20_16, kv_e20_19, kv_e20_20, kv_e20_21, kv_e20_24, kv_e20_25, kv_e20_26, kv_e20_27, kv_e20_30, kv_e20_33, kv_e20_36, kv_e20_37, kv_e20_38, kv_e20_39, kv_e20_40, kv_e20_41, kv_e20_44, kv_e20_45, kv_e20_46, kv_e20_47, kv_e20_50, kv_e20_51, kv_e20_52, kv_e20_55, kv_e20_56, kv_e20_59, kv_e20_60, kv_e20_61, kv_e20_64, kv_e20_67, kv_e20_68, kv_e20_69, kv_e20_70, kv_e20_71, kv_e20_72, kv_e20_73, kv_e20_74, kv_e20_75, kv_e20_78, kv_o10, not_false_eq_true, not_true, if_true, if_false, kv_then_s, kv_then_v, kv_then_n, List.cons_append, List.nil_append, kv_Ci, kv_Cr, kv_Cn, kv_Cu, kv_C0, kv_catc, kv_gCi, kv_gCl, kv_gCr, kv_nb0, kv_nb1, kv_nbi, kv_nb01, Nat.reduceAdd, Nat.reduceLeDiff, kv_isF23, kv_isS27, q2, ge, kv_get, k0, w0, g1, bt, show ((1 : Int32) = 0) = False from by decide]
        · rw [if_neg g2] at bt
          by_cases g3 : q.2.2.2.2.1 i 3 ≤ q.2.2.2.2.1 i 2
          · have hor : h ||| 2 ^ p < 2 ^ 20 := Nat.or_lt_two_pow hh (Nat.pow_lt_pow_right (by decide) hp)
            have ih := ih (i + 1) (h ||| 2 ^ p) (some (.int (Int32.ofNat p))) (by omega) hor (fun p' hp' => by
              rw [Nat.testBit_or, Nat.testBit_two_pow, Bool.or_eq_true, decide_eq_true_eq, hb p' hp']
              constructor
              · rintro (⟨j, hj, ej⟩ | rfl)
                · exact ⟨j, by omega, ej⟩
                · exact ⟨i, by omega, ep⟩
              · rintro ⟨j, hj, ej⟩
                by_cases qj : j = i
                · right
                  rw [qj, ep] at ej
                  exact kx_ofN (by omega) (by omega) ej
                · exact Or.inl ⟨j, by omega, ej⟩)
            have e1 : (0 < q.2.1 ∧ ∀ k, i ≤ k → k < q.2.1 → kx_gk q k) = (0 < q.2.1 ∧ ∀ k, i + 1 ≤ k → k < q.2.1 → kx_gk q k) := by
              refine propext ⟨fun s => ⟨s.1, fun k h1 h2 => s.2 k (by omega) h2⟩, fun s => ⟨s.1, fun k h1 h2 => ?_⟩⟩
              by_cases qk : k = i
              · subst qk
                refine ⟨by rw [ep]; exact Int32.not_le.mp g1, Int32.not_lt.mpr g3, fun j hj ej => g2 (hbp.mpr ⟨j, hj, ej.trans ep⟩)⟩
              · exact s.2 k (by omega) h2
            rw [kx_ite e1, ← ih]
            simp only [kv_e20_5, kv_e20_6, kv_e20_9, kv_e20_12, kv_e20_15, kv_e20_16, kv_e20_19, kv_e20_20, kv_e20_21, kv_e20_24, kv_e20_25, kv_e20_26, kv_e20_27, kv_e20_30, kv_e20_33, kv_e20_36, kv_e20_37, kv_e20_38, kv_e20_39, kv_e20_40, kv_e20_41, kv_e20_44, kv_e20_45, kv_e20_46, kv_e20_47, kv_e20_50, kv_e20_51, kv_e20_52, kv_e20_55, kv_e20_56, kv_e20_59, kv_e20_60, kv_e20_61, kv_e20_64, kv_e20_67, kv_e20_68, kv_e20_69, kv_e20_70, kv_e20_71, kv_e20_72, kv_e20_73, kv_e20_74, kv_e20_75, kv_e20_78, kv_o10, not_false_eq_true, not_true, if_true, if_false, kv_then_s, kv_then_v, kv_then_n, List.cons_append, List.nil_append, kv_Ci, kv_Cr, kv_Cn, kv_Cu, kv_C0, kv_catc, kv_gCi, kv_gCl, kv_gCr, kv_nb0, kv_nb1, kv_nbi, kv_nb01, Nat.reduceAdd, Nat.reduceLeDiff, kv_isF23, kv_isS27, q2, ge, kv_get, k0, w0, g1, bt, k4, k2, g3, bs, kv_suc]
          · rw [if_neg (fun s => (s.2 i (Nat.le_refl _) hin).2.1 (Int32.not_le.mp g3))]
            simp only [kv_e20_5, kv_e20_6, kv_e20_9, kv_e20_12, kv_e20_15, kv_e20_16, kv_e20_19, kv_e20_20, kv_e20_21, kv_e20_24, kv_e20_25, kv_e20_26, kv_e20_27, kv_e20_30, kv_e20_33, kv_e20_36, kv_e20_37, kv_e20_38, kv_e20_39, kv_e20_40, kv_e20_41, kv_e20_44, kv_e20_45, kv_e20_46, kv_e20_47, kv_e20_50, kv_e20_51, kv_e20_52, kv_e20_55, kv_e20_56, kv_e20_59, kv_e20_60, kv_e20_61, kv_e20_64, kv_e20_67, kv_e20_68, kv_e20_69, kv_e20_70, kv_e20_71, kv_e20_72, kv_e20_73, kv_e20_74, kv_e20_75, kv_e20_78, kv_o10, not_false_eq_true, not_true, if_true, if_false, kv_then_s, kv_then_v, kv_then_n, List.cons_append, List.nil_append, kv_Ci, kv_Cr, kv_Cn, kv_Cu, kv_C0, kv_catc, kv_gCi, kv_gCl, kv_gCr, kv_nb0, kv_nb1, kv_nbi, kv_nb01, Nat.reduceAdd, Nat.reduceLeDiff, kv_isF23, kv_isS27, q2, ge, kv_get, k0, w0, g1, bt, k4, k2, g3]
  have k0 := key q.2.1 0 0 none (Nat.zero_add _) (by decide) (fun p _ => ⟨fun s => by rw [Nat.zero_testBit] at s; exact absurd s (by decide), fun ⟨j, hj, _⟩ => absurd hj (Nat.not_lt_zero _)⟩)
  have e1 : (0 < q.2.1 ∧ ∀ k, 0 ≤ k → k < q.2.1 → kx_gk q k) = kx_st q := propext ⟨fun s => ⟨s.1, fun k h => s.2 k (Nat.zero_le _) h⟩, fun s => ⟨s.1, fun k _ h => s.2 k h⟩⟩
  rw [kx_ite e1] at k0
  rw [← k0]
  simp only [kv_e20_0, kv_e20_1, kv_e20_2, kv_e20_3, kv_o10, not_false_eq_true, not_true, if_true, if_false, kv_then_s, kv_then_v, kv_then_n, List.cons_append, List.nil_append, kv_Ci, kv_Cr, kv_Cn, kv_Cu, kv_C0, kv_catc, kv_gCi, kv_gCl, kv_gCr, kv_nb0, kv_nb1, kv_nbi, kv_nb01, Nat.reduceAdd, Nat.reduceLeDiff]
  rfl
end
