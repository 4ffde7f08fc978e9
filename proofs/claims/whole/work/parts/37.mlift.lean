/-! the model: air, lifts, wears -/
section
variable {d n : Nat} {z : Nat → Nat → Int32} {zl : Nat → Nat → Int64}
def kw_mwin (z : Nat → Nat → Int32) : Int32 → Int32 → Int32 := fun h m => kv_wd (z 0 25).toNatClampNeg (fun i => z 15 (3 * i)) (fun i => z 15 (3 * i + 1)) (fun i => z 15 (3 * i + 2)) h m
def kw_mair (z : Nat → Nat → Int32) : Prop := ∃ n, n ≤ 6 ∧ z 0 25 = Int32.ofNat n
theorem kw_3 (k : Nat) : (3 : Int32) * Int32.ofNat k = Int32.ofNat (3 * k) := by
  rw [show (3 : Int32) = Int32.ofNat 3 from rfl, ← Int32.ofNat_mul]
theorem kw_3a (k : Nat) : Int32.ofNat (3 * k) + 1 = Int32.ofNat (3 * k + 1) := kv_suc _
theorem kw_3b (k : Nat) : Int32.ofNat (3 * k) + 2 = Int32.ofNat (3 * k + 2) := by
  rw [show (2 : Int32) = Int32.ofNat 2 from rfl, ← Int32.ofNat_add]
theorem kw_mwind (ha : kw_mair z) (h m : Int32) : kv_Rn d 203 0 [some (.ref 0), some (.int h), some (.int m), none, none] [] (kv_m z zl) = some (some (.int (kw_mwin z h m)), kv_m z zl) := by
  obtain ⟨na, h6, hn⟩ := ha
  unfold kw_mwin
  rw [hn, kv_tn (by omega)]
  have hl := kv_up (fun k => kv_Rn d 203 5 [some (.ref 0), some (.int h), some (.int m), some (.int (kv_wd k (fun i => z 15 (3 * i)) (fun i => z 15 (3 * i + 1)) (fun i => z 15 (3 * i + 2)) h m)), some (.int (Int32.ofNat k))] [] (kv_m z zl) = some (some (.int (kv_wd na (fun i => z 15 (3 * i)) (fun i => z 15 (3 * i + 1)) (fun i => z 15 (3 * i + 2)) h m)), kv_m z zl)) na ?_ ?_
  · simp only [kv_e203_0, kv_e203_1, kv_e203_2, kv_e203_3, kv_e203_7, kv_e203_8, kv_e203_11, kv_e203_14, kv_e203_15, kv_e203_18, kv_e203_19, kv_e203_21, kv_e203_22, kv_e203_23, kv_e203_24, kv_e203_27, kv_e203_28, kv_e203_31, kv_e203_32, kv_e203_34, kv_e203_35, kv_e203_36, kv_e203_37, kv_e203_38, kv_e203_39, kv_e203_42, kv_e203_43, kv_e203_46, kv_e203_47, kv_e203_49, kv_e203_50, kv_e203_51, kv_e203_52, kv_e203_53, kv_e203_56, kv_e203_57, kv_e203_58, kv_e203_61, kv_e203_64, kv_e203_65, kv_o10, not_false_eq_true, not_true, if_true, if_false, kv_then_s, kv_then_v, kv_then_n, List.cons_append, List.nil_append, kv_Ci, kv_Cr, kv_Cn, kv_Cu, kv_C0, kv_catc, kv_gCi, kv_gCl, kv_gCr, kv_nb0, kv_nb1, kv_nbi, kv_nb01, Nat.reduceAdd, Nat.reduceLeDiff]
    exact hl
  · rw [kv_e203_5]
    simp only [kv_e203_0, kv_e203_1, kv_e203_2, kv_e203_3, kv_e203_7, kv_e203_8, kv_e203_11, kv_e203_14, kv_e203_15, kv_e203_18, kv_e203_19, kv_e203_21, kv_e203_22, kv_e203_23, kv_e203_24, kv_e203_27, kv_e203_28, kv_e203_31, kv_e203_32, kv_e203_34, kv_e203_35, kv_e203_36, kv_e203_37, kv_e203_38, kv_e203_39, kv_e203_42, kv_e203_43, kv_e203_46, kv_e203_47, kv_e203_49, kv_e203_50, kv_e203_51, kv_e203_52, kv_e203_53, kv_e203_56, kv_e203_57, kv_e203_58, kv_e203_61, kv_e203_64, kv_e203_65, kv_o10, not_false_eq_true, not_true, if_true, if_false, kv_then_s, kv_then_v, kv_then_n, List.cons_append, List.nil_append, kv_Ci, kv_Cr, kv_Cn, kv_Cu, kv_C0, kv_catc, kv_gCi, kv_gCl, kv_gCr, kv_nb0, kv_nb1, kv_nbi, kv_nb01, Nat.reduceAdd, Nat.reduceLeDiff, hn, kv_nle (show na < 2147483648 by omega) (show na < 2147483648 by omega), Nat.le_refl]
  · intro k hk ih
    have g0 : 3 * k < 2147483648 := by omega
    have g1 : 3 * k + 1 < 2147483648 := by omega
    have g2 : 3 * k + 2 < 2147483648 := by omega
    rw [kv_e203_5]
    simp only [kv_e203_0, kv_e203_1, kv_e203_2, kv_e203_3, kv_e203_7, kv_e203_8, kv_e203_11, kv_e203_14, kv_e203_15, kv_e203_18, kv_e203_19, kv_e203_21, kv_e203_22, kv_e203_23, kv_e203_24, kv_e203_27, kv_e203_28, kv_e203_31, kv_e203_32, kv_e203_34, kv_e203_35, kv_e203_36, kv_e203_37, kv_e203_38, kv_e203_39, kv_e203_42, kv_e203_43, kv_e203_46, kv_e203_47, kv_e203_49, kv_e203_50, kv_e203_51, kv_e203_52, kv_e203_53, kv_e203_56, kv_e203_57, kv_e203_58, kv_e203_61, kv_e203_64, kv_e203_65, kv_o10, not_false_eq_true, not_true, if_true, if_false, kv_then_s, kv_then_v, kv_then_n, List.cons_append, List.nil_append, kv_Ci, kv_Cr, kv_Cn, kv_Cu, kv_C0, kv_catc, kv_gCi, kv_gCl, kv_gCr, kv_nb0, kv_nb1, kv_nbi, kv_nb01, Nat.reduceAdd, Nat.reduceLeDiff, hn, kv_ln_ hk (show na < 2147483648 by omega), kv_ar_lt (show 15 < 300 by omega), kv_rd_lt (show 15 < 300 by omega), kv_am15, kw_3, kw_3a, kw_3b, kw_n0 g0, kw_n0 g1, kw_n0 g2, kv_tn g0, kv_tn g1, kv_tn g2, kv_lN (show 3 * k < 18 by omega), kv_lN (show 3 * k + 1 < 18 by omega), kv_lN (show 3 * k + 2 < 18 by omega), or_self, kv_suc]
    simp only [kv_wd] at ih
    by_cases c1 : h < z 15 (3 * k)
    · rw [if_pos c1]
      rw [if_neg (fun q => Int32.not_le.mpr c1 q.1)] at ih
      exact ih
    · rw [if_neg c1]
      by_cases c2 : m < z 15 (3 * k + 1)
      · rw [if_pos c2]
        rw [if_neg (fun q => Int32.not_le.mpr c2 q.2)] at ih
        exact ih
      · rw [if_neg c2]
        rw [if_pos ⟨Int32.not_lt.mp c1, Int32.not_lt.mp c2⟩] at ih
        exact ih
def kw_okL (lt : Nat → Int32) : Prop := ∀ i, i < 8 → -1000000 ≤ (lt i).toInt ∧ (lt i).toInt ≤ 1000000
/-- the same law in its place -/
def kw_AG (i : Nat) (z z' : Nat → Nat → Int32) : Prop := (∀ j, 520 * i ≤ j → j < 520 * i + 520 → z' 2 j = z 2 j ∧ z' 3 j = z 3 j) ∧ z' 5 i = z 5 i ∧ ∀ j, 140 * i ≤ j → j < 140 * i + 140 → z' 6 j = z 6 j ∧ z' 7 j = z 7 j ∧ z' 8 j = z 8 j
theorem kw_AG_of {i : Nat} {z z' : Nat → Nat → Int32} (h : ∀ c, 2 ≤ c → c ≤ 8 → z' c = z c) : kw_AG i z z' := by
  refine ⟨fun j _ _ => ?_, ?_, fun j _ _ => ?_⟩
  · rw [h 2 (by omega) (by omega), h 3 (by omega) (by omega)]
    exact ⟨rfl, rfl⟩
  · rw [h 5 (by omega) (by omega)]
  · rw [h 6 (by omega) (by omega), h 7 (by omega) (by omega), h 8 (by omega) (by omega)]
    exact ⟨rfl, rfl, rfl⟩
theorem kw_AG_tr {i : Nat} {z z1 z2 : Nat → Nat → Int32} (h : kw_AG i z z1) (g : kw_AG i z1 z2) : kw_AG i z z2 := by
  refine ⟨fun j a b => ⟨(g.1 j a b).1.trans (h.1 j a b).1, (g.1 j a b).2.trans (h.1 j a b).2⟩, g.2.1.trans h.2.1, fun j a b => ⟨(g.2.2 j a b).1.trans (h.2.2 j a b).1, (g.2.2 j a b).2.1.trans (h.2.2 j a b).2.1, (g.2.2 j a b).2.2.trans (h.2.2 j a b).2.2⟩⟩
def kw_ML (z : Nat → Nat → Int32) (x : Int32) (f : (Nat → Int32) → Int32) : Prop := ∀ (z' : Nat → Nat → Int32), kw_AG x.toNatClampNeg z z' → ∀ lt, kw_okL lt → (∀ i, i < 8 → z' 9 i = lt i) → ∀ (zl : Nat → Nat → Int64) (d : Nat), ∃ s, kv_Rn (d + 3) 181 0 [some (.ref 0), some (.int x), none] [] (kv_m z' zl) = some (some (.int (f lt)), kv_m (kv_z z' 10 s) zl)
def kw_MR (z : Nat → Nat → Int32) (x : Int32) (lf : Option ((Nat → Int32) → Int32)) : Prop := match lf with
  | none => x = -1
  | some f => ¬ x = -1 ∧ kw_ML z x f
theorem kw_ML_fr {z z' : Nat → Nat → Int32} {x : Int32} {f : (Nat → Int32) → Int32} (h : kw_ML z x f) (hz : kw_AG x.toNatClampNeg z z') : kw_ML z' x f := fun z2 h2 => h z2 (kw_AG_tr hz h2)
theorem kw_MR_fr {z z' : Nat → Nat → Int32} {x : Int32} {lf : Option ((Nat → Int32) → Int32)} (h : kw_MR z x lf) (hz : ∀ c, 2 ≤ c → c ≤ 8 → z' c = z c) : kw_MR z' x lf := by
  cases lf with
  | none => exact h
  | some f => exact ⟨h.1, kw_ML_fr h.2 (kw_AG_of hz)⟩
def kw_rg (x : Int32) (lo hi : Int) : Prop := lo ≤ x.toInt ∧ x.toInt ≤ hi
def kw_okb (r : Nat → Int32) : Prop := kw_rg (r 1) 0 9 ∧ kw_rg (r 4) 0 99 ∧ kw_rg (r 3) 0 99 ∧ kw_rg (r 6) 0 9
def kw_okw (wd : Int32 → Int32 → Int32) : Prop := ∀ h m, kw_rg (wd h m) 0 9
def kw_okm (m : Int32) : Prop := kw_rg m 0 1000
theorem kw_max_wi (v : Int32) (lo hi : Int32) (h : lo ≤ hi) : kv_mx lo (kv_mn hi v) = kv_wi v lo hi := by
  unfold kv_mx kv_mn kv_wi
  by_cases c1 : v < hi
  · rw [if_pos c1]
    by_cases c2 : lo < v
    · rw [if_pos c2, if_neg (Int32.not_lt.mpr (Int32.le_of_lt c2)), if_neg (Int32.not_lt.mpr (Int32.le_of_lt c1))]
    · rw [if_neg c2]
      by_cases c3 : v < lo
      · rw [if_pos c3]
      · rw [if_neg c3, if_neg (Int32.not_lt.mpr (Int32.le_of_lt c1))]
        exact Int32.le_antisymm (Int32.not_lt.mp c3) (Int32.not_lt.mp c2)
  · rw [if_neg c1]
    have c2 : ¬ v < lo := fun q => c1 (Int32.lt_of_lt_of_le q h)
    rw [if_neg c2]
    by_cases c3 : hi < v
    · rw [if_pos c3]
      by_cases c4 : lo < hi
      · rw [if_pos c4]
      · rw [if_neg c4]
        exact Int32.le_antisymm h (Int32.not_lt.mp c4)
    · rw [if_neg c3]
      have e : v = hi := Int32.le_antisymm (Int32.not_lt.mp c3) (Int32.not_lt.mp c1)
      subst e
      by_cases c4 : lo < v
      · rw [if_pos c4]
      · rw [if_neg c4]
        exact Int32.le_antisymm h (Int32.not_lt.mp c4)
theorem kw_mletters {k : Nat} (hk : k < 8) : ∃ l, kv_Rn (d + 1) 205 0 [some (.ref 0), some (.int (Int32.ofNat k))] [] (kv_m z zl) = some (none, kv_m (kv_z z 9 l) zl) ∧ ∀ i, i < 8 → l i = kw_lt 0 (km z k 1) (km z k 4) (km z k 3) 0 0 0 (z 16 104) i := by
  have g9 : ∀ (l : Nat → Int32) (k w : Nat), km (kv_z z 9 l) k w = km z k w := by
    intro l k w
    unfold km
    rw [kv_zne _ _ (show 16 ≠ 9 by omega)]
  have g16 : ∀ (l : Nat → Int32), kv_z z 9 l 16 = z 16 := fun l => kv_zne _ _ (by omega)
  refine ⟨upd (upd (upd (upd (upd (upd (upd (upd (z 9) 0 0) 1 (km z k 1)) 2 (km z k 4)) 3 (km z k 3)) 4 0) 5 0) 6 0) 7 (z 16 104), ?_, ?_⟩
  · simp only [kv_e205_0, kv_e205_1, kv_e205_4, kv_e205_5, kv_e205_6, kv_e205_7, kv_e205_8, kv_e205_11, kv_e205_12, kv_e205_13, kv_e205_14, kv_e205_15, kv_e205_18, kv_e205_19, kv_e205_20, kv_e205_23, kv_e205_24, kv_e205_25, kv_e205_26, kv_e205_27, kv_e205_30, kv_e205_31, kv_e205_32, kv_e205_35, kv_e205_36, kv_e205_37, kv_e205_38, kv_e205_40, kv_e205_43, kv_e205_44, kv_e205_45, kv_e205_48, kv_e205_49, kv_e205_50, kv_e205_51, kv_e205_52, kv_e205_55, kv_e205_56, kv_e205_57, kv_e205_58, kv_e205_59, kv_e205_62, kv_e205_64, kv_e205_65, kv_e205_66, kv_e205_67, kv_e205_70, kv_e205_72, kv_e205_73, kv_e205_76, kv_e205_78, kv_e205_79, kv_e205_80, kv_o10, not_false_eq_true, not_true, if_true, if_false, kv_then_s, kv_then_v, kv_then_n, List.cons_append, List.nil_append, kv_Ci, kv_Cr, kv_Cn, kv_Cu, kv_C0, kv_catc, kv_gCi, kv_gCl, kv_gCr, kv_nb0, kv_nb1, kv_nbi, kv_nb01, Nat.reduceAdd, Nat.reduceLeDiff, kw_of1 hk, kw_of3 hk, kw_of8 hk, kv_am9, kv_am16, kv_ar_lt (show 16 < 300 by omega), kv_rd_lt (show 16 < 300 by omega), kw_p0, kw_p1, kw_p2, kw_p3, kw_p4, kw_p5, kw_p6, kw_p7, kw_t0, kw_t1, kw_t2, kw_t3, kw_t4, kw_t5, kw_t6, kw_t7, kv_l104, kv_t104, or_self, kv_zs, kw_zz, g9, g16]
  · intro i hi
    match i, hi with
    | 0, _ => rfl
    | 1, _ => rfl
    | 2, _ => rfl
    | 3, _ => rfl
    | 4, _ => rfl
    | 5, _ => rfl
    | 6, _ => rfl
    | 7, _ => rfl
theorem kw_rg_of {x : Int32} {lo hi lo' hi' : Int} (h : kw_rg x lo hi) (h1 : lo' ≤ lo) (h2 : hi ≤ hi') : lo' ≤ x.toInt ∧ x.toInt ≤ hi' := ⟨Int.le_trans h1 h.1, Int.le_trans h.2 h2⟩
theorem kw_zr : -1000000 ≤ (0 : Int32).toInt ∧ (0 : Int32).toInt ≤ 1000000 := ⟨by decide, by decide⟩
theorem kw_z9 {k w : Nat} (l : Nat → Int32) : km (kv_z z 9 l) k w = km z k w := by
  unfold km
  rw [kv_zne _ _ (show 16 ≠ 9 by omega)]
theorem kw_mliftOf {lf : Option ((Nat → Int32) → Int32)} (ha : kw_mair z) (hl : kw_MR z (z 0 27) lf) (hw : kw_okw (kw_mwin z)) (hm : kw_okm (z 16 104)) {k : Nat} (hk : k < 8) (hb : kw_okb (km z k)) : ∃ z', kv_Rn (d + 4) 206 0 [some (.ref 0), some (.int (Int32.ofNat k)), none] [] (kv_m z zl) = some (some (.int (kw_lift lf (kw_mwin z) (km z k) (z 16 104))), kv_m z' zl) ∧ ∀ c, c ≠ 9 → c ≠ 10 → z' c = z c := by
  cases lf with
  | none =>
    have hx : z 0 27 = -1 := hl
    refine ⟨z, ?_, fun _ _ _ => rfl⟩
    simp only [kv_e206_0, kv_e206_1, kv_e206_2, kv_e206_3, kv_e206_4, kv_e206_7, kv_e206_8, kv_e206_11, kv_e206_13, kv_e206_14, kv_e206_17, kv_e206_18, kv_e206_19, kv_e206_20, kv_e206_23, kv_e206_24, kv_e206_25, kv_e206_26, kv_e206_29, kv_e206_30, kv_e206_70, kv_e206_72, kv_e206_74, kv_e206_75, kv_e206_78, kv_e206_81, kv_o10, not_false_eq_true, not_true, if_true, if_false, kv_then_s, kv_then_v, kv_then_n, List.cons_append, List.nil_append, kv_Ci, kv_Cr, kv_Cn, kv_Cu, kv_C0, kv_catc, kv_gCi, kv_gCl, kv_gCr, kv_nb0, kv_nb1, kv_nbi, kv_nb01, Nat.reduceAdd, Nat.reduceLeDiff, kw_of3 hk, kw_of1 hk, kv_am16, kv_ar_lt (show 16 < 300 by omega), kv_rd_lt (show 16 < 300 by omega), kv_l104, kv_t104, or_self, kw_mwind ha, hx, eq_self, kw_max_wi _ (-9) 9 (by decide)]
    rfl
  | some f =>
    obtain ⟨hx, hf⟩ := hl
    obtain ⟨l, e1, e2⟩ := kw_mletters (d := d + 2) (z := z) (zl := zl) hk
    have a9 : kw_mair (kv_z z 9 l) := ha
    have w9 : kw_mwin (kv_z z 9 l) = kw_mwin z := rfl
    have z16 : kv_z z 9 l 16 = z 16 := kv_zne _ _ (by omega)
    have z0 : kv_z z 9 l 0 = z 0 := kv_zne _ _ (by omega)
    obtain ⟨s, e3⟩ := hf (kv_z z 9 (upd l 0 (kw_mwin z (km z k 4) (z 16 104)))) (kw_AG_of (fun c h1 h2 => kv_zne _ _ (by omega))) (kw_lt (kw_mwin z (km z k 4) (z 16 104)) (km z k 1) (km z k 4) (km z k 3) 0 0 0 (z 16 104)) (by
      intro i hi
      match i, hi with
      | 0, _ => exact kw_rg_of (hw _ _) (by omega) (by omega)
      | 1, _ => exact kw_rg_of hb.1 (by omega) (by omega)
      | 2, _ => exact kw_rg_of hb.2.1 (by omega) (by omega)
      | 3, _ => exact kw_rg_of hb.2.2.1 (by omega) (by omega)
      | 4, _ => exact kw_zr
      | 5, _ => exact kw_zr
      | 6, _ => exact kw_zr
      | 7, _ => exact kw_rg_of hm (by omega) (by omega)) (by
      intro i hi
      rw [kv_zs]
      match i, hi with
      | 0, _ => rfl
      | 1, _ => exact e2 1 (by omega)
      | 2, _ => exact e2 2 (by omega)
      | 3, _ => exact e2 3 (by omega)
      | 4, _ => exact e2 4 (by omega)
      | 5, _ => exact e2 5 (by omega)
      | 6, _ => exact e2 6 (by omega)
      | 7, _ => exact e2 7 (by omega)) zl d
    refine ⟨kv_z (kv_z z 9 (upd l 0 (kw_mwin z (km z k 4) (z 16 104)))) 10 s, ?_, fun c h1 h2 => (kv_zne _ _ h2).trans (kv_zne _ _ h1)⟩
    have z0' : kv_z z 9 (upd l 0 (kw_mwin z (km z k 4) (z 16 104))) 0 = z 0 := kv_zne _ _ (by omega)
    simp only [kv_e206_0, kv_e206_1, kv_e206_2, kv_e206_3, kv_e206_4, kv_e206_7, kv_e206_8, kv_e206_11, kv_e206_13, kv_e206_14, kv_e206_17, kv_e206_18, kv_e206_19, kv_e206_20, kv_e206_23, kv_e206_24, kv_e206_25, kv_e206_26, kv_e206_29, kv_e206_30, kv_e206_33, kv_e206_34, kv_e206_35, kv_e206_38, kv_e206_39, kv_e206_42, kv_e206_43, kv_e206_44, kv_e206_45, kv_e206_46, kv_e206_47, kv_e206_50, kv_e206_51, kv_e206_54, kv_e206_56, kv_e206_57, kv_e206_60, kv_e206_61, kv_e206_62, kv_e206_63, kv_e206_66, kv_e206_69, kv_e206_70, kv_e206_72, kv_e206_74, kv_e206_75, kv_e206_78, kv_e206_81, kv_o10, not_false_eq_true, not_true, if_true, if_false, kv_then_s, kv_then_v, kv_then_n, List.cons_append, List.nil_append, kv_Ci, kv_Cr, kv_Cn, kv_Cu, kv_C0, kv_catc, kv_gCi, kv_gCl, kv_gCr, kv_nb0, kv_nb1, kv_nbi, kv_nb01, Nat.reduceAdd, Nat.reduceLeDiff, kw_of3 hk, kw_of1 hk, kv_am9, kv_am16, kv_ar_lt (show 16 < 300 by omega), kv_rd_lt (show 16 < 300 by omega), kv_l104, kv_t104, kw_p0, kw_t0, or_self, kw_mwind ha, kw_mwind a9, hx, e1, z16, z0, z0', kw_z9, w9, kv_zs, kw_zz, e3, kw_max_wi _ (-9) 9 (by decide)]
    rfl
theorem kw_mwearOf {lf : Option ((Nat → Int32) → Int32)} (hl : kw_MR z (z 0 28) lf) (hm : kw_okm (z 16 104)) {k o : Nat} (hk : k < 8) (ho : o < 8) (hb : kw_okb (km z k)) (hb2 : kw_okb (km z o)) : ∃ z', kv_Rn (d + 4) 208 0 [some (.ref 0), some (.int (Int32.ofNat k)), some (.int (Int32.ofNat o)), none, none] [] (kv_m z zl) = some (some (.int (kw_wear lf (km z k) (km z o) (z 16 104))), kv_m z' zl) ∧ ∀ c, c ≠ 9 → c ≠ 10 → z' c = z c := by
  have hd : (km z k 4 - km z o 4).toInt = (km z k 4).toInt - (km z o 4).toInt := by
    have h1 := hb.2.1
    have h2 := hb2.2.1
    unfold kw_rg at h1 h2
    rw [Int32.toInt_sub]
    exact Int.bmod_eq_of_le (by omega) (by omega)
  have hd2 : kw_rg (km z k 4 - km z o 4) (-99) 99 := by
    have h1 := hb.2.1
    have h2 := hb2.2.1
    unfold kw_rg at h1 h2 ⊢
    omega
  cases lf with
  | none =>
    have hx : z 0 28 = -1 := hl
    refine ⟨z, ?_, fun _ _ _ => rfl⟩
    have q1 : (-9 ≤ km z k 4 - km z o 4) = ¬ km z k 4 - km z o 4 ≤ -10 := by
      rw [Int32.le_iff_toInt_le, Int32.le_iff_toInt_le]
      exact propext (by rw [show ((-9 : Int32)).toInt = -9 from rfl, show ((-10 : Int32)).toInt = -10 from rfl]; omega)
    have q2 : (km z k 4 - km z o 4 ≤ 9) = ¬ 10 ≤ km z k 4 - km z o 4 := by
      rw [Int32.le_iff_toInt_le, Int32.le_iff_toInt_le]
      exact propext (by rw [show ((9 : Int32)).toInt = 9 from rfl, show ((10 : Int32)).toInt = 10 from rfl]; omega)
    simp only [kv_e208_0, kv_e208_1, kv_e208_2, kv_e208_3, kv_e208_6, kv_e208_7, kv_e208_8, kv_e208_9, kv_e208_12, kv_e208_13, kv_e208_14, kv_e208_15, kv_e208_17, kv_e208_19, kv_e208_22, kv_e208_25, kv_e208_26, kv_e208_27, kv_e208_28, kv_e208_29, kv_e208_32, kv_e208_33, kv_e208_34, kv_e208_35, kv_e208_36, kv_e208_39, kv_e208_40, kv_e208_43, kv_e208_44, kv_e208_46, kv_e208_47, kv_e208_50, kv_e208_51, kv_e208_54, kv_e208_55, kv_e208_56, kv_e208_59, kv_e208_60, kv_e208_63, kv_e208_64, kv_e208_65, kv_e208_66, kv_e208_67, kv_e208_70, kv_e208_71, kv_e208_72, kv_e208_75, kv_e208_76, kv_e208_77, kv_e208_78, kv_e208_79, kv_e208_82, kv_e208_83, kv_e208_84, kv_e208_87, kv_e208_89, kv_e208_90, kv_e208_91, kv_e208_92, kv_e208_93, kv_e208_96, kv_e208_99, kv_e208_101, kv_e208_102, kv_e208_104, kv_e208_106, kv_e208_109, kv_e208_112, kv_o10, not_false_eq_true, not_true, if_true, if_false, kv_then_s, kv_then_v, kv_then_n, List.cons_append, List.nil_append, kv_Ci, kv_Cr, kv_Cn, kv_Cu, kv_C0, kv_catc, kv_gCi, kv_gCl, kv_gCr, kv_nb0, kv_nb1, kv_nbi, kv_nb01, Nat.reduceAdd, Nat.reduceLeDiff, kw_of3 hk, kw_of3 ho, kw_of5 hk, kw_of5 ho, kw_in, q1, q2, kv_i10, hx, eq_self, kw_max_wi _ 0 9 (by decide)]
    unfold kw_wear
    dsimp only
    by_cases d1 : km z k 4 - km z o 4 ≤ -10
    · simp only [d1, kv_o10, not_false_eq_true, not_true, if_true, if_false, kv_then_s, kv_then_v, kv_then_n, List.cons_append, List.nil_append, kv_Ci, kv_Cr, kv_Cn, kv_Cu, kv_C0, kv_catc, kv_gCi, kv_gCl, kv_gCr, kv_nb0, kv_nb1, kv_nbi, kv_nb01, Nat.reduceAdd, Nat.reduceLeDiff, false_and]
      rfl
    · by_cases d2 : 10 ≤ km z k 4 - km z o 4
      · simp only [d1, d2, kv_o10, not_false_eq_true, not_true, if_true, if_false, kv_then_s, kv_then_v, kv_then_n, List.cons_append, List.nil_append, kv_Ci, kv_Cr, kv_Cn, kv_Cu, kv_C0, kv_catc, kv_gCi, kv_gCl, kv_gCr, kv_nb0, kv_nb1, kv_nbi, kv_nb01, Nat.reduceAdd, Nat.reduceLeDiff, and_false]
        rfl
      · simp only [d1, d2, kv_o10, not_false_eq_true, not_true, if_true, if_false, kv_then_s, kv_then_v, kv_then_n, List.cons_append, List.nil_append, kv_Ci, kv_Cr, kv_Cn, kv_Cu, kv_C0, kv_catc, kv_gCi, kv_gCl, kv_gCr, kv_nb0, kv_nb1, kv_nbi, kv_nb01, Nat.reduceAdd, Nat.reduceLeDiff, and_self]
  | some f =>
    obtain ⟨hx, hf⟩ := hl
    obtain ⟨l, e1, e2⟩ := kw_mletters (d := d + 2) (z := z) (zl := zl) hk
    obtain ⟨s, e3⟩ := hf (kv_z z 9 (upd (upd (upd l 4 (km z k 6)) 5 (km z o 6)) 6 (km z k 4 - km z o 4))) (kw_AG_of (fun c h1 h2 => kv_zne _ _ (by omega))) (kw_lt 0 (km z k 1) (km z k 4) (km z k 3) (km z k 6) (km z o 6) (km z k 4 - km z o 4) (z 16 104)) (by
      intro i hi
      match i, hi with
      | 0, _ => exact kw_zr
      | 1, _ => exact kw_rg_of hb.1 (by omega) (by omega)
      | 2, _ => exact kw_rg_of hb.2.1 (by omega) (by omega)
      | 3, _ => exact kw_rg_of hb.2.2.1 (by omega) (by omega)
      | 4, _ => exact kw_rg_of hb.2.2.2 (by omega) (by omega)
      | 5, _ => exact kw_rg_of hb2.2.2.2 (by omega) (by omega)
      | 6, _ => exact kw_rg_of hd2 (by omega) (by omega)
      | 7, _ => exact kw_rg_of hm (by omega) (by omega)) (by
      intro i hi
      rw [kv_zs]
      match i, hi with
      | 0, _ => exact e2 0 (by omega)
      | 1, _ => exact e2 1 (by omega)
      | 2, _ => exact e2 2 (by omega)
      | 3, _ => exact e2 3 (by omega)
      | 4, _ => rfl
      | 5, _ => rfl
      | 6, _ => rfl
      | 7, _ => exact e2 7 (by omega)) zl d
    refine ⟨kv_z (kv_z z 9 (upd (upd (upd l 4 (km z k 6)) 5 (km z o 6)) 6 (km z k 4 - km z o 4))) 10 s, ?_, fun c h1 h2 => (kv_zne _ _ h2).trans (kv_zne _ _ h1)⟩
    have z0' : ∀ (l : Nat → Int32), kv_z z 9 l 0 = z 0 := fun l => kv_zne _ _ (by omega)
    simp only [kv_e208_0, kv_e208_1, kv_e208_2, kv_e208_3, kv_e208_6, kv_e208_7, kv_e208_8, kv_e208_9, kv_e208_12, kv_e208_13, kv_e208_14, kv_e208_15, kv_e208_17, kv_e208_19, kv_e208_22, kv_e208_25, kv_e208_26, kv_e208_27, kv_e208_28, kv_e208_29, kv_e208_32, kv_e208_33, kv_e208_34, kv_e208_35, kv_e208_36, kv_e208_39, kv_e208_40, kv_e208_43, kv_o10, not_false_eq_true, not_true, if_true, if_false, kv_then_s, kv_then_v, kv_then_n, List.cons_append, List.nil_append, kv_Ci, kv_Cr, kv_Cn, kv_Cu, kv_C0, kv_catc, kv_gCi, kv_gCl, kv_gCr, kv_nb0, kv_nb1, kv_nbi, kv_nb01, Nat.reduceAdd, Nat.reduceLeDiff, kw_of3 hk, kw_of3 ho, kw_of5 hk, kw_of5 ho, kw_in, kv_i10]
    have t2 : ∀ v : Int32, kv_Rn (d + 4) 208 44 [some (.ref 0), some (.int (Int32.ofNat k)), some (.int (Int32.ofNat o)), some (.int (km z k 4 - km z o 4)), none] [.int v] (kv_m z zl) = some (some (.int (kw_wear (some f) (km z k) (km z o) (z 16 104))), kv_m (kv_z (kv_z z 9 (upd (upd (upd l 4 (km z k 6)) 5 (km z o 6)) 6 (km z k 4 - km z o 4))) 10 s) zl) := by
      intro v
      simp only [kv_e208_0, kv_e208_1, kv_e208_2, kv_e208_3, kv_e208_6, kv_e208_7, kv_e208_8, kv_e208_9, kv_e208_12, kv_e208_13, kv_e208_14, kv_e208_15, kv_e208_17, kv_e208_19, kv_e208_22, kv_e208_25, kv_e208_26, kv_e208_27, kv_e208_28, kv_e208_29, kv_e208_32, kv_e208_33, kv_e208_34, kv_e208_35, kv_e208_36, kv_e208_39, kv_e208_40, kv_e208_43, kv_e208_44, kv_e208_46, kv_e208_47, kv_e208_50, kv_e208_51, kv_e208_54, kv_e208_55, kv_e208_56, kv_e208_59, kv_e208_60, kv_e208_63, kv_e208_64, kv_e208_65, kv_e208_66, kv_e208_67, kv_e208_70, kv_e208_71, kv_e208_72, kv_e208_75, kv_e208_76, kv_e208_77, kv_e208_78, kv_e208_79, kv_e208_82, kv_e208_83, kv_e208_84, kv_e208_87, kv_e208_89, kv_e208_90, kv_e208_91, kv_e208_92, kv_e208_93, kv_e208_96, kv_e208_99, kv_e208_101, kv_e208_102, kv_e208_104, kv_e208_106, kv_e208_109, kv_e208_112, kv_o10, not_false_eq_true, not_true, if_true, if_false, kv_then_s, kv_then_v, kv_then_n, List.cons_append, List.nil_append, kv_Ci, kv_Cr, kv_Cn, kv_Cu, kv_C0, kv_catc, kv_gCi, kv_gCl, kv_gCr, kv_nb0, kv_nb1, kv_nbi, kv_nb01, Nat.reduceAdd, Nat.reduceLeDiff, kw_of3 hk, kw_of3 ho, kw_of5 hk, kw_of5 ho, kv_am9, kw_p4, kw_p5, kw_p6, kw_t4, kw_t5, kw_t6, or_self, hx, e1, z0', kw_z9, kv_zs, kw_zz, e3, kw_max_wi _ 0 9 (by decide)]
      rfl
    split <;> exact t2 _
end
