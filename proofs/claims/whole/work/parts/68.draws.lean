/-! draws -/
section
variable {d n a : Nat} {e : List kv_E} {z : Nat → Nat → Int32} {zl : Nat → Nat → Int64}
def kw_dx (x : Int64) : Int64 := x * 6364136223846793005 + 1442695040888963407
def kw_dt (x : Int64) : Int64 := (x.toUInt64 >>> ((33 : Int32).toInt64.toUInt64 &&& Int64.toUInt64 63)).toInt64
def kw_dv (x : Int64) (k : Int32) : Int32 := (kw_dt x - kw_dt x / k.toInt64 * k.toInt64).toInt32
theorem kw_100n : ((100 : Int32).toInt64 = 0) = False := by decide
theorem kw_3n : ((3 : Int32).toInt64 = 0) = False := by decide
theorem kw_100p : ((100 : Int32) ≤ 0) = False := by decide
theorem kw_3p : ((3 : Int32) ≤ 0) = False := by decide
theorem kw_dt_r (x : Int64) : 0 ≤ (kw_dt x).toInt ∧ (kw_dt x).toInt < 2147483648 := by
  have e1 : ((33 : Int32).toInt64.toUInt64 &&& Int64.toUInt64 63) = 33 := by decide
  unfold kw_dt
  rw [e1]
  have h1 : (x.toUInt64 >>> 33).toNat < 2147483648 := by
    rw [UInt64.toNat_shiftRight]
    have h2 := x.toUInt64.toNat_lt
    rw [show (33 : UInt64).toNat % 64 = 33 from rfl, Nat.shiftRight_eq_div_pow]
    omega
  have h3 : (x.toUInt64 >>> 33).toInt64.toInt = ((x.toUInt64 >>> 33).toNat : Int) := by
    rw [← Int64.toInt_toBitVec, BitVec.toInt_eq_toNat_of_lt]
    · rfl
    · show 2 * (x.toUInt64 >>> 33).toNat < 18446744073709551616
      omega
  rw [h3]
  omega
theorem kw_dv3 (x : Int64) : kw_dv x 3 = 0 ∨ kw_dv x 3 = 1 ∨ kw_dv x 3 = 2 := by
  obtain ⟨h1, h2⟩ := kw_dt_r x
  unfold kw_dv
  generalize kw_dt x = t at *
  have e3 : (3 : Int32).toInt64 = 3 := by decide
  rw [e3]
  have q1 : (t / 3).toInt = t.toInt.tdiv 3 := by
    rw [Int64.toInt_div_of_ne_right _ _ (by decide)]
    rfl
  have q2 : t.toInt.tdiv 3 = t.toInt / 3 := Int.tdiv_eq_ediv_of_nonneg h1
  have q3 : (t / 3 * 3).toInt = t.toInt / 3 * 3 := by
    rw [Int64.toInt_mul, q1, q2, show (3 : Int64).toInt = 3 from rfl, Int.bmod_eq_of_le (by omega) (by omega)]
  have q4 : (t - t / 3 * 3).toInt = t.toInt % 3 := by
    rw [Int64.toInt_sub, q3, Int.bmod_eq_of_le (by omega) (by omega)]
    omega
  have q5 : (t - t / 3 * 3).toInt32.toInt = t.toInt % 3 := by
    rw [Int64.toInt_toInt32, q4, Int.bmod_eq_of_le (by omega) (by omega)]
  have h : t.toInt % 3 = 0 ∨ t.toInt % 3 = 1 ∨ t.toInt % 3 = 2 := by omega
  rcases h with h | h | h
  · exact Or.inl (Int32.toInt_inj.mp (q5.trans h))
  · exact Or.inr (Or.inl (Int32.toInt_inj.mp (q5.trans h)))
  · exact Or.inr (Or.inr (Int32.toInt_inj.mp (q5.trans h)))
theorem kw_updL (f : Nat → Int64) (i : Nat) (x : Int64) : vp_updL f i x i = x := if_pos rfl
theorem kw_draw (hD : kv_isD e a) {k : Int32} (h1 : (k ≤ 0) = False) (h2 : (k.toInt64 = 0) = False) : kv_Rn d 5 0 [some (.ref a), some (.int k)] [] (kv_h e z zl) = some (some (.int (kw_dv (kw_dx (zl a 0)) k)), kv_h e z (kv_z zl a (vp_updL (zl a) 0 (kw_dx (zl a 0))))) := by
  simp only [kv_e5_0, kv_e5_1, kv_e5_2, kv_e5_5, kv_e5_8, kv_e5_9, kv_e5_12, kv_e5_13, kv_e5_16, kv_e5_17, kv_e5_20, kv_e5_21, kv_e5_24, kv_e5_26, kv_e5_27, kv_e5_28, kv_e5_29, kv_e5_30, kv_e5_31, kv_e5_34, kv_e5_35, kv_o10, not_false_eq_true, not_true, if_true, if_false, kv_then_s, kv_then_v, kv_then_n, List.cons_append, List.nil_append, kv_Ci, kv_Cr, kv_Cn, kv_Cu, kv_C0, kv_catc, kv_gCi, kv_gCl, kv_gCr, kv_nb0, kv_nb1, kv_nbi, kv_nb01, Nat.reduceAdd, Nat.reduceLeDiff, hD, h1, h2, kv_zs, kw_updL]
  rfl
theorem kw_mdraw {k : Int32} (h2 : (k.toInt64 = 0) = False) : kv_Rn d 230 0 [some (.ref 0), some (.int k)] [] (kv_m z zl) = some (some (.int (kw_dv (kw_dx (zl 0 34)) k)), kv_m z (kv_z zl 0 (vp_updL (zl 0) 34 (kw_dx (zl 0 34))))) := by
  simp only [kv_e230_0, kv_e230_1, kv_e230_2, kv_e230_5, kv_e230_8, kv_e230_9, kv_e230_12, kv_e230_13, kv_e230_16, kv_e230_17, kv_e230_20, kv_e230_22, kv_e230_23, kv_e230_24, kv_e230_25, kv_e230_26, kv_e230_27, kv_o10, not_false_eq_true, not_true, if_true, if_false, kv_then_s, kv_then_v, kv_then_n, List.cons_append, List.nil_append, kv_Ci, kv_Cr, kv_Cn, kv_Cu, kv_C0, kv_catc, kv_gCi, kv_gCl, kv_gCr, kv_nb0, kv_nb1, kv_nbi, kv_nb01, Nat.reduceAdd, Nat.reduceLeDiff, h2, kv_zs, kw_updL]
  rfl
def kw_bl (how : Int32) (r : Nat → Int32) : Nat → Int32 := if how = 0 then kw_rh (kv_mx 0 (r 4 - 5)) r else if how = 1 then kw_rh (kv_mn (r 3) (r 4 + 5)) r else kw_rw (r 9 + 1) r
def kw_s1 (g : Int32) (k : Nat) (s : (Nat → Nat → Int32) × Int64) : (Nat → Nat → Int32) × Int64 :=
  if s.1 k 11 = 0 then s else if kw_dv (kw_dx s.2) 100 < g then ((fun i => if i = k then kw_bl (kw_dv (kw_dx (kw_dx s.2)) 3) (s.1 k) else s.1 i), kw_dx (kw_dx s.2)) else (s.1, kw_dx s.2)
def kw_sq (g : Int32) (s : (Nat → Nat → Int32) × Int64) : Nat → (Nat → Nat → Int32) × Int64
  | 0 => s
  | k + 1 => kw_s1 g k (kw_sq g s k)
theorem kw_bl_w {how : Int32} {r : Nat → Int32} {w : Nat} (h : w ≠ 4) (h' : w ≠ 9) : kw_bl how r w = r w := by
  unfold kw_bl
  split
  · exact if_neg h
  · split
    · exact if_neg h
    · exact if_neg h'
theorem kw_bl_ok {how : Int32} {r : Nat → Int32} (h : kw_okr r) : kw_okr (kw_bl how r) := by
  obtain ⟨⟨a1, a2⟩, ⟨a3, a4⟩, a5, a6⟩ := h
  have q : 0 ≤ (kw_bl how r 4).toInt ∧ (kw_bl how r 4).toInt ≤ (r 3).toInt := by
    unfold kw_bl
    split
    · show 0 ≤ (kv_mx 0 (r 4 - 5)).toInt ∧ (kv_mx 0 (r 4 - 5)).toInt ≤ _
      rw [kw_mx_t, kw_tsub (by rw [show (5 : Int32).toInt = 5 from rfl]; omega) (by rw [show (5 : Int32).toInt = 5 from rfl]; omega), kw_0t, show (5 : Int32).toInt = 5 from rfl]
      omega
    · split
      · show 0 ≤ (kv_mn (r 3) (r 4 + 5)).toInt ∧ (kv_mn (r 3) (r 4 + 5)).toInt ≤ _
        rw [kw_mn_t, kw_tadd (by rw [show (5 : Int32).toInt = 5 from rfl]; omega) (by rw [show (5 : Int32).toInt = 5 from rfl]; omega), show (5 : Int32).toInt = 5 from rfl]
        omega
      · exact ⟨a3, a4⟩
  unfold kw_okr
  rw [kw_bl_w (w := 1) (by omega) (by omega), kw_bl_w (w := 6) (by omega) (by omega), kw_bl_w (w := 3) (by omega) (by omega), kw_bl_w (w := 2) (by omega) (by omega)]
  exact ⟨⟨a1, a2⟩, q, a5, a6⟩
theorem kw_s1_w {g : Int32} {k i w : Nat} {s : (Nat → Nat → Int32) × Int64} (h : w ≠ 4) (h' : w ≠ 9) : (kw_s1 g k s).1 i w = s.1 i w := by
  unfold kw_s1
  split
  · rfl
  · split
    · show (if i = k then _ else _ : Nat → Int32) w = _
      by_cases c : i = k
      · rw [if_pos c, kw_bl_w h h', c]
      · rw [if_neg c]
    · rfl
theorem kw_sq_w {g : Int32} {i w : Nat} {s : (Nat → Nat → Int32) × Int64} (h : w ≠ 4) (h' : w ≠ 9) : ∀ k, (kw_sq g s k).1 i w = s.1 i w
  | 0 => rfl
  | k + 1 => (kw_s1_w h h').trans (kw_sq_w h h' k)
theorem kw_sq_ok {g : Int32} {s : (Nat → Nat → Int32) × Int64} (h : kw_okc s.1) : ∀ k, kw_okc (kw_sq g s k).1 := by
  intro k
  induction k with
  | zero => exact h
  | succ k ih =>
    show kw_okc (kw_s1 g k (kw_sq g s k)).1
    generalize kw_sq g s k = t at ih ⊢
    unfold kw_s1
    split
    · exact ih
    · split
      · intro i
        show kw_okr (if i = k then _ else _)
        by_cases c : i = k
        · rw [if_pos c]
          exact kw_bl_ok (ih k)
        · rw [if_neg c]
          exact ih i
      · exact ih
theorem kw_sq_ext {g : Int32} {s : (Nat → Nat → Int32) × Int64} (h : kw_01 n s.1) : ∀ q, kw_sq g s (n + q) = kw_sq g s n := by
  intro q
  induction q with
  | zero => rfl
  | succ q ih =>
    have e1 : (kw_sq g s (n + q)).1 (n + q) 11 = 0 := by
      rw [kw_sq_w (by omega) (by omega)]
      exact (h (n + q)).2 (by omega)
    show kw_s1 g (n + q) (kw_sq g s (n + q)) = _
    unfold kw_s1
    rw [if_pos e1]
    exact ih
theorem kw_shake (hD : kv_isD e a) (g : Int32) {s : (Nat → Nat → Int32) × Int64} (hc : kc z 36 = s.1) (hx : zl a 0 = s.2) : ∃ z' zl', kv_Rn (d + 2) 24 0 [some (.ref 33), some (.ref 36), some (.ref a), some (.int g), none, none] [] (kv_h e z zl) = some (none, kv_h e z' zl') ∧ (∀ c, c ≠ 37 → z' c = z c) ∧ (kc z' 36, zl' a 0) = kw_sq g s 8 := by
  have hl := kv_up (fun k => ∀ z1 zl1 (u5 : Option Value), (∀ c, c ≠ 37 → z1 c = z c) → kc z1 36 = (kw_sq g s k).1 → zl1 a 0 = (kw_sq g s k).2 → ∃ z' zl', kv_Rn (d + 2) 24 3 [some (.ref 33), some (.ref 36), some (.ref a), some (.int g), some (.int (Int32.ofNat k)), u5] [] (kv_h e z1 zl1) = some (none, kv_h e z' zl') ∧ (∀ c, c ≠ 37 → z' c = z c) ∧ (kc z' 36, zl' a 0) = kw_sq g s 8) 8 ?_ ?_
  · obtain ⟨z', zl', r, x⟩ := hl z zl none (fun _ _ => rfl) hc hx
    refine ⟨z', zl', ?_, x⟩
    rw [← r]
    simp only [kv_e24_0, kv_e24_1, kv_o10, not_false_eq_true, not_true, if_true, if_false, kv_then_s, kv_then_v, kv_then_n, List.cons_append, List.nil_append, kv_Ci, kv_Cr, kv_Cn, kv_Cu, kv_C0, kv_catc, kv_gCi, kv_gCl, kv_gCr, kv_nb0, kv_nb1, kv_nbi, kv_nb01, Nat.reduceAdd, Nat.reduceLeDiff]
    rfl
  · intro z1 zl1 u5 hf hc hx
    refine ⟨z1, zl1, ?_, hf, Prod.ext hc hx⟩
    rw [kv_e24_3]
    simp only [kv_e24_0, kv_e24_1, kv_e24_5, kv_e24_7, kv_e24_10, kv_e24_11, kv_e24_13, kv_e24_16, kv_e24_19, kv_e24_20, kv_e24_22, kv_e24_25, kv_e24_26, kv_e24_29, kv_e24_32, kv_e24_33, kv_e24_35, kv_e24_36, kv_e24_39, kv_e24_41, kv_e24_42, kv_e24_43, kv_e24_46, kv_e24_72, kv_e24_73, kv_e24_75, kv_e24_76, kv_e24_77, kv_e24_79, kv_e24_80, kv_e24_81, kv_e24_84, kv_e24_87, kv_e24_90, kv_e24_91, kv_e24_93, kv_e24_94, kv_e24_95, kv_e24_97, kv_e24_98, kv_e24_101, kv_e24_103, kv_e24_104, kv_e24_105, kv_e24_108, kv_e24_111, kv_e24_114, kv_e24_115, kv_e24_117, kv_e24_119, kv_e24_120, kv_e24_122, kv_e24_124, kv_e24_127, kv_e24_128, kv_e24_129, kv_e24_132, kv_e24_135, kv_e24_138, kv_o10, not_false_eq_true, not_true, if_true, if_false, kv_then_s, kv_then_v, kv_then_n, List.cons_append, List.nil_append, kv_Ci, kv_Cr, kv_Cn, kv_Cu, kv_C0, kv_catc, kv_gCi, kv_gCl, kv_gCr, kv_nb0, kv_nb1, kv_nbi, kv_nb01, Nat.reduceAdd, Nat.reduceLeDiff, kv_le88]
  · intro k hk ih z1 zl1 u5 hf hc hx
    have q := kv_le8 hk
    have ef : kc z1 36 k 11 = (kw_sq g s k).1 k 11 := by rw [hc]
    by_cases c1 : (kw_sq g s k).1 k 11 = 0
    · have e1 : kw_sq g s (k + 1) = kw_sq g s k := by
        show kw_s1 g k (kw_sq g s k) = _
        unfold kw_s1
        rw [if_pos c1]
      rw [e1] at ih
      obtain ⟨z', zl', r, x⟩ := ih z1 zl1 u5 hf hc hx
      refine ⟨z', zl', ?_, x⟩
      rw [← r, kv_e24_3]
      simp only [kv_e24_0, kv_e24_1, kv_e24_5, kv_e24_7, kv_e24_10, kv_e24_11, kv_e24_13, kv_e24_16, kv_e24_19, kv_e24_20, kv_e24_22, kv_e24_25, kv_e24_26, kv_e24_29, kv_e24_32, kv_e24_33, kv_e24_35, kv_e24_36, kv_e24_39, kv_e24_41, kv_e24_42, kv_e24_43, kv_e24_46, kv_e24_72, kv_e24_73, kv_e24_75, kv_e24_76, kv_e24_77, kv_e24_79, kv_e24_80, kv_e24_81, kv_e24_84, kv_e24_87, kv_e24_90, kv_e24_91, kv_e24_93, kv_e24_94, kv_e24_95, kv_e24_97, kv_e24_98, kv_e24_101, kv_e24_103, kv_e24_104, kv_e24_105, kv_e24_108, kv_e24_111, kv_e24_114, kv_e24_115, kv_e24_117, kv_e24_119, kv_e24_120, kv_e24_122, kv_e24_124, kv_e24_127, kv_e24_128, kv_e24_129, kv_e24_132, kv_e24_135, kv_e24_138, kv_o10, not_false_eq_true, not_true, if_true, if_false, kv_then_s, kv_then_v, kv_then_n, List.cons_append, List.nil_append, kv_Ci, kv_Cr, kv_Cn, kv_Cu, kv_C0, kv_catc, kv_gCi, kv_gCl, kv_gCr, kv_nb0, kv_nb1, kv_nbi, kv_nb01, Nat.reduceAdd, Nat.reduceLeDiff, q, kv_isS36, kv_flies, kv_g11 z1 36 hk, ef, c1, eq_self, kv_suc]
    · by_cases c2 : kw_dv (kw_dx (kw_sq g s k).2) 100 < g
      · have e1 : kw_sq g s (k + 1) = ((fun i => if i = k then kw_bl (kw_dv (kw_dx (kw_dx (kw_sq g s k).2)) 3) ((kw_sq g s k).1 k) else (kw_sq g s k).1 i), kw_dx (kw_dx (kw_sq g s k).2)) := by
          show kw_s1 g k (kw_sq g s k) = _
          unfold kw_s1
          rw [if_neg c1, if_pos c2]
        rw [e1] at ih
        have g4 : kv_gt z1 36 (Int32.ofNat k) 4 = (kw_sq g s k).1 k 4 := by rw [kv_g4 _ 36 hk, hc]
        have g3 : kv_gt z1 36 (Int32.ofNat k) 3 = (kw_sq g s k).1 k 3 := by rw [kv_g3 _ 36 hk, hc]
        have g9 : kv_gt z1 36 (Int32.ofNat k) 9 = (kw_sq g s k).1 k 9 := by rw [kv_g9 _ 36 hk, hc]
        have ew : ∀ (w : Nat) (v : Int32) (R : Nat → Int32), (∀ w', R w' = if w' = w then v else (kw_sq g s k).1 k w') → kv_pt (kw_sq g s k).1 k w v = (fun i => if i = k then R else (kw_sq g s k).1 i) := by
          intro w v R hR
          funext i w'
          unfold kv_pt
          by_cases ci : i = k
          · subst ci
            rw [if_pos rfl, hR w']
            by_cases cw : w' = w
            · rw [if_pos ⟨rfl, cw⟩, if_pos cw]
            · rw [if_neg (fun r => cw r.2), if_neg cw]
          · rw [if_neg (fun r => ci r.1), if_neg ci]
        rcases kw_dv3 (kw_dx (kw_dx (kw_sq g s k).2)) with c3 | c3 | c3
        · rw [c3] at ih
          obtain ⟨z', zl', r, x⟩ := ih (kv_su z1 36 (Int32.ofNat k) 4 (kv_mx 0 ((kw_sq g s k).1 k 4 - 5))) (kv_z (kv_z zl1 a (vp_updL (zl1 a) 0 (kw_dx (kw_sq g s k).2))) a (vp_updL (kv_z zl1 a (vp_updL (zl1 a) 0 (kw_dx (kw_sq g s k).2)) a) 0 (kw_dx (kw_dx (kw_sq g s k).2)))) (some (.int ((kw_sq g s k).1 k 4))) (fun c h => (kw_su_fr _ _ _ _ _ h).trans (hf c h)) (by
            rw [kw_sk4 _ 36 hk, hc]
            exact ew 4 _ _ (fun w' => rfl)) (by rw [kv_zs, kw_updL])
          refine ⟨z', zl', ?_, x⟩
          rw [← r, kv_e24_3]
          simp only [kv_e24_0, kv_e24_1, kv_e24_5, kv_e24_7, kv_e24_10, kv_e24_11, kv_e24_13, kv_e24_16, kv_e24_19, kv_e24_20, kv_e24_22, kv_e24_25, kv_e24_26, kv_e24_29, kv_e24_32, kv_e24_33, kv_e24_35, kv_e24_36, kv_e24_39, kv_e24_41, kv_e24_42, kv_e24_43, kv_e24_46, kv_e24_72, kv_e24_73, kv_e24_75, kv_e24_76, kv_e24_77, kv_e24_79, kv_e24_80, kv_e24_81, kv_e24_84, kv_e24_87, kv_e24_90, kv_e24_91, kv_e24_93, kv_e24_94, kv_e24_95, kv_e24_97, kv_e24_98, kv_e24_101, kv_e24_103, kv_e24_104, kv_e24_105, kv_e24_108, kv_e24_111, kv_e24_114, kv_e24_115, kv_e24_117, kv_e24_119, kv_e24_120, kv_e24_122, kv_e24_124, kv_e24_127, kv_e24_128, kv_e24_129, kv_e24_132, kv_e24_135, kv_e24_138, kv_o10, not_false_eq_true, not_true, if_true, if_false, kv_then_s, kv_then_v, kv_then_n, List.cons_append, List.nil_append, kv_Ci, kv_Cr, kv_Cn, kv_Cu, kv_C0, kv_catc, kv_gCi, kv_gCl, kv_gCr, kv_nb0, kv_nb1, kv_nbi, kv_nb01, Nat.reduceAdd, Nat.reduceLeDiff, q, kv_isS36, kv_flies, kv_g11 z1 36 hk, ef, c1, hD, kw_draw hD kw_100p kw_100n, kw_draw hD kw_3p kw_3n, hx, c2, kv_get, g4, kv_zs, kw_updL, c3, eq_self, kv_set, kv_suc]
        · rw [c3] at ih
          obtain ⟨z', zl', r, x⟩ := ih (kv_su z1 36 (Int32.ofNat k) 4 (kv_mn ((kw_sq g s k).1 k 3) ((kw_sq g s k).1 k 4 + 5))) (kv_z (kv_z zl1 a (vp_updL (zl1 a) 0 (kw_dx (kw_sq g s k).2))) a (vp_updL (kv_z zl1 a (vp_updL (zl1 a) 0 (kw_dx (kw_sq g s k).2)) a) 0 (kw_dx (kw_dx (kw_sq g s k).2)))) (some (.int ((kw_sq g s k).1 k 4))) (fun c h => (kw_su_fr _ _ _ _ _ h).trans (hf c h)) (by
            rw [kw_sk4 _ 36 hk, hc]
            exact ew 4 _ _ (fun w' => rfl)) (by rw [kv_zs, kw_updL])
          refine ⟨z', zl', ?_, x⟩
          rw [← r, kv_e24_3]
          simp only [kv_e24_0, kv_e24_1, kv_e24_5, kv_e24_7, kv_e24_10, kv_e24_11, kv_e24_13, kv_e24_16, kv_e24_19, kv_e24_20, kv_e24_22, kv_e24_25, kv_e24_26, kv_e24_29, kv_e24_32, kv_e24_33, kv_e24_35, kv_e24_36, kv_e24_39, kv_e24_41, kv_e24_42, kv_e24_43, kv_e24_46, kv_e24_72, kv_e24_73, kv_e24_75, kv_e24_76, kv_e24_77, kv_e24_79, kv_e24_80, kv_e24_81, kv_e24_84, kv_e24_87, kv_e24_90, kv_e24_91, kv_e24_93, kv_e24_94, kv_e24_95, kv_e24_97, kv_e24_98, kv_e24_101, kv_e24_103, kv_e24_104, kv_e24_105, kv_e24_108, kv_e24_111, kv_e24_114, kv_e24_115, kv_e24_117, kv_e24_119, kv_e24_120, kv_e24_122, kv_e24_124, kv_e24_127, kv_e24_128, kv_e24_129, kv_e24_132, kv_e24_135, kv_e24_138, kv_o10, not_false_eq_true, not_true, if_true, if_false, kv_then_s, kv_then_v, kv_then_n, List.cons_append, List.nil_append, kv_Ci, kv_Cr, kv_Cn, kv_Cu, kv_C0, kv_catc, kv_gCi, kv_gCl, kv_gCr, kv_nb0, kv_nb1, kv_nbi, kv_nb01, Nat.reduceAdd, Nat.reduceLeDiff, q, kv_isS36, kv_flies, kv_g11 z1 36 hk, ef, c1, hD, kw_draw hD kw_100p kw_100n, kw_draw hD kw_3p kw_3n, hx, c2, kv_get, g4, g3, kv_zs, kw_updL, c3, eq_self, kv_set, kv_suc]
        · rw [c3] at ih
          obtain ⟨z', zl', r, x⟩ := ih (kv_su z1 36 (Int32.ofNat k) 9 ((kw_sq g s k).1 k 9 + 1)) (kv_z (kv_z zl1 a (vp_updL (zl1 a) 0 (kw_dx (kw_sq g s k).2))) a (vp_updL (kv_z zl1 a (vp_updL (zl1 a) 0 (kw_dx (kw_sq g s k).2)) a) 0 (kw_dx (kw_dx (kw_sq g s k).2)))) (some (.int ((kw_sq g s k).1 k 4))) (fun c h => (kw_su_fr _ _ _ _ _ h).trans (hf c h)) (by
            rw [kw_sk9 _ 36 hk, hc]
            exact ew 9 _ _ (fun w' => rfl)) (by rw [kv_zs, kw_updL])
          refine ⟨z', zl', ?_, x⟩
          rw [← r, kv_e24_3]
          simp only [kv_e24_0, kv_e24_1, kv_e24_5, kv_e24_7, kv_e24_10, kv_e24_11, kv_e24_13, kv_e24_16, kv_e24_19, kv_e24_20, kv_e24_22, kv_e24_25, kv_e24_26, kv_e24_29, kv_e24_32, kv_e24_33, kv_e24_35, kv_e24_36, kv_e24_39, kv_e24_41, kv_e24_42, kv_e24_43, kv_e24_46, kv_e24_72, kv_e24_73, kv_e24_75, kv_e24_76, kv_e24_77, kv_e24_79, kv_e24_80, kv_e24_81, kv_e24_84, kv_e24_87, kv_e24_90, kv_e24_91, kv_e24_93, kv_e24_94, kv_e24_95, kv_e24_97, kv_e24_98, kv_e24_101, kv_e24_103, kv_e24_104, kv_e24_105, kv_e24_108, kv_e24_111, kv_e24_114, kv_e24_115, kv_e24_117, kv_e24_119, kv_e24_120, kv_e24_122, kv_e24_124, kv_e24_127, kv_e24_128, kv_e24_129, kv_e24_132, kv_e24_135, kv_e24_138, kv_o10, not_false_eq_true, not_true, if_true, if_false, kv_then_s, kv_then_v, kv_then_n, List.cons_append, List.nil_append, kv_Ci, kv_Cr, kv_Cn, kv_Cu, kv_C0, kv_catc, kv_gCi, kv_gCl, kv_gCr, kv_nb0, kv_nb1, kv_nbi, kv_nb01, Nat.reduceAdd, Nat.reduceLeDiff, q, kv_isS36, kv_flies, kv_g11 z1 36 hk, ef, c1, hD, kw_draw hD kw_100p kw_100n, kw_draw hD kw_3p kw_3n, hx, c2, kv_get, g4, g9, kv_zs, kw_updL, c3, show ((2 : Int32) = 0) = False from by decide, show ((2 : Int32) = 1) = False from by decide, kv_set, kv_suc]
      · have e1 : kw_sq g s (k + 1) = ((kw_sq g s k).1, kw_dx (kw_sq g s k).2) := by
          show kw_s1 g k (kw_sq g s k) = _
          unfold kw_s1
          rw [if_neg c1, if_neg c2]
        rw [e1] at ih
        obtain ⟨z', zl', r, x⟩ := ih z1 (kv_z zl1 a (vp_updL (zl1 a) 0 (kw_dx (kw_sq g s k).2))) u5 hf hc (by rw [kv_zs, kw_updL])
        refine ⟨z', zl', ?_, x⟩
        rw [← r, kv_e24_3]
        simp only [kv_e24_0, kv_e24_1, kv_e24_5, kv_e24_7, kv_e24_10, kv_e24_11, kv_e24_13, kv_e24_16, kv_e24_19, kv_e24_20, kv_e24_22, kv_e24_25, kv_e24_26, kv_e24_29, kv_e24_32, kv_e24_33, kv_e24_35, kv_e24_36, kv_e24_39, kv_e24_41, kv_e24_42, kv_e24_43, kv_e24_46, kv_e24_72, kv_e24_73, kv_e24_75, kv_e24_76, kv_e24_77, kv_e24_79, kv_e24_80, kv_e24_81, kv_e24_84, kv_e24_87, kv_e24_90, kv_e24_91, kv_e24_93, kv_e24_94, kv_e24_95, kv_e24_97, kv_e24_98, kv_e24_101, kv_e24_103, kv_e24_104, kv_e24_105, kv_e24_108, kv_e24_111, kv_e24_114, kv_e24_115, kv_e24_117, kv_e24_119, kv_e24_120, kv_e24_122, kv_e24_124, kv_e24_127, kv_e24_128, kv_e24_129, kv_e24_132, kv_e24_135, kv_e24_138, kv_o10, not_false_eq_true, not_true, if_true, if_false, kv_then_s, kv_then_v, kv_then_n, List.cons_append, List.nil_append, kv_Ci, kv_Cr, kv_Cn, kv_Cu, kv_C0, kv_catc, kv_gCi, kv_gCl, kv_gCr, kv_nb0, kv_nb1, kv_nbi, kv_nb01, Nat.reduceAdd, Nat.reduceLeDiff, q, kv_isS36, kv_flies, kv_g11 z1 36 hk, ef, c1, hD, kw_draw hD kw_100p kw_100n, hx, c2, kv_suc]
end
