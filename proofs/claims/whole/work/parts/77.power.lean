/-! power -/
section
variable {d n B W : Nat} {e : List kv_E} {z zK zM zK' zM' : Nat → Nat → Int32} {zl zlM : Nat → Nat → Int64}
def kw_bm (m : Nat) : Nat → Bool := fun i => m.testBit i
theorem kw_bs_bm {m : Nat} (h : m < 256) : Int32.ofNat m = kv_bs 8 (kw_bm m) := by
  have all : ∀ m : Fin 256, Int32.ofNat m.val = kv_bs 8 (kw_bm m.val) := by decide +kernel
  exact all ⟨m, h⟩
theorem kw_bs_z (p : Nat → Bool) : (kv_bs 8 p = 0) = ∀ i, i < 8 → p i = false := by
  have z0 : ∀ k : Fin 8, ((0 : Int32) >>> (Int32.ofNat k.val &&& 31)) &&& 1 = 0 := by decide
  refine propext ⟨fun h i hi => ?_, fun h => kw_bs_0 h⟩
  have b := kw_bs_bit p hi
  rw [h, z0 ⟨i, hi⟩] at b
  cases hp : p i with
  | false => rfl
  | true =>
    rw [hp] at b
    exact absurd b (by decide)
theorem kw_bs_one {k : Nat} (h : k < 8) : (1 : Int32) <<< (Int32.ofNat k &&& 31) = kv_bs 8 (fun i => decide (i = k)) := by
  have all : ∀ k : Fin 8, (1 : Int32) <<< (Int32.ofNat k.val &&& 31) = kv_bs 8 (fun i => decide (i = k.val)) := by decide
  exact all ⟨k, h⟩
theorem kw_pow {n : Nat} (h : n ≤ 8) : (1 : Int32) <<< (Int32.ofNat n &&& 31) = Int32.ofNat (2 ^ n) ∧ 2 ^ n ≤ 256 := by
  have all : ∀ n : Fin 9, (1 : Int32) <<< (Int32.ofNat n.val &&& 31) = Int32.ofNat (2 ^ n.val) ∧ 2 ^ n.val ≤ 256 := by decide
  exact all ⟨n, by omega⟩
theorem kw_bm_big {m n : Nat} (h : m < 256) (hb : ∀ i, n ≤ i → i < 8 → kw_bm m i = false) : m < 2 ^ n := by
  refine Nat.lt_pow_two_of_testBit _ (fun i hi => ?_)
  by_cases q : i < 8
  · exact hb i hi q
  · exact Nat.testBit_lt_two_pow (Nat.lt_of_lt_of_le h (show 256 ≤ 2 ^ i from Nat.pow_le_pow_right (n := 2) (by omega) (show 8 ≤ i by omega)))
def kw_hs (c : Nat → Nat → Int32) (p : Nat → Bool) (n : Nat) : Int32 := kv_sm n (fun i => if p i = true then c i 4 else 0)
theorem kw_hf_bs (c : Nat → Nat → Int32) (p : Nat → Bool) : kv_hf c (kv_bs 8 p) = kw_hs c p 8 := by
  unfold kv_hf kw_hs
  exact kw_sm_congr (fun k hk => by rw [kw_bt_bs p hk])
theorem kw_hs_n {c : Nat → Nat → Int32} {p : Nat → Bool} (h8 : n ≤ 8) (h : ∀ i, n ≤ i → i < 8 → p i = false) : kw_hs c p n = kw_hs c p 8 := by
  have h1 : kw_hs c p n = kw_hs c (fun i => p i && decide (i < n)) n := kw_sm_congr (fun k hk => by simp [hk])
  have h2 : kw_hs c p 8 = kw_hs c (fun i => p i && decide (i < n)) 8 := kw_sm_congr (fun k hk => by
    by_cases q : k < n
    · simp [q]
    · simp [q, h k (by omega) hk])
  rw [h1, h2]
  have := kw_sm_ext (f := fun i => if (p i && decide (i < n)) = true then c i 4 else 0) (m := n) (8 - n) (fun k hk => by
    rw [if_neg]
    simp
    intro _
    omega)
  rw [show n + (8 - n) = 8 from by omega] at this
  exact this.symm
theorem kw_hs_ins {c : Nat → Nat → Int32} {p : Nat → Bool} {k : Nat} (hp : p k = false) : ∀ n, k < n → kw_hs c (fun i => p i || decide (i = k)) n = kw_hs c p n + c k 4 := by
  intro n
  induction n with
  | zero => intro h; omega
  | succ n ih =>
    intro h
    unfold kw_hs at ih ⊢
    rw [kv_sm_s, kv_sm_s]
    by_cases q : k = n
    · subst q
      have e1 : kv_sm k (fun i => if (p i || decide (i = k)) = true then c i 4 else 0) = kv_sm k (fun i => if p i = true then c i 4 else 0) := kw_sm_congr (fun i hi => by
        have : ¬ i = k := by omega
        simp [this])
      rw [e1, hp]
      simp
    · rw [ih (by omega)]
      have e2 : (p n || decide (n = k)) = p n := by
        have : ¬ n = k := fun r => q r.symm
        simp [this]
      show _ + (if (p n || decide (n = k)) = true then _ else _) = _
      rw [e2, Int32.add_assoc, Int32.add_assoc, Int32.add_comm (c k 4)]
theorem kw_mheights (hK : kw_K n z) (p : Nat → Bool) : kv_Rn (d + 1) 250 0 [some (.ref 0), some (.int (kv_bs 8 p)), none, none] [] (kv_m z zl) = some (some (.int (kw_hs (km z) p n)), kv_m z zl) := by
  have h8 := hK.1.2
  have hl := kv_up (fun k => kv_Rn (d + 1) 250 4 [some (.ref 0), some (.int (kv_bs 8 p)), some (.int (kw_hs (km z) p k)), some (.int (Int32.ofNat k))] [] (kv_m z zl) = some (some (.int (kw_hs (km z) p n)), kv_m z zl)) n ?_ ?_
  · simp only [kv_e250_0, kv_e250_1, kv_e250_2, kv_e250_3, kv_o10, not_false_eq_true, not_true, if_true, if_false, kv_then_s, kv_then_v, kv_then_n, List.cons_append, List.nil_append, kv_Ci, kv_Cr, kv_Cn, kv_Cu, kv_C0, kv_catc, kv_gCi, kv_gCl, kv_gCr, kv_nb0, kv_nb1, kv_nbi, kv_nb01, Nat.reduceAdd, Nat.reduceLeDiff]
    exact hl
  · rw [kv_e250_4]
    simp only [kv_e250_0, kv_e250_1, kv_e250_2, kv_e250_3, kv_e250_5, kv_e250_6, kv_e250_9, kv_e250_12, kv_e250_13, kv_e250_14, kv_e250_15, kv_e250_18, kv_e250_21, kv_e250_22, kv_e250_23, kv_e250_24, kv_e250_27, kv_e250_30, kv_e250_31, kv_e250_32, kv_e250_33, kv_e250_36, kv_e250_39, kv_e250_40, kv_o10, not_false_eq_true, not_true, if_true, if_false, kv_then_s, kv_then_v, kv_then_n, List.cons_append, List.nil_append, kv_Ci, kv_Cr, kv_Cn, kv_Cu, kv_C0, kv_catc, kv_gCi, kv_gCl, kv_gCr, kv_nb0, kv_nb1, kv_nbi, kv_nb01, Nat.reduceAdd, Nat.reduceLeDiff, hK.1.1, kw_ln2 h8 (show n < 2147483648 by omega), Nat.le_refl]
  · intro k hk ih
    have hk8 : k < 8 := by omega
    unfold kw_hs at ih ⊢
    rw [kv_sm_s k] at ih
    have b := kw_bs_bit p hk8
    rw [kv_e250_4, ← ih]
    cases hp : p k with
    | false =>
      rw [hp] at b
      simp only [kv_e250_0, kv_e250_1, kv_e250_2, kv_e250_3, kv_e250_5, kv_e250_6, kv_e250_9, kv_e250_12, kv_e250_13, kv_e250_14, kv_e250_15, kv_e250_18, kv_e250_21, kv_e250_22, kv_e250_23, kv_e250_24, kv_e250_27, kv_e250_30, kv_e250_31, kv_e250_32, kv_e250_33, kv_e250_36, kv_e250_39, kv_e250_40, kv_o10, not_false_eq_true, not_true, if_true, if_false, kv_then_s, kv_then_v, kv_then_n, List.cons_append, List.nil_append, kv_Ci, kv_Cr, kv_Cn, kv_Cu, kv_C0, kv_catc, kv_gCi, kv_gCl, kv_gCr, kv_nb0, kv_nb1, kv_nbi, kv_nb01, Nat.reduceAdd, Nat.reduceLeDiff, hK.1.1, kw_ln2 h8 (show k < 2147483648 by omega), eq_false (show ¬ n ≤ k by omega), kw_has, b, Bool.false_eq_true, show ((0 : Int32) = 1) = False from by decide, eq_self, kv_suc]
    | true =>
      rw [hp] at b
      simp only [kv_e250_0, kv_e250_1, kv_e250_2, kv_e250_3, kv_e250_5, kv_e250_6, kv_e250_9, kv_e250_12, kv_e250_13, kv_e250_14, kv_e250_15, kv_e250_18, kv_e250_21, kv_e250_22, kv_e250_23, kv_e250_24, kv_e250_27, kv_e250_30, kv_e250_31, kv_e250_32, kv_e250_33, kv_e250_36, kv_e250_39, kv_e250_40, kv_o10, not_false_eq_true, not_true, if_true, if_false, kv_then_s, kv_then_v, kv_then_n, List.cons_append, List.nil_append, kv_Ci, kv_Cr, kv_Cn, kv_Cu, kv_C0, kv_catc, kv_gCi, kv_gCl, kv_gCr, kv_nb0, kv_nb1, kv_nbi, kv_nb01, Nat.reduceAdd, Nat.reduceLeDiff, hK.1.1, kw_ln2 h8 (show k < 2147483648 by omega), eq_false (show ¬ n ≤ k by omega), kw_has, b, kw_of3 hk8, eq_self, kv_suc]
theorem kw_mwins (hK : kw_K n z) (p : Nat → Bool) (hp : ∀ i, n ≤ i → i < 8 → p i = false) : kv_Rn (d + 4) 251 0 [some (.ref 0), some (.int (kv_bs 8 p))] [] (kv_m z zl) = some (some (.int (if z 14 2 * kw_hs (km z) (fun i => decide (¬ km z i 11 = 0)) 8 < kw_hs (km z) p 8 * 100 then 1 else 0)), kv_m z zl) := by
  have h8 := hK.1.2
  have hf : ∀ i, n ≤ i → i < 8 → decide (¬ km z i 11 = 0) = false := fun i hi _ => by simp [(hK.2 i).2 hi]
  have r14 : ∀ i, kv_rd z 14 i = z 14 i := fun i => kv_rd_lt (by omega)
  have fl : kw_fs (km z) = kv_bs 8 (fun i => decide (¬ km z i 11 = 0)) := rfl
  have h1 := kw_mheights (d := d + 2) (zl := zl) hK p
  have h2 := kw_mheights (d := d + 2) (zl := zl) hK (fun i => decide (¬ km z i 11 = 0))
  rw [kw_hs_n h8 hp] at h1
  rw [kw_hs_n h8 hf] at h2
  simp only [kv_e251_0, kv_e251_2, kv_e251_3, kv_e251_4, kv_e251_7, kv_e251_8, kv_e251_9, kv_e251_12, kv_e251_13, kv_e251_14, kv_e251_15, kv_e251_16, kv_e251_19, kv_e251_22, kv_e251_23, kv_e251_26, kv_e251_27, kv_e251_30, kv_e251_31, kv_o10, not_false_eq_true, not_true, if_true, if_false, kv_then_s, kv_then_v, kv_then_n, List.cons_append, List.nil_append, kv_Ci, kv_Cr, kv_Cn, kv_Cu, kv_C0, kv_catc, kv_gCi, kv_gCl, kv_gCr, kv_nb0, kv_nb1, kv_nbi, kv_nb01, Nat.reduceAdd, Nat.reduceLeDiff, h1, kv_ar_lt (show 14 < 300 by omega), r14, kv_am14, kw_p2, kw_t2, or_self, kw_flying hK, fl, h2]
  rw [Int32.mul_comm 100]
  by_cases q : z 14 2 * kw_hs (km z) (fun i => decide (¬ km z i 11 = 0)) 8 < kw_hs (km z) p 8 * 100
  · have q2 : ¬ kw_hs (km z) p 8 * 100 ≤ z 14 2 * kw_hs (km z) (fun i => decide (¬ km z i 11 = 0)) 8 := Int32.not_le.mpr q
    simp only [q, q2, kv_o10, not_false_eq_true, not_true, if_true, if_false, kv_then_s, kv_then_v, kv_then_n, List.cons_append, List.nil_append, kv_Ci, kv_Cr, kv_Cn, kv_Cu, kv_C0, kv_catc, kv_gCi, kv_gCl, kv_gCr, kv_nb0, kv_nb1, kv_nbi, kv_nb01, Nat.reduceAdd, Nat.reduceLeDiff]
  · have q2 : kw_hs (km z) p 8 * 100 ≤ z 14 2 * kw_hs (km z) (fun i => decide (¬ km z i 11 = 0)) 8 := Int32.not_lt.mp q
    simp only [q, q2, kv_o10, not_false_eq_true, not_true, if_true, if_false, kv_then_s, kv_then_v, kv_then_n, List.cons_append, List.nil_append, kv_Ci, kv_Cr, kv_Cn, kv_Cu, kv_C0, kv_catc, kv_gCi, kv_gCl, kv_gCr, kv_nb0, kv_nb1, kv_nbi, kv_nb01, Nat.reduceAdd, Nat.reduceLeDiff]
/-- a set of flyers -/
def kw_sub (c : Nat → Nat → Int32) (m : Nat) : Prop := ∀ i, i < 8 → kw_bm m i = true → ¬ c i 11 = 0
theorem kw_sub_M (c : Nat → Nat → Int32) {m : Nat} (h : m < 256) : (Int32.ofNat m &&& (kv_bs 8 (fun i => decide (¬ c i 11 = 0)) ^^^ -1) = 0) = kw_sub c m := by
  rw [kw_bs_bm h, kw_bs_not _ _ 8 (Nat.le_refl _), kw_bs_z]
  unfold kw_sub
  refine propext ⟨fun q i hi hb r => ?_, fun q i hi => ?_⟩
  · have := q i hi
    rw [hb, r] at this
    simp at this
  · cases hb : kw_bm m i with
    | false => rfl
    | true =>
      have := q i hi hb
      simp [this]
theorem kw_sub_K (c : Nat → Nat → Int32) {m k : Nat} (h : m < 256) (hk : k < 8) : (Int32.ofNat m &&& ((kv_bs 8 (fun i => decide (¬ c i 11 = 0)) &&& (((1 : Int32) <<< (Int32.ofNat k &&& 31)) ^^^ -1)) ^^^ -1) = 0) = (kw_sub c m ∧ kw_bm m k = false) := by
  rw [kw_bs_m _ hk 8 (Nat.le_refl _), kw_bs_bm h, kw_bs_not _ _ 8 (Nat.le_refl _), kw_bs_z]
  unfold kw_sub
  refine propext ⟨fun q => ⟨fun i hi hb r => ?_, ?_⟩, fun q i hi => ?_⟩
  · have := q i hi
    rw [hb, r] at this
    simp at this
  · have := q k hk
    simp at this
    exact this
  · cases hb : kw_bm m i with
    | false => rfl
    | true =>
      have h1 := q.1 i hi hb
      have h2 : ¬ i = k := fun r => by
        rw [r, q.2] at hb
        cases hb
      simp [h1, h2]
def kw_G (c : Nat → Nat → Int32) (mj : Int32) (k m : Nat) : Prop := (m < 256 ∧ kw_sub c m ∧ kw_bm m k = false) ∧ ¬ (mj * kw_hs c (fun i => decide (¬ c i 11 = 0)) 8 < kw_hs c (kw_bm m) 8 * 100) ∧ mj * kw_hs c (fun i => decide (¬ c i 11 = 0)) 8 < (kw_hs c (kw_bm m) 8 + c k 4) * 100
noncomputable def kw_pw (c : Nat → Nat → Int32) (mj : Int32) (k m : Nat) : Int32 := kv_sm m (fun m => @ite _ (kw_G c mj k m) (Classical.propDecidable _) 1 0)
theorem kw_pw_1 {c : Nat → Nat → Int32} {mj : Int32} {k m : Nat} (h : kw_G c mj k m) : kw_pw c mj k (m + 1) = kw_pw c mj k m + 1 := by
  unfold kw_pw
  rw [kv_sm_s, if_pos h]
theorem kw_pw_0 {c : Nat → Nat → Int32} {mj : Int32} {k m : Nat} (h : ¬ kw_G c mj k m) : kw_pw c mj k (m + 1) = kw_pw c mj k m := by
  unfold kw_pw
  rw [kv_sm_s, if_neg h, Int32.add_zero]
theorem kw_sub_n {c : Nat → Nat → Int32} (h1 : kw_01 n c) {m : Nat} (hm : m < 256) (h : kw_sub c m) : m < 2 ^ n := kw_bm_big hm (fun i hi h8 => by
  cases hb : kw_bm m i with
  | false => rfl
  | true => exact absurd ((h1 i).2 hi) (h i h8 hb))
theorem kw_pw_n {c : Nat → Nat → Int32} (h1 : kw_01 n c) (h8 : n ≤ 8) (mj : Int32) (k : Nat) : kw_pw c mj k (2 ^ n) = kw_pw c mj k 256 := by
  have := kw_sm_ext (f := fun m => @ite _ (kw_G c mj k m) (Classical.propDecidable _) 1 0) (m := 2 ^ n) (256 - 2 ^ n) (fun m hm => by
    rw [if_neg]
    intro q
    have := kw_sub_n h1 q.1.1 q.1.2.1
    omega)
  have hp := (kw_pow h8).2
  rw [show 2 ^ n + (256 - 2 ^ n) = 256 from by omega] at this
  exact this.symm
theorem kw_f_power (h : kw_R n B W zK zM) (x : Int32) : kw_A (d + 12) 116 252 [some (.ref 0), some (.int x), none, none, none, none, none, none] [some (.ref 0), some (.int x), none, none, none] zK zM zl zlM := by
  have hKK := kw_R_KK h
  have hI := kw_R_I h
  have h8 := hI.1.1.1.2
  have h01 := hI.1.1.2
  have ek := kw_R_km h.2.1.1
  have emj : zK 3 2 = zM 14 2 := h.1.2.2.1.2.1 2 (by omega)
  by_cases c0 : x < 0
  · refine kw_A0 (r := -1) h ?_ ?_
    · simp only [kv_e116_0, kv_e116_1, kv_e116_2, kv_e116_5, kv_e116_8, kv_e116_9, kv_e116_10, kv_e116_11, kv_e116_14, kv_e116_17, kv_e116_18, kv_e116_19, kv_e116_20, kv_e116_21, kv_e116_22, kv_e116_23, kv_e116_24, kv_e116_25, kv_e116_28, kv_e116_29, kv_e116_32, kv_e116_35, kv_e116_38, kv_e116_39, kv_e116_40, kv_e116_43, kv_e116_44, kv_e116_45, kv_e116_48, kv_e116_50, kv_e116_51, kv_e116_53, kv_e116_54, kv_e116_58, kv_e116_61, kv_e116_64, kv_e116_66, kv_e116_67, kv_e116_68, kv_e116_69, kv_e116_70, kv_e116_73, kv_e116_76, kv_e116_77, kv_e116_80, kv_e116_82, kv_e116_85, kv_e116_87, kv_e116_88, kv_e116_91, kv_e116_93, kv_e116_94, kv_e116_97, kv_e116_100, kv_e116_101, kv_e116_104, kv_e116_106, kv_e116_108, kv_e116_109, kv_e116_110, kv_e116_113, kv_e116_116, kv_e116_119, kv_e116_122, kv_e116_125, kv_e116_127, kv_o10, not_false_eq_true, not_true, if_true, if_false, kv_then_s, kv_then_v, kv_then_n, List.cons_append, List.nil_append, kv_Ci, kv_Cr, kv_Cn, kv_Cu, kv_C0, kv_catc, kv_gCi, kv_gCl, kv_gCr, kv_nb0, kv_nb1, kv_nbi, kv_nb01, Nat.reduceAdd, Nat.reduceLeDiff, kw_KfliesN c0, eq_self]
    · simp only [kv_e252_0, kv_e252_1, kv_e252_2, kv_e252_5, kv_e252_8, kv_e252_9, kv_e252_10, kv_e252_11, kv_e252_14, kv_e252_15, kv_e252_16, kv_e252_17, kv_e252_18, kv_e252_22, kv_e252_23, kv_e252_24, kv_e252_27, kv_e252_28, kv_e252_31, kv_e252_32, kv_e252_34, kv_e252_35, kv_e252_36, kv_e252_37, kv_e252_38, kv_e252_41, kv_e252_43, kv_e252_44, kv_e252_47, kv_e252_50, kv_e252_51, kv_e252_53, kv_e252_56, kv_e252_59, kv_e252_60, kv_e252_62, kv_e252_63, kv_e252_64, kv_e252_65, kv_e252_66, kv_e252_69, kv_e252_72, kv_e252_73, kv_e252_76, kv_e252_77, kv_e252_78, kv_e252_79, kv_e252_82, kv_e252_85, kv_e252_86, kv_o10, not_false_eq_true, not_true, if_true, if_false, kv_then_s, kv_then_v, kv_then_n, List.cons_append, List.nil_append, kv_Ci, kv_Cr, kv_Cn, kv_Cu, kv_C0, kv_catc, kv_gCi, kv_gCl, kv_gCr, kv_nb0, kv_nb1, kv_nbi, kv_nb01, Nat.reduceAdd, Nat.reduceLeDiff, kw_fliesN c0, eq_self]
  · obtain ⟨k, hk, rfl⟩ := kv_nat (kv_nn0 c0)
    by_cases c1 : km zM k 11 = 0
    · refine kw_A0 (r := -1) h ?_ ?_
      · simp only [kv_e116_0, kv_e116_1, kv_e116_2, kv_e116_5, kv_e116_8, kv_e116_9, kv_e116_10, kv_e116_11, kv_e116_14, kv_e116_17, kv_e116_18, kv_e116_19, kv_e116_20, kv_e116_21, kv_e116_22, kv_e116_23, kv_e116_24, kv_e116_25, kv_e116_28, kv_e116_29, kv_e116_32, kv_e116_35, kv_e116_38, kv_e116_39, kv_e116_40, kv_e116_43, kv_e116_44, kv_e116_45, kv_e116_48, kv_e116_50, kv_e116_51, kv_e116_53, kv_e116_54, kv_e116_58, kv_e116_61, kv_e116_64, kv_e116_66, kv_e116_67, kv_e116_68, kv_e116_69, kv_e116_70, kv_e116_73, kv_e116_76, kv_e116_77, kv_e116_80, kv_e116_82, kv_e116_85, kv_e116_87, kv_e116_88, kv_e116_91, kv_e116_93, kv_e116_94, kv_e116_97, kv_e116_100, kv_e116_101, kv_e116_104, kv_e116_106, kv_e116_108, kv_e116_109, kv_e116_110, kv_e116_113, kv_e116_116, kv_e116_119, kv_e116_122, kv_e116_125, kv_e116_127, kv_o10, not_false_eq_true, not_true, if_true, if_false, kv_then_s, kv_then_v, kv_then_n, List.cons_append, List.nil_append, kv_Ci, kv_Cr, kv_Cn, kv_Cu, kv_C0, kv_catc, kv_gCi, kv_gCl, kv_gCr, kv_nb0, kv_nb1, kv_nbi, kv_nb01, Nat.reduceAdd, Nat.reduceLeDiff, kw_Kflies hKK hk, ek, c1, eq_self]
      · simp only [kv_e252_0, kv_e252_1, kv_e252_2, kv_e252_5, kv_e252_8, kv_e252_9, kv_e252_10, kv_e252_11, kv_e252_14, kv_e252_15, kv_e252_16, kv_e252_17, kv_e252_18, kv_e252_22, kv_e252_23, kv_e252_24, kv_e252_27, kv_e252_28, kv_e252_31, kv_e252_32, kv_e252_34, kv_e252_35, kv_e252_36, kv_e252_37, kv_e252_38, kv_e252_41, kv_e252_43, kv_e252_44, kv_e252_47, kv_e252_50, kv_e252_51, kv_e252_53, kv_e252_56, kv_e252_59, kv_e252_60, kv_e252_62, kv_e252_63, kv_e252_64, kv_e252_65, kv_e252_66, kv_e252_69, kv_e252_72, kv_e252_73, kv_e252_76, kv_e252_77, kv_e252_78, kv_e252_79, kv_e252_82, kv_e252_85, kv_e252_86, kv_o10, not_false_eq_true, not_true, if_true, if_false, kv_then_s, kv_then_v, kv_then_n, List.cons_append, List.nil_append, kv_Ci, kv_Cr, kv_Cn, kv_Cu, kv_C0, kv_catc, kv_gCi, kv_gCl, kv_gCr, kv_nb0, kv_nb1, kv_nbi, kv_nb01, Nat.reduceAdd, Nat.reduceLeDiff, kw_flies hI.1.1 hk, c1, eq_self]
    · obtain ⟨hkn, hk8⟩ := kw_lt8 h c1
      have hfl : kw_fs (km zM) = kv_bs 8 (fun i => decide (¬ km zM i 11 = 0)) := rfl
      have l256 : ((256 : Int32) ≤ Int32.ofNat 256) = True := by decide
      have lm : ∀ {m : Nat}, m < 256 → ((256 : Int32) ≤ Int32.ofNat m) = False := fun {m} hm => kv_ln_ (m := 256) hm (by omega)
      have hlK := kv_up (fun m => ∀ u7, kv_Rn (d + 12) 116 56 [some (.ref 0), some (.int (Int32.ofNat k)), some (.int (kv_bs 8 (fun i => decide (¬ km zM i 11 = 0)) &&& (((1 : Int32) <<< (Int32.ofNat k &&& 31)) ^^^ -1))), some (.int (kw_hs (km zM) (fun i => decide (¬ km zM i 11 = 0)) 8)), some (.int (km zM k 4)), some (.int (kw_pw (km zM) (zM 14 2) k m)), some (.int (Int32.ofNat m)), u7] [] (kv_h [] zK zl) = some (some (.int (kw_pw (km zM) (zM 14 2) k 256)), kv_h [] zK zl)) 256 ?_ ?_
      · have hlM := kv_up (fun m => kv_Rn (d + 12) 252 20 [some (.ref 0), some (.int (Int32.ofNat k)), some (.int (kv_bs 8 (fun i => decide (¬ km zM i 11 = 0)))), some (.int (kw_pw (km zM) (zM 14 2) k m)), some (.int (Int32.ofNat m))] [] (kv_m zM zlM) = some (some (.int (kw_pw (km zM) (zM 14 2) k (2 ^ n))), kv_m zM zlM)) (2 ^ n) ?_ ?_
        · rw [kw_pw_n h01 h8] at hlM
          refine kw_A0 (r := kw_pw (km zM) (zM 14 2) k 256) h ?_ ?_
          · simp only [kv_e116_0, kv_e116_1, kv_e116_2, kv_e116_5, kv_e116_10, kv_e116_11, kv_e116_14, kv_e116_17, kv_e116_18, kv_e116_19, kv_e116_20, kv_e116_21, kv_e116_22, kv_e116_23, kv_e116_24, kv_e116_25, kv_e116_28, kv_e116_29, kv_e116_32, kv_e116_35, kv_e116_38, kv_e116_39, kv_e116_40, kv_e116_43, kv_e116_44, kv_e116_45, kv_e116_48, kv_e116_50, kv_e116_51, kv_e116_53, kv_e116_54, kv_o10, not_false_eq_true, not_true, if_true, if_false, kv_then_s, kv_then_v, kv_then_n, List.cons_append, List.nil_append, kv_Ci, kv_Cr, kv_Cn, kv_Cu, kv_C0, kv_catc, kv_gCi, kv_gCl, kv_gCr, kv_nb0, kv_nb1, kv_nbi, kv_nb01, Nat.reduceAdd, Nat.reduceLeDiff, kw_Kflies hKK hk, ek, c1, kv_isS36, kv_flyers, kv_heightOf, kw_hf_bs, kv_get, kv_g4 zK 36 hk8]
            exact hlK none
          · simp only [kv_e252_0, kv_e252_1, kv_e252_2, kv_e252_5, kv_e252_10, kv_e252_11, kv_e252_14, kv_e252_15, kv_e252_16, kv_e252_17, kv_e252_18, kv_o10, not_false_eq_true, not_true, if_true, if_false, kv_then_s, kv_then_v, kv_then_n, List.cons_append, List.nil_append, kv_Ci, kv_Cr, kv_Cn, kv_Cu, kv_C0, kv_catc, kv_gCi, kv_gCl, kv_gCr, kv_nb0, kv_nb1, kv_nbi, kv_nb01, Nat.reduceAdd, Nat.reduceLeDiff, kw_flies hI.1.1 hk, c1, kw_flying hI.1.1, hfl]
            exact hlM
        · rw [kv_e252_20]
          simp only [kv_e252_0, kv_e252_1, kv_e252_2, kv_e252_5, kv_e252_8, kv_e252_9, kv_e252_10, kv_e252_11, kv_e252_14, kv_e252_15, kv_e252_16, kv_e252_17, kv_e252_18, kv_e252_22, kv_e252_23, kv_e252_24, kv_e252_27, kv_e252_28, kv_e252_31, kv_e252_32, kv_e252_34, kv_e252_35, kv_e252_36, kv_e252_37, kv_e252_38, kv_e252_41, kv_e252_43, kv_e252_44, kv_e252_47, kv_e252_50, kv_e252_51, kv_e252_53, kv_e252_56, kv_e252_59, kv_e252_60, kv_e252_62, kv_e252_63, kv_e252_64, kv_e252_65, kv_e252_66, kv_e252_69, kv_e252_72, kv_e252_73, kv_e252_76, kv_e252_77, kv_e252_78, kv_e252_79, kv_e252_82, kv_e252_85, kv_e252_86, kv_o10, not_false_eq_true, not_true, if_true, if_false, kv_then_s, kv_then_v, kv_then_n, List.cons_append, List.nil_append, kv_Ci, kv_Cr, kv_Cn, kv_Cu, kv_C0, kv_catc, kv_gCi, kv_gCl, kv_gCr, kv_nb0, kv_nb1, kv_nbi, kv_nb01, Nat.reduceAdd, Nat.reduceLeDiff, hI.1.1.1.1, (kw_pow h8).1, Int32.le_refl]
        · intro m hm ih
          have p8 := (kw_pow h8).2
          have hm2 : m < 256 := by omega
          have q1 : (Int32.ofNat (2 ^ n) ≤ Int32.ofNat m) = False := kv_ln_ hm (by omega)
          rw [← ih, kv_e252_20]
          have sM := kw_sub_M (km zM) hm2
          by_cases a1 : kw_sub (km zM) m
          · have hb : ((Int32.ofNat m >>> (Int32.ofNat k &&& 31)) &&& 1 = 1) = (kw_bm m k = true) := by
              rw [kw_bs_bm hm2, kw_bs_bit _ hk8]
              cases kw_bm m k <;> simp
            by_cases a2 : kw_bm m k = true
            · rw [kw_pw_0 (fun q => by rw [q.1.2.2] at a2; cases a2)]
              simp only [kv_e252_0, kv_e252_1, kv_e252_2, kv_e252_5, kv_e252_8, kv_e252_9, kv_e252_10, kv_e252_11, kv_e252_14, kv_e252_15, kv_e252_16, kv_e252_17, kv_e252_18, kv_e252_22, kv_e252_23, kv_e252_24, kv_e252_27, kv_e252_28, kv_e252_31, kv_e252_32, kv_e252_34, kv_e252_35, kv_e252_36, kv_e252_37, kv_e252_38, kv_e252_41, kv_e252_43, kv_e252_44, kv_e252_47, kv_e252_50, kv_e252_51, kv_e252_53, kv_e252_56, kv_e252_59, kv_e252_60, kv_e252_62, kv_e252_63, kv_e252_64, kv_e252_65, kv_e252_66, kv_e252_69, kv_e252_72, kv_e252_73, kv_e252_76, kv_e252_77, kv_e252_78, kv_e252_79, kv_e252_82, kv_e252_85, kv_e252_86, kv_o10, not_false_eq_true, not_true, if_true, if_false, kv_then_s, kv_then_v, kv_then_n, List.cons_append, List.nil_append, kv_Ci, kv_Cr, kv_Cn, kv_Cu, kv_C0, kv_catc, kv_gCi, kv_gCl, kv_gCr, kv_nb0, kv_nb1, kv_nbi, kv_nb01, Nat.reduceAdd, Nat.reduceLeDiff, hI.1.1.1.1, (kw_pow h8).1, q1, sM, a1, kw_has, hb, a2, eq_self, Int32.add_zero, kv_suc]
            · have a2' : kw_bm m k = false := by cases q : kw_bm m k <;> simp_all
              have pn : ∀ i, n ≤ i → i < 8 → kw_bm m i = false := fun i hi h8' => by
                cases hb : kw_bm m i with
                | false => rfl
                | true => exact absurd ((h01 i).2 hi) (a1 i h8' hb)
              have w1 := kw_mwins (d := d + 7) (zl := zlM) hI.1.1 (kw_bm m) pn
              have w2 := kw_mwins (d := d + 7) (zl := zlM) hI.1.1 (fun i => kw_bm m i || decide (i = k)) (fun i hi h8' => by
                have : ¬ i = k := by omega
                simp [pn i hi h8', this])
              rw [kw_hs_ins a2' 8 hk8] at w2
              rw [← kw_bs_bm hm2] at w1
              rw [← kw_bs_or, ← kw_bs_bm hm2, ← kw_bs_one hk8] at w2
              by_cases a3 : zM 14 2 * kw_hs (km zM) (fun i => decide (¬ km zM i 11 = 0)) 8 < kw_hs (km zM) (kw_bm m) 8 * 100
              · rw [if_pos a3] at w1
                rw [kw_pw_0 (fun q => q.2.1 a3)]
                simp only [kv_e252_0, kv_e252_1, kv_e252_2, kv_e252_5, kv_e252_8, kv_e252_9, kv_e252_10, kv_e252_11, kv_e252_14, kv_e252_15, kv_e252_16, kv_e252_17, kv_e252_18, kv_e252_22, kv_e252_23, kv_e252_24, kv_e252_27, kv_e252_28, kv_e252_31, kv_e252_32, kv_e252_34, kv_e252_35, kv_e252_36, kv_e252_37, kv_e252_38, kv_e252_41, kv_e252_43, kv_e252_44, kv_e252_47, kv_e252_50, kv_e252_51, kv_e252_53, kv_e252_56, kv_e252_59, kv_e252_60, kv_e252_62, kv_e252_63, kv_e252_64, kv_e252_65, kv_e252_66, kv_e252_69, kv_e252_72, kv_e252_73, kv_e252_76, kv_e252_77, kv_e252_78, kv_e252_79, kv_e252_82, kv_e252_85, kv_e252_86, kv_o10, not_false_eq_true, not_true, if_true, if_false, kv_then_s, kv_then_v, kv_then_n, List.cons_append, List.nil_append, kv_Ci, kv_Cr, kv_Cn, kv_Cu, kv_C0, kv_catc, kv_gCi, kv_gCl, kv_gCr, kv_nb0, kv_nb1, kv_nbi, kv_nb01, Nat.reduceAdd, Nat.reduceLeDiff, hI.1.1.1.1, (kw_pow h8).1, q1, sM, a1, kw_has, hb, a2', Bool.false_eq_true, w1, eq_self, Int32.add_zero, kv_suc]
              · rw [if_neg a3] at w1
                by_cases a4 : zM 14 2 * kw_hs (km zM) (fun i => decide (¬ km zM i 11 = 0)) 8 < (kw_hs (km zM) (kw_bm m) 8 + km zM k 4) * 100
                · rw [if_pos a4] at w2
                  rw [kw_pw_1 ⟨⟨hm2, a1, a2'⟩, a3, a4⟩]
                  simp only [kv_e252_0, kv_e252_1, kv_e252_2, kv_e252_5, kv_e252_8, kv_e252_9, kv_e252_10, kv_e252_11, kv_e252_14, kv_e252_15, kv_e252_16, kv_e252_17, kv_e252_18, kv_e252_22, kv_e252_23, kv_e252_24, kv_e252_27, kv_e252_28, kv_e252_31, kv_e252_32, kv_e252_34, kv_e252_35, kv_e252_36, kv_e252_37, kv_e252_38, kv_e252_41, kv_e252_43, kv_e252_44, kv_e252_47, kv_e252_50, kv_e252_51, kv_e252_53, kv_e252_56, kv_e252_59, kv_e252_60, kv_e252_62, kv_e252_63, kv_e252_64, kv_e252_65, kv_e252_66, kv_e252_69, kv_e252_72, kv_e252_73, kv_e252_76, kv_e252_77, kv_e252_78, kv_e252_79, kv_e252_82, kv_e252_85, kv_e252_86, kv_o10, not_false_eq_true, not_true, if_true, if_false, kv_then_s, kv_then_v, kv_then_n, List.cons_append, List.nil_append, kv_Ci, kv_Cr, kv_Cn, kv_Cu, kv_C0, kv_catc, kv_gCi, kv_gCl, kv_gCr, kv_nb0, kv_nb1, kv_nbi, kv_nb01, Nat.reduceAdd, Nat.reduceLeDiff, hI.1.1.1.1, (kw_pow h8).1, q1, sM, a1, kw_has, hb, a2', Bool.false_eq_true, w1, w2, eq_self, kv_suc]
                · rw [if_neg a4] at w2
                  rw [kw_pw_0 (fun q => a4 q.2.2)]
                  simp only [kv_e252_0, kv_e252_1, kv_e252_2, kv_e252_5, kv_e252_8, kv_e252_9, kv_e252_10, kv_e252_11, kv_e252_14, kv_e252_15, kv_e252_16, kv_e252_17, kv_e252_18, kv_e252_22, kv_e252_23, kv_e252_24, kv_e252_27, kv_e252_28, kv_e252_31, kv_e252_32, kv_e252_34, kv_e252_35, kv_e252_36, kv_e252_37, kv_e252_38, kv_e252_41, kv_e252_43, kv_e252_44, kv_e252_47, kv_e252_50, kv_e252_51, kv_e252_53, kv_e252_56, kv_e252_59, kv_e252_60, kv_e252_62, kv_e252_63, kv_e252_64, kv_e252_65, kv_e252_66, kv_e252_69, kv_e252_72, kv_e252_73, kv_e252_76, kv_e252_77, kv_e252_78, kv_e252_79, kv_e252_82, kv_e252_85, kv_e252_86, kv_o10, not_false_eq_true, not_true, if_true, if_false, kv_then_s, kv_then_v, kv_then_n, List.cons_append, List.nil_append, kv_Ci, kv_Cr, kv_Cn, kv_Cu, kv_C0, kv_catc, kv_gCi, kv_gCl, kv_gCr, kv_nb0, kv_nb1, kv_nbi, kv_nb01, Nat.reduceAdd, Nat.reduceLeDiff, hI.1.1.1.1, (kw_pow h8).1, q1, sM, a1, kw_has, hb, a2', Bool.false_eq_true, w1, w2, eq_self, Int32.add_zero, kv_suc]
          · rw [kw_pw_0 (fun q => a1 q.1.2.1)]
            simp only [kv_e252_0, kv_e252_1, kv_e252_2, kv_e252_5, kv_e252_8, kv_e252_9, kv_e252_10, kv_e252_11, kv_e252_14, kv_e252_15, kv_e252_16, kv_e252_17, kv_e252_18, kv_e252_22, kv_e252_23, kv_e252_24, kv_e252_27, kv_e252_28, kv_e252_31, kv_e252_32, kv_e252_34, kv_e252_35, kv_e252_36, kv_e252_37, kv_e252_38, kv_e252_41, kv_e252_43, kv_e252_44, kv_e252_47, kv_e252_50, kv_e252_51, kv_e252_53, kv_e252_56, kv_e252_59, kv_e252_60, kv_e252_62, kv_e252_63, kv_e252_64, kv_e252_65, kv_e252_66, kv_e252_69, kv_e252_72, kv_e252_73, kv_e252_76, kv_e252_77, kv_e252_78, kv_e252_79, kv_e252_82, kv_e252_85, kv_e252_86, kv_o10, not_false_eq_true, not_true, if_true, if_false, kv_then_s, kv_then_v, kv_then_n, List.cons_append, List.nil_append, kv_Ci, kv_Cr, kv_Cn, kv_Cu, kv_C0, kv_catc, kv_gCi, kv_gCl, kv_gCr, kv_nb0, kv_nb1, kv_nbi, kv_nb01, Nat.reduceAdd, Nat.reduceLeDiff, hI.1.1.1.1, (kw_pow h8).1, q1, sM, a1, Int32.add_zero, kv_suc]
      · intro u7
        rw [kv_e116_56]
        simp only [kv_e116_0, kv_e116_1, kv_e116_2, kv_e116_5, kv_e116_8, kv_e116_9, kv_e116_10, kv_e116_11, kv_e116_14, kv_e116_17, kv_e116_18, kv_e116_19, kv_e116_20, kv_e116_21, kv_e116_22, kv_e116_23, kv_e116_24, kv_e116_25, kv_e116_28, kv_e116_29, kv_e116_32, kv_e116_35, kv_e116_38, kv_e116_39, kv_e116_40, kv_e116_43, kv_e116_44, kv_e116_45, kv_e116_48, kv_e116_50, kv_e116_51, kv_e116_53, kv_e116_54, kv_e116_58, kv_e116_61, kv_e116_64, kv_e116_66, kv_e116_67, kv_e116_68, kv_e116_69, kv_e116_70, kv_e116_73, kv_e116_76, kv_e116_77, kv_e116_80, kv_e116_82, kv_e116_85, kv_e116_87, kv_e116_88, kv_e116_91, kv_e116_93, kv_e116_94, kv_e116_97, kv_e116_100, kv_e116_101, kv_e116_104, kv_e116_106, kv_e116_108, kv_e116_109, kv_e116_110, kv_e116_113, kv_e116_116, kv_e116_119, kv_e116_122, kv_e116_125, kv_e116_127, kv_o10, not_false_eq_true, not_true, if_true, if_false, kv_then_s, kv_then_v, kv_then_n, List.cons_append, List.nil_append, kv_Ci, kv_Cr, kv_Cn, kv_Cu, kv_C0, kv_catc, kv_gCi, kv_gCl, kv_gCr, kv_nb0, kv_nb1, kv_nbi, kv_nb01, Nat.reduceAdd, Nat.reduceLeDiff, l256]
      · intro m hm ih u7
        have sK := kw_sub_K (km zM) hm hk8
        rw [kv_e116_56]
        have hh : kv_hf (kc zK 36) (Int32.ofNat m) = kw_hs (km zM) (kw_bm m) 8 := by rw [ek, kw_bs_bm hm, kw_hf_bs]
        by_cases a1 : kw_sub (km zM) m ∧ kw_bm m k = false
        · by_cases a3 : zM 14 2 * kw_hs (km zM) (fun i => decide (¬ km zM i 11 = 0)) 8 < kw_hs (km zM) (kw_bm m) 8 * 100
          · rw [kw_pw_0 (fun q => q.2.1 a3)] at ih
            rw [← ih (some (.int (kw_hs (km zM) (kw_bm m) 8)))]
            simp only [kv_e116_0, kv_e116_1, kv_e116_2, kv_e116_5, kv_e116_8, kv_e116_9, kv_e116_10, kv_e116_11, kv_e116_14, kv_e116_17, kv_e116_18, kv_e116_19, kv_e116_20, kv_e116_21, kv_e116_22, kv_e116_23, kv_e116_24, kv_e116_25, kv_e116_28, kv_e116_29, kv_e116_32, kv_e116_35, kv_e116_38, kv_e116_39, kv_e116_40, kv_e116_43, kv_e116_44, kv_e116_45, kv_e116_48, kv_e116_50, kv_e116_51, kv_e116_53, kv_e116_54, kv_e116_58, kv_e116_61, kv_e116_64, kv_e116_66, kv_e116_67, kv_e116_68, kv_e116_69, kv_e116_70, kv_e116_73, kv_e116_76, kv_e116_77, kv_e116_80, kv_e116_82, kv_e116_85, kv_e116_87, kv_e116_88, kv_e116_91, kv_e116_93, kv_e116_94, kv_e116_97, kv_e116_100, kv_e116_101, kv_e116_104, kv_e116_106, kv_e116_108, kv_e116_109, kv_e116_110, kv_e116_113, kv_e116_116, kv_e116_119, kv_e116_122, kv_e116_125, kv_e116_127, kv_o10, not_false_eq_true, not_true, if_true, if_false, kv_then_s, kv_then_v, kv_then_n, List.cons_append, List.nil_append, kv_Ci, kv_Cr, kv_Cn, kv_Cu, kv_C0, kv_catc, kv_gCi, kv_gCl, kv_gCr, kv_nb0, kv_nb1, kv_nbi, kv_nb01, Nat.reduceAdd, Nat.reduceLeDiff, lm hm, sK, a1, kv_isS36, kv_heightOf, hh, kv_isF3, kv_isMajority, emj, a3, and_self, eq_self, kv_suc]
          · by_cases a4 : zM 14 2 * kw_hs (km zM) (fun i => decide (¬ km zM i 11 = 0)) 8 < (kw_hs (km zM) (kw_bm m) 8 + km zM k 4) * 100
            · rw [kw_pw_1 ⟨⟨hm, a1⟩, a3, a4⟩] at ih
              rw [← ih (some (.int (kw_hs (km zM) (kw_bm m) 8)))]
              simp only [kv_e116_0, kv_e116_1, kv_e116_2, kv_e116_5, kv_e116_8, kv_e116_9, kv_e116_10, kv_e116_11, kv_e116_14, kv_e116_17, kv_e116_18, kv_e116_19, kv_e116_20, kv_e116_21, kv_e116_22, kv_e116_23, kv_e116_24, kv_e116_25, kv_e116_28, kv_e116_29, kv_e116_32, kv_e116_35, kv_e116_38, kv_e116_39, kv_e116_40, kv_e116_43, kv_e116_44, kv_e116_45, kv_e116_48, kv_e116_50, kv_e116_51, kv_e116_53, kv_e116_54, kv_e116_58, kv_e116_61, kv_e116_64, kv_e116_66, kv_e116_67, kv_e116_68, kv_e116_69, kv_e116_70, kv_e116_73, kv_e116_76, kv_e116_77, kv_e116_80, kv_e116_82, kv_e116_85, kv_e116_87, kv_e116_88, kv_e116_91, kv_e116_93, kv_e116_94, kv_e116_97, kv_e116_100, kv_e116_101, kv_e116_104, kv_e116_106, kv_e116_108, kv_e116_109, kv_e116_110, kv_e116_113, kv_e116_116, kv_e116_119, kv_e116_122, kv_e116_125, kv_e116_127, kv_o10, not_false_eq_true, not_true, if_true, if_false, kv_then_s, kv_then_v, kv_then_n, List.cons_append, List.nil_append, kv_Ci, kv_Cr, kv_Cn, kv_Cu, kv_C0, kv_catc, kv_gCi, kv_gCl, kv_gCr, kv_nb0, kv_nb1, kv_nbi, kv_nb01, Nat.reduceAdd, Nat.reduceLeDiff, lm hm, sK, a1, kv_isS36, kv_heightOf, hh, kv_isF3, kv_isMajority, emj, a3, a4, and_self, eq_self, kv_suc]
            · rw [kw_pw_0 (fun q => a4 q.2.2)] at ih
              rw [← ih (some (.int (kw_hs (km zM) (kw_bm m) 8)))]
              simp only [kv_e116_0, kv_e116_1, kv_e116_2, kv_e116_5, kv_e116_8, kv_e116_9, kv_e116_10, kv_e116_11, kv_e116_14, kv_e116_17, kv_e116_18, kv_e116_19, kv_e116_20, kv_e116_21, kv_e116_22, kv_e116_23, kv_e116_24, kv_e116_25, kv_e116_28, kv_e116_29, kv_e116_32, kv_e116_35, kv_e116_38, kv_e116_39, kv_e116_40, kv_e116_43, kv_e116_44, kv_e116_45, kv_e116_48, kv_e116_50, kv_e116_51, kv_e116_53, kv_e116_54, kv_e116_58, kv_e116_61, kv_e116_64, kv_e116_66, kv_e116_67, kv_e116_68, kv_e116_69, kv_e116_70, kv_e116_73, kv_e116_76, kv_e116_77, kv_e116_80, kv_e116_82, kv_e116_85, kv_e116_87, kv_e116_88, kv_e116_91, kv_e116_93, kv_e116_94, kv_e116_97, kv_e116_100, kv_e116_101, kv_e116_104, kv_e116_106, kv_e116_108, kv_e116_109, kv_e116_110, kv_e116_113, kv_e116_116, kv_e116_119, kv_e116_122, kv_e116_125, kv_e116_127, kv_o10, not_false_eq_true, not_true, if_true, if_false, kv_then_s, kv_then_v, kv_then_n, List.cons_append, List.nil_append, kv_Ci, kv_Cr, kv_Cn, kv_Cu, kv_C0, kv_catc, kv_gCi, kv_gCl, kv_gCr, kv_nb0, kv_nb1, kv_nbi, kv_nb01, Nat.reduceAdd, Nat.reduceLeDiff, lm hm, sK, a1, kv_isS36, kv_heightOf, hh, kv_isF3, kv_isMajority, emj, a3, a4, and_self, eq_self, kv_suc]
        · rw [kw_pw_0 (fun q => a1 q.1.2)] at ih
          rw [← ih u7]
          simp only [kv_e116_0, kv_e116_1, kv_e116_2, kv_e116_5, kv_e116_8, kv_e116_9, kv_e116_10, kv_e116_11, kv_e116_14, kv_e116_17, kv_e116_18, kv_e116_19, kv_e116_20, kv_e116_21, kv_e116_22, kv_e116_23, kv_e116_24, kv_e116_25, kv_e116_28, kv_e116_29, kv_e116_32, kv_e116_35, kv_e116_38, kv_e116_39, kv_e116_40, kv_e116_43, kv_e116_44, kv_e116_45, kv_e116_48, kv_e116_50, kv_e116_51, kv_e116_53, kv_e116_54, kv_e116_58, kv_e116_61, kv_e116_64, kv_e116_66, kv_e116_67, kv_e116_68, kv_e116_69, kv_e116_70, kv_e116_73, kv_e116_76, kv_e116_77, kv_e116_80, kv_e116_82, kv_e116_85, kv_e116_87, kv_e116_88, kv_e116_91, kv_e116_93, kv_e116_94, kv_e116_97, kv_e116_100, kv_e116_101, kv_e116_104, kv_e116_106, kv_e116_108, kv_e116_109, kv_e116_110, kv_e116_113, kv_e116_116, kv_e116_119, kv_e116_122, kv_e116_125, kv_e116_127, kv_o10, not_false_eq_true, not_true, if_true, if_false, kv_then_s, kv_then_v, kv_then_n, List.cons_append, List.nil_append, kv_Ci, kv_Cr, kv_Cn, kv_Cu, kv_C0, kv_catc, kv_gCi, kv_gCl, kv_gCr, kv_nb0, kv_nb1, kv_nbi, kv_nb01, Nat.reduceAdd, Nat.reduceLeDiff, lm hm, sK, a1, kv_suc]
end
