/-! feed -/
section
variable {d n B W : Nat} {e : List kv_E} {z zK zM zK' zM' : Nat → Nat → Int32} {zl zlM : Nat → Nat → Int64}
theorem kw_ssr (v : BitVec 32) (s : Nat) (hs : s ≤ 24) : v.sshiftRight s &&& 255#32 = v >>> s &&& 255#32 := by
  refine BitVec.eq_of_getLsbD_eq (fun i hi => ?_)
  rw [BitVec.getLsbD_and, BitVec.getLsbD_and]
  by_cases q : i < 8
  · have e1 : (v.sshiftRight s).getLsbD i = v.getLsbD (s + i) := by
      rw [BitVec.getLsbD_sshiftRight, if_pos (by omega), decide_eq_false (by omega)]
      rfl
    rw [e1, BitVec.getLsbD_ushiftRight]
  · have : (255#32).getLsbD i = false := by
      have h : ∀ i : Fin 32, ¬ i.val < 8 → (255#32).getLsbD i.val = false := by decide +kernel
      exact h ⟨i, hi⟩ q
    rw [this, Bool.and_false, Bool.and_false]
theorem kw_srx {x S : Int32} {s : Nat} (hs : s ≤ 24) (h1 : (S &&& 31).toBitVec.smod 32#32 = BitVec.ofNat 32 s) (h2 : (S.toUInt32 &&& Int32.toUInt32 31).toBitVec % 32#32 = BitVec.ofNat 32 s) : (x >>> (S &&& 31)) &&& 255 = kv_sr x S &&& 255 := by
  rw [← Int32.toBitVec_inj, Int32.toBitVec_and, Int32.toBitVec_and, Int32.toBitVec_shiftRight]
  have e1 : x.toBitVec.sshiftRight' ((S &&& 31).toBitVec.smod 32#32) = x.toBitVec.sshiftRight s := by
    rw [h1, BitVec.sshiftRight_eq', BitVec.toNat_ofNat, Nat.mod_eq_of_lt (by omega)]
  have e2 : (kv_sr x S).toBitVec = x.toBitVec >>> s := by
    unfold kv_sr
    show (x.toUInt32 >>> (S.toUInt32 &&& Int32.toUInt32 31)).toBitVec = _
    rw [UInt32.toBitVec_shiftRight]
    show x.toBitVec >>> ((S.toUInt32 &&& Int32.toUInt32 31).toBitVec % 32#32) = _
    rw [h2, BitVec.ushiftRight_eq', BitVec.toNat_ofNat, Nat.mod_eq_of_lt (by omega)]
  rw [e2]
  exact (congrArg (fun v => v &&& Int32.toBitVec 255) e1).trans (kw_ssr _ s hs)
theorem kw_sr24 (x : Int32) : (x >>> ((24 : Int32) &&& 31)) &&& 255 = kv_sr x 24 &&& 255 := kw_srx (s := 24) (by omega) (by decide +kernel) (by decide +kernel)
theorem kw_sr16 (x : Int32) : (x >>> ((16 : Int32) &&& 31)) &&& 255 = kv_sr x 16 &&& 255 := kw_srx (s := 16) (by omega) (by decide +kernel) (by decide +kernel)
theorem kw_sr8 (x : Int32) : (x >>> ((8 : Int32) &&& 31)) &&& 255 = kv_sr x 8 &&& 255 := kw_srx (s := 8) (by omega) (by decide +kernel) (by decide +kernel)
theorem kw_sr0 (x : Int32) : (x >>> ((0 : Int32) &&& 31)) &&& 255 = kv_sr x 0 &&& 255 := kw_srx (s := 0) (by omega) (by decide +kernel) (by decide +kernel)
theorem kw_and8 (x : Int32) : (x &&& 255 = 0) ∨ kw_rg (x &&& 255) 1 255 := by
  have h : (x &&& 255).toInt = ((x.toBitVec.toNat % 256 : Nat) : Int) := by
    show ((x &&& 255).toBitVec).toInt = _
    have h1 : (x &&& 255).toBitVec.toNat = x.toBitVec.toNat % 256 := by
      show (x.toBitVec &&& 255#32).toNat = _
      rw [BitVec.toNat_and]
      exact Nat.and_two_pow_sub_one_eq_mod _ 8
    rw [BitVec.toInt_eq_toNat_of_lt (by rw [h1]; omega), h1]
  by_cases q : x &&& 255 = 0
  · exact Or.inl q
  · right
    unfold kw_rg
    have q2 : ¬ (x &&& 255).toInt = 0 := fun r => q (Int32.toInt_inj.mp (r.trans kw_0t.symm))
    rw [h] at q2 ⊢
    omega
/-- a word's byte -/
def kw_b (w : Int32) (p : Nat) : Int32 := kv_sr w (Int32.ofNat (24 - 8 * p)) &&& 255
def kw_wd_ (a b c d e : Int32) (k : Nat) : Int32 := if k < 4 then a else if k < 8 then b else if k < 12 then c else if k < 16 then d else e
def kw_B (a b c d e : Int32) (k : Nat) : Int32 := kw_b (kw_wd_ a b c d e k) (k % 4)
theorem kw_B_r (a b c d e : Int32) (k : Nat) : kw_B a b c d e k = 0 ∨ kw_rg (kw_B a b c d e k) 1 255 := kw_and8 _
theorem kw_b_0 (w : Int32) : kw_b w 0 = kv_sr w 24 &&& 255 := rfl
theorem kw_b_1 (w : Int32) : kw_b w 1 = kv_sr w 16 &&& 255 := rfl
theorem kw_b_2 (w : Int32) : kw_b w 2 = kv_sr w 8 &&& 255 := rfl
theorem kw_b_3 (w : Int32) : kw_b w 3 = kv_sr w 0 &&& 255 := rfl
theorem kw_b_s (w : Int32) {p : Nat} (h : p < 4) : (w >>> (Int32.ofNat (24 - 8 * p) &&& 31)) &&& 255 = kw_b w p := by
  have : p = 0 ∨ p = 1 ∨ p = 2 ∨ p = 3 := by omega
  rcases this with rfl | rfl | rfl | rfl
  · rw [kw_b_0, ← kw_sr24, show Int32.ofNat (24 - 8 * 0) = 24 from by decide]
  · rw [kw_b_1, ← kw_sr16, show Int32.ofNat (24 - 8 * 1) = 16 from by decide]
  · rw [kw_b_2, ← kw_sr8, show Int32.ofNat (24 - 8 * 2) = 8 from by decide]
  · rw [kw_b_3, ← kw_sr0, show Int32.ofNat (24 - 8 * 3) = 0 from by decide]
theorem kw_byteOf (a b c d' e : Int32) {k : Nat} (hk : k < 20) {h : kv_H} : kv_Rn d 153 0 [some (.int a), some (.int b), some (.int c), some (.int d'), some (.int e), some (.int (Int32.ofNat k)), none] [] h = some (some (.int (kw_B a b c d' e k)), h) := by
  have hk2 : k < 2147483648 := by omega
  have sh : (24 : Int32) - 8 * (Int32.ofNat k - Int32.ofNat k / 4 * 4) = Int32.ofNat (24 - 8 * (k % 4)) := by
    have all : ∀ k : Fin 20, (24 : Int32) - 8 * (Int32.ofNat k.val - Int32.ofNat k.val / 4 * 4) = Int32.ofNat (24 - 8 * (k.val % 4)) := by decide +kernel
    exact all ⟨k, hk⟩
  have l4 : ((4 : Int32) ≤ Int32.ofNat k) = (4 ≤ k) := kv_nle (a := 4) (by omega) hk2
  have l8 : ((8 : Int32) ≤ Int32.ofNat k) = (8 ≤ k) := kv_nle (a := 8) (by omega) hk2
  have l12 : ((12 : Int32) ≤ Int32.ofNat k) = (12 ≤ k) := kv_nle (a := 12) (by omega) hk2
  have l16 : ((16 : Int32) ≤ Int32.ofNat k) = (16 ≤ k) := kv_nle (a := 16) (by omega) hk2
  have n4 : ((4 : Int32) = 0) = False := by decide
  have bs := fun w => kw_b_s w (show k % 4 < 4 by omega)
  unfold kw_B kw_wd_
  by_cases q1 : k < 4
  · rw [if_pos q1]
    simp only [kv_e153_0, kv_e153_2, kv_e153_3, kv_e153_6, kv_e153_7, kv_e153_10, kv_e153_12, kv_e153_14, kv_e153_17, kv_e153_18, kv_e153_21, kv_e153_23, kv_e153_25, kv_e153_28, kv_e153_29, kv_e153_32, kv_e153_34, kv_e153_36, kv_e153_39, kv_e153_40, kv_e153_43, kv_e153_45, kv_e153_47, kv_e153_49, kv_e153_51, kv_e153_53, kv_e153_55, kv_e153_56, kv_e153_57, kv_e153_58, kv_e153_59, kv_e153_60, kv_e153_63, kv_e153_64, kv_o10, not_false_eq_true, not_true, if_true, if_false, kv_then_s, kv_then_v, kv_then_n, List.cons_append, List.nil_append, kv_Ci, kv_Cr, kv_Cn, kv_Cu, kv_C0, kv_catc, kv_gCi, kv_gCl, kv_gCr, kv_nb0, kv_nb1, kv_nbi, kv_nb01, Nat.reduceAdd, Nat.reduceLeDiff, l4, eq_false (show ¬ 4 ≤ k by omega), n4, sh, bs]
  · rw [if_neg q1]
    by_cases q2 : k < 8
    · rw [if_pos q2]
      simp only [kv_e153_0, kv_e153_2, kv_e153_3, kv_e153_6, kv_e153_7, kv_e153_10, kv_e153_12, kv_e153_14, kv_e153_17, kv_e153_18, kv_e153_21, kv_e153_23, kv_e153_25, kv_e153_28, kv_e153_29, kv_e153_32, kv_e153_34, kv_e153_36, kv_e153_39, kv_e153_40, kv_e153_43, kv_e153_45, kv_e153_47, kv_e153_49, kv_e153_51, kv_e153_53, kv_e153_55, kv_e153_56, kv_e153_57, kv_e153_58, kv_e153_59, kv_e153_60, kv_e153_63, kv_e153_64, kv_o10, not_false_eq_true, not_true, if_true, if_false, kv_then_s, kv_then_v, kv_then_n, List.cons_append, List.nil_append, kv_Ci, kv_Cr, kv_Cn, kv_Cu, kv_C0, kv_catc, kv_gCi, kv_gCl, kv_gCr, kv_nb0, kv_nb1, kv_nbi, kv_nb01, Nat.reduceAdd, Nat.reduceLeDiff, l4, l8, eq_true (show 4 ≤ k by omega), eq_false (show ¬ 8 ≤ k by omega), n4, sh, bs]
    · rw [if_neg q2]
      by_cases q3 : k < 12
      · rw [if_pos q3]
        simp only [kv_e153_0, kv_e153_2, kv_e153_3, kv_e153_6, kv_e153_7, kv_e153_10, kv_e153_12, kv_e153_14, kv_e153_17, kv_e153_18, kv_e153_21, kv_e153_23, kv_e153_25, kv_e153_28, kv_e153_29, kv_e153_32, kv_e153_34, kv_e153_36, kv_e153_39, kv_e153_40, kv_e153_43, kv_e153_45, kv_e153_47, kv_e153_49, kv_e153_51, kv_e153_53, kv_e153_55, kv_e153_56, kv_e153_57, kv_e153_58, kv_e153_59, kv_e153_60, kv_e153_63, kv_e153_64, kv_o10, not_false_eq_true, not_true, if_true, if_false, kv_then_s, kv_then_v, kv_then_n, List.cons_append, List.nil_append, kv_Ci, kv_Cr, kv_Cn, kv_Cu, kv_C0, kv_catc, kv_gCi, kv_gCl, kv_gCr, kv_nb0, kv_nb1, kv_nbi, kv_nb01, Nat.reduceAdd, Nat.reduceLeDiff, l4, l8, l12, eq_true (show 4 ≤ k by omega), eq_true (show 8 ≤ k by omega), eq_false (show ¬ 12 ≤ k by omega), n4, sh, bs]
      · rw [if_neg q3]
        by_cases q4 : k < 16
        · rw [if_pos q4]
          simp only [kv_e153_0, kv_e153_2, kv_e153_3, kv_e153_6, kv_e153_7, kv_e153_10, kv_e153_12, kv_e153_14, kv_e153_17, kv_e153_18, kv_e153_21, kv_e153_23, kv_e153_25, kv_e153_28, kv_e153_29, kv_e153_32, kv_e153_34, kv_e153_36, kv_e153_39, kv_e153_40, kv_e153_43, kv_e153_45, kv_e153_47, kv_e153_49, kv_e153_51, kv_e153_53, kv_e153_55, kv_e153_56, kv_e153_57, kv_e153_58, kv_e153_59, kv_e153_60, kv_e153_63, kv_e153_64, kv_o10, not_false_eq_true, not_true, if_true, if_false, kv_then_s, kv_then_v, kv_then_n, List.cons_append, List.nil_append, kv_Ci, kv_Cr, kv_Cn, kv_Cu, kv_C0, kv_catc, kv_gCi, kv_gCl, kv_gCr, kv_nb0, kv_nb1, kv_nbi, kv_nb01, Nat.reduceAdd, Nat.reduceLeDiff, l4, l8, l12, l16, eq_true (show 4 ≤ k by omega), eq_true (show 8 ≤ k by omega), eq_true (show 12 ≤ k by omega), eq_false (show ¬ 16 ≤ k by omega), n4, sh, bs]
        · rw [if_neg q4]
          simp only [kv_e153_0, kv_e153_2, kv_e153_3, kv_e153_6, kv_e153_7, kv_e153_10, kv_e153_12, kv_e153_14, kv_e153_17, kv_e153_18, kv_e153_21, kv_e153_23, kv_e153_25, kv_e153_28, kv_e153_29, kv_e153_32, kv_e153_34, kv_e153_36, kv_e153_39, kv_e153_40, kv_e153_43, kv_e153_45, kv_e153_47, kv_e153_49, kv_e153_51, kv_e153_53, kv_e153_55, kv_e153_56, kv_e153_57, kv_e153_58, kv_e153_59, kv_e153_60, kv_e153_63, kv_e153_64, kv_o10, not_false_eq_true, not_true, if_true, if_false, kv_then_s, kv_then_v, kv_then_n, List.cons_append, List.nil_append, kv_Ci, kv_Cr, kv_Cn, kv_Cu, kv_C0, kv_catc, kv_gCi, kv_gCl, kv_gCr, kv_nb0, kv_nb1, kv_nbi, kv_nb01, Nat.reduceAdd, Nat.reduceLeDiff, l4, l8, l12, l16, eq_true (show 4 ≤ k by omega), eq_true (show 8 ≤ k by omega), eq_true (show 12 ≤ k by omega), eq_true (show 16 ≤ k by omega), n4, sh, bs]
/-- how many bytes -/
def kw_cn (f : Nat → Int32) : Nat → Nat
  | 0 => 0
  | k + 1 => kw_cn f k + (if f k = 0 then 0 else 1)
theorem kw_cn_s (f : Nat → Int32) (k : Nat) : kw_cn f (k + 1) = kw_cn f k + (if f k = 0 then 0 else 1) := rfl
theorem kw_cn_le (f : Nat → Int32) : ∀ k, kw_cn f k ≤ k := by
  intro k
  induction k with
  | zero => exact Nat.le_refl _
  | succ k ih =>
    rw [kw_cn_s]
    split <;> omega
theorem kw_cn_mono (f : Nat → Int32) (i : Nat) : ∀ m, kw_cn f i ≤ kw_cn f (i + m) := by
  intro m
  induction m with
  | zero => exact Nat.le_refl _
  | succ m ih =>
    have := kw_cn_s f (i + m)
    rw [show i + (m + 1) = (i + m) + 1 from by omega, this]
    split <;> omega
theorem kw_B_0 (a b c d' e : Int32) (p : Nat) (hp : p < 4) : kw_B a b c d' e (0 + p) = kw_b a p := by
  have : p = 0 ∨ p = 1 ∨ p = 2 ∨ p = 3 := by omega
  rcases this with rfl | rfl | rfl | rfl <;> rfl
theorem kw_B_4 (a b c d' e : Int32) (p : Nat) (hp : p < 4) : kw_B a b c d' e (4 + p) = kw_b b p := by
  have : p = 0 ∨ p = 1 ∨ p = 2 ∨ p = 3 := by omega
  rcases this with rfl | rfl | rfl | rfl <;> rfl
theorem kw_B_8 (a b c d' e : Int32) (p : Nat) (hp : p < 4) : kw_B a b c d' e (8 + p) = kw_b c p := by
  have : p = 0 ∨ p = 1 ∨ p = 2 ∨ p = 3 := by omega
  rcases this with rfl | rfl | rfl | rfl <;> rfl
theorem kw_B_12 (a b c d' e : Int32) (p : Nat) (hp : p < 4) : kw_B a b c d' e (12 + p) = kw_b d' p := by
  have : p = 0 ∨ p = 1 ∨ p = 2 ∨ p = 3 := by omega
  rcases this with rfl | rfl | rfl | rfl <;> rfl
theorem kw_B_16 (a b c d' e : Int32) (p : Nat) (hp : p < 4) : kw_B a b c d' e (16 + p) = kw_b e p := by
  have : p = 0 ∨ p = 1 ∨ p = 2 ∨ p = 3 := by omega
  rcases this with rfl | rfl | rfl | rfl <;> rfl
theorem kw_bytesIn (w : Int32) {h : kv_H} : kv_Rn d 74 0 [some (.int w), none, none] [] h = some (some (.int (Int32.ofNat (kw_cn (kw_b w) 4))), h) := by
  have st : ∀ (s s' x x' : Int32) (b : Int32), (s < 0) = False → s + (-8) = s' → kv_sr w s &&& 255 = b → (if b = 0 then x else x + 1) = x' → kv_Rn d 74 5 [some (.int w), some (.int x), some (.int s)] [] h = kv_Rn d 74 5 [some (.int w), some (.int x'), some (.int s')] [] h := by
    intro s s' x x' b h1 h2 h3 h4
    rw [kv_e74_5]
    by_cases q : b = 0
    · rw [if_pos q] at h4
      simp only [kv_e74_0, kv_e74_1, kv_e74_2, kv_e74_4, kv_e74_6, kv_e74_9, kv_e74_10, kv_e74_11, kv_e74_12, kv_e74_15, kv_e74_16, kv_e74_19, kv_e74_22, kv_e74_25, kv_e74_28, kv_e74_29, kv_o10, not_false_eq_true, not_true, if_true, if_false, kv_then_s, kv_then_v, kv_then_n, List.cons_append, List.nil_append, kv_Ci, kv_Cr, kv_Cn, kv_Cu, kv_C0, kv_catc, kv_gCi, kv_gCl, kv_gCr, kv_nb0, kv_nb1, kv_nbi, kv_nb01, Nat.reduceAdd, Nat.reduceLeDiff, h1, h2, h3, q, h4, eq_self]
    · rw [if_neg q] at h4
      simp only [kv_e74_0, kv_e74_1, kv_e74_2, kv_e74_4, kv_e74_6, kv_e74_9, kv_e74_10, kv_e74_11, kv_e74_12, kv_e74_15, kv_e74_16, kv_e74_19, kv_e74_22, kv_e74_25, kv_e74_28, kv_e74_29, kv_o10, not_false_eq_true, not_true, if_true, if_false, kv_then_s, kv_then_v, kv_then_n, List.cons_append, List.nil_append, kv_Ci, kv_Cr, kv_Cn, kv_Cu, kv_C0, kv_catc, kv_gCi, kv_gCl, kv_gCr, kv_nb0, kv_nb1, kv_nbi, kv_nb01, Nat.reduceAdd, Nat.reduceLeDiff, h1, h2, h3, q, h4]
  have inc : ∀ k, (if kw_b w k = 0 then Int32.ofNat (kw_cn (kw_b w) k) else Int32.ofNat (kw_cn (kw_b w) k) + 1) = Int32.ofNat (kw_cn (kw_b w) (k + 1)) := by
    intro k
    rw [kw_cn_s]
    by_cases q : kw_b w k = 0
    · rw [if_pos q, if_pos q]
      rfl
    · rw [if_neg q, if_neg q, kv_suc]
  simp only [kv_e74_0, kv_e74_1, kv_e74_2, kv_e74_4, kv_o10, not_false_eq_true, not_true, if_true, if_false, kv_then_s, kv_then_v, kv_then_n, List.cons_append, List.nil_append, kv_Ci, kv_Cr, kv_Cn, kv_Cu, kv_C0, kv_catc, kv_gCi, kv_gCl, kv_gCr, kv_nb0, kv_nb1, kv_nbi, kv_nb01, Nat.reduceAdd, Nat.reduceLeDiff]
  rw [st 24 16 0 _ _ (by decide) (by decide) (rfl : _ = kw_b w 0) (inc 0), st 16 8 _ _ _ (by decide) (by decide) (rfl : _ = kw_b w 1) (inc 1), st 8 0 _ _ _ (by decide) (by decide) (rfl : _ = kw_b w 2) (inc 2), st 0 (-8) _ _ _ (by decide) (by decide) (rfl : _ = kw_b w 3) (inc 3), kv_e74_5]
  simp only [kv_e74_0, kv_e74_1, kv_e74_2, kv_e74_4, kv_e74_6, kv_e74_9, kv_e74_10, kv_e74_11, kv_e74_12, kv_e74_15, kv_e74_16, kv_e74_19, kv_e74_22, kv_e74_25, kv_e74_28, kv_e74_29, kv_o10, not_false_eq_true, not_true, if_true, if_false, kv_then_s, kv_then_v, kv_then_n, List.cons_append, List.nil_append, kv_Ci, kv_Cr, kv_Cn, kv_Cu, kv_C0, kv_catc, kv_gCi, kv_gCl, kv_gCr, kv_nb0, kv_nb1, kv_nbi, kv_nb01, Nat.reduceAdd, Nat.reduceLeDiff, show ((-8 : Int32) < 0) = True from by decide]
theorem kw_cn_20 (a b c d' e : Int32) : kw_cn (kw_B a b c d' e) 20 = kw_cn (kw_b a) 4 + kw_cn (kw_b b) 4 + kw_cn (kw_b c) 4 + kw_cn (kw_b d') 4 + kw_cn (kw_b e) 4 := by
  simp only [kw_cn, Nat.add_zero, Nat.zero_add]
  have w : ∀ k, kw_B a b c d' e k = kw_b (kw_wd_ a b c d' e k) (k % 4) := fun _ => rfl
  simp only [w]
  simp only [kw_wd_, Nat.reduceLT, Nat.reduceMod, if_true, if_false]
  omega
/-- a tape behind so many bytes -/
def kw_td (f : Nat → Int32) (L : Nat) (t : Nat → Int32) : Nat → Nat × (Nat → Int32)
  | 0 => (L, t)
  | k + 1 => if f k = 0 then kw_td f L t k else ((kw_td f L t k).1 + 1, upd (kw_td f L t k).2 (kw_td f L t k).1 (f k))
theorem kw_td_s (f : Nat → Int32) (L : Nat) (t : Nat → Int32) (k : Nat) : kw_td f L t (k + 1) = if f k = 0 then kw_td f L t k else ((kw_td f L t k).1 + 1, upd (kw_td f L t k).2 (kw_td f L t k).1 (f k)) := rfl
theorem kw_td_1 (f : Nat → Int32) (L : Nat) (t : Nat → Int32) : ∀ k, (kw_td f L t k).1 = L + kw_cn f k := by
  intro k
  induction k with
  | zero => rfl
  | succ k ih =>
    rw [kw_td_s, kw_cn_s]
    by_cases q : f k = 0
    · rw [if_pos q, if_pos q, ih]
      omega
    · rw [if_neg q, if_neg q]
      show (kw_td f L t k).1 + 1 = _
      rw [ih]
      omega
theorem kw_td_2 {f : Nat → Int32} {L : Nat} {t t' : Nat → Int32} (hf : ∀ k, f k = 0 ∨ kw_rg (f k) 1 255) (h : ∀ i, i < L → t i = t' i ∧ kw_rg (t' i) 1 255) : ∀ k i, i < (kw_td f L t k).1 → (kw_td f L t k).2 i = (kw_td f L t' k).2 i ∧ kw_rg ((kw_td f L t' k).2 i) 1 255 := by
  intro k
  induction k with
  | zero => exact h
  | succ k ih =>
    have e1 : (kw_td f L t k).1 = (kw_td f L t' k).1 := by rw [kw_td_1, kw_td_1]
    rw [kw_td_s, kw_td_s]
    by_cases q : f k = 0
    · rw [if_pos q, if_pos q]
      exact ih
    · rw [if_neg q, if_neg q]
      intro i hi
      show upd _ _ _ i = upd _ _ _ i ∧ kw_rg (upd _ _ _ i) 1 255
      unfold upd
      rw [e1]
      by_cases r : i = (kw_td f L t' k).1
      · rw [if_pos r, if_pos r]
        exact ⟨rfl, (hf k).resolve_left q⟩
      · rw [if_neg r, if_neg r]
        exact ih i (by
          have : i < (kw_td f L t k).1 + 1 := hi
          omega)
def kw_tpz (z : Nat → Nat → Int32) (S : Nat × (Nat → Int32)) : Nat → Nat → Int32 := kv_z (kv_z z 2 S.2) 1 (upd (z 1) 1 (Int32.ofNat S.1))
theorem kw_tpz_0 {L : Nat} (h : z 1 1 = Int32.ofNat L) : kw_tpz z (L, z 2) = z := by
  funext c i
  unfold kw_tpz kv_z upd
  by_cases q : c = 1
  · subst q
    rw [if_pos rfl]
    by_cases r : i = 1
    · rw [if_pos r, r, h]
    · rw [if_neg r]
  · rw [if_neg q]
    by_cases r : c = 2
    · subst r
      rw [if_pos rfl]
    · rw [if_neg r]
theorem kw_tpz_s (S : Nat × (Nat → Int32)) (b : Int32) : kv_z (kv_z (kw_tpz z S) 2 (upd (kw_tpz z S 2) S.1 b)) 1 (upd (kv_z (kw_tpz z S) 2 (upd (kw_tpz z S 2) S.1 b) 1) 1 (Int32.ofNat (S.1 + 1))) = kw_tpz z (S.1 + 1, upd S.2 S.1 b) := by
  funext c i
  unfold kw_tpz kv_z upd
  by_cases q : c = 1
  · subst q
    simp
    by_cases r : i = 1 <;> simp [r]
  · by_cases r : c = 2
    · subst r
      simp
    · simp [q, r]
theorem kw_tpz11 (S : Nat × (Nat → Int32)) : kw_tpz z S 1 1 = Int32.ofNat S.1 := rfl
theorem kw_tpz2 (S : Nat × (Nat → Int32)) : kw_tpz z S 2 = S.2 := rfl
/-- a word's four bytes onto the class's tape -/
theorem kw_addK {w : Int32} {f : Nat → Int32} {L : Nat} {t : Nat → Int32} {k : Nat} (hf : ∀ p, p < 4 → f (k + p) = kw_b w p) (hL : L + kw_cn f (k + 4) ≤ 240) : kv_Rn d 75 0 [some (.ref 1), some (.int w), none, none] [] (kv_h e (kw_tpz z (kw_td f L t k)) zl) = some (none, kv_h e (kw_tpz z (kw_td f L t (k + 4))) zl) := by
  have st : ∀ (s s' : Int32) (p : Nat) (u3 : Option Value), p < 4 → (s < 0) = False → s + (-8) = s' → kv_sr w s &&& 255 = kw_b w p → ∃ u3', kv_Rn d 75 3 [some (.ref 1), some (.int w), some (.int s), u3] [] (kv_h e (kw_tpz z (kw_td f L t (k + p))) zl) = kv_Rn d 75 3 [some (.ref 1), some (.int w), some (.int s'), u3'] [] (kv_h e (kw_tpz z (kw_td f L t (k + p + 1))) zl) := by
    intro s s' p u3 hp h1 h2 h3
    refine ⟨some (.int (kw_b w p)), ?_⟩
    rw [kv_e75_3, kw_td_s, hf p hp]
    by_cases q : kw_b w p = 0
    · rw [if_pos q]
      simp only [kv_e75_0, kv_e75_2, kv_e75_4, kv_e75_7, kv_e75_8, kv_e75_9, kv_e75_10, kv_e75_13, kv_e75_14, kv_e75_15, kv_e75_16, kv_e75_19, kv_e75_20, kv_e75_23, kv_e75_26, kv_e75_27, kv_e75_30, kv_e75_31, kv_e75_34, kv_e75_35, kv_e75_38, kv_e75_39, kv_e75_42, kv_e75_43, kv_e75_46, kv_e75_47, kv_e75_48, kv_e75_49, kv_e75_50, kv_e75_53, kv_e75_54, kv_e75_55, kv_e75_58, kv_e75_61, kv_e75_64, kv_o10, not_false_eq_true, not_true, if_true, if_false, kv_then_s, kv_then_v, kv_then_n, List.cons_append, List.nil_append, kv_Ci, kv_Cr, kv_Cn, kv_Cu, kv_C0, kv_catc, kv_gCi, kv_gCl, kv_gCr, kv_nb0, kv_nb1, kv_nbi, kv_nb01, Nat.reduceAdd, Nat.reduceLeDiff, h1, h2, h3, q, eq_self]
    · rw [if_neg q]
      have hn : (kw_td f L t (k + p)).1 < 240 := by
        rw [kw_td_1]
        have c1 : kw_cn f (k + p + 1) ≤ kw_cn f (k + 4) := by
          have := kw_cn_mono f (k + p + 1) (3 - p)
          rw [show k + p + 1 + (3 - p) = k + 4 from by omega] at this
          exact this
        rw [kw_cn_s, hf p hp, if_neg q] at c1
        omega
      have hn2 : (kw_td f L t (k + p)).1 < 2147483648 := by omega
      rw [← kw_tpz_s]
      generalize kw_td f L t (k + p) = S at hn hn2
      simp only [kv_e75_0, kv_e75_2, kv_e75_4, kv_e75_7, kv_e75_8, kv_e75_9, kv_e75_10, kv_e75_13, kv_e75_14, kv_e75_15, kv_e75_16, kv_e75_19, kv_e75_20, kv_e75_23, kv_e75_26, kv_e75_27, kv_e75_30, kv_e75_31, kv_e75_34, kv_e75_35, kv_e75_38, kv_e75_39, kv_e75_42, kv_e75_43, kv_e75_46, kv_e75_47, kv_e75_48, kv_e75_49, kv_e75_50, kv_e75_53, kv_e75_54, kv_e75_55, kv_e75_58, kv_e75_61, kv_e75_64, kv_o10, not_false_eq_true, not_true, if_true, if_false, kv_then_s, kv_then_v, kv_then_n, List.cons_append, List.nil_append, kv_Ci, kv_Cr, kv_Cn, kv_Cu, kv_C0, kv_catc, kv_gCi, kv_gCl, kv_gCr, kv_nb0, kv_nb1, kv_nbi, kv_nb01, Nat.reduceAdd, Nat.reduceLeDiff, h1, h2, h3, q, kw_tpz11, kw_n0 hn2, kv_ia2, true_or, kv_ar_lt (show 2 < 300 by omega), kv_aw2, show ((Int32.ofNat 240) ≤ Int32.ofNat S.1) = False from kv_ln_ hn (by omega), kv_tn hn2, kv_lN hn, or_self, kv_zne _ _ (show (1 : Nat) ≠ 2 by omega), kv_suc]
  obtain ⟨u1, r1⟩ := st 24 16 0 none (by omega) (by decide) (by decide) rfl
  obtain ⟨u2, r2⟩ := st 16 8 1 u1 (by omega) (by decide) (by decide) rfl
  obtain ⟨u3, r3⟩ := st 8 0 2 u2 (by omega) (by decide) (by decide) rfl
  obtain ⟨u4, r4⟩ := st 0 (-8) 3 u3 (by omega) (by decide) (by decide) rfl
  simp only [kv_e75_0, kv_e75_2, kv_o10, not_false_eq_true, not_true, if_true, if_false, kv_then_s, kv_then_v, kv_then_n, List.cons_append, List.nil_append, kv_Ci, kv_Cr, kv_Cn, kv_Cu, kv_C0, kv_catc, kv_gCi, kv_gCl, kv_gCr, kv_nb0, kv_nb1, kv_nbi, kv_nb01, Nat.reduceAdd, Nat.reduceLeDiff]
  rw [Nat.add_zero] at r1
  rw [r1, show k + 0 + 1 = k + 1 from rfl, r2, show k + 1 + 1 = k + 2 from rfl, r3, show k + 2 + 1 = k + 3 from rfl, r4, kv_e75_3]
  simp only [kv_e75_0, kv_e75_2, kv_e75_4, kv_e75_7, kv_e75_8, kv_e75_9, kv_e75_10, kv_e75_13, kv_e75_14, kv_e75_15, kv_e75_16, kv_e75_19, kv_e75_20, kv_e75_23, kv_e75_26, kv_e75_27, kv_e75_30, kv_e75_31, kv_e75_34, kv_e75_35, kv_e75_38, kv_e75_39, kv_e75_42, kv_e75_43, kv_e75_46, kv_e75_47, kv_e75_48, kv_e75_49, kv_e75_50, kv_e75_53, kv_e75_54, kv_e75_55, kv_e75_58, kv_e75_61, kv_e75_64, kv_o10, not_false_eq_true, not_true, if_true, if_false, kv_then_s, kv_then_v, kv_then_n, List.cons_append, List.nil_append, kv_Ci, kv_Cr, kv_Cn, kv_Cu, kv_C0, kv_catc, kv_gCi, kv_gCl, kv_gCr, kv_nb0, kv_nb1, kv_nbi, kv_nb01, Nat.reduceAdd, Nat.reduceLeDiff, show ((-8 : Int32) < 0) = True from by decide]
def kw_tpm (z : Nat → Nat → Int32) (S : Nat × (Nat → Int32)) : Nat → Nat → Int32 := kv_z (kv_z z 1 S.2) 0 (upd (z 0) 2 (Int32.ofNat S.1))
theorem kw_tpm_0 {L : Nat} (h : z 0 2 = Int32.ofNat L) : kw_tpm z (L, z 1) = z := by
  funext c i
  unfold kw_tpm kv_z upd
  by_cases q : c = 0
  · subst q
    rw [if_pos rfl]
    by_cases r : i = 2
    · rw [if_pos r, r, h]
    · rw [if_neg r]
  · rw [if_neg q]
    by_cases r : c = 1
    · subst r
      rw [if_pos rfl]
    · rw [if_neg r]
theorem kw_tpm_s (S : Nat × (Nat → Int32)) (b : Int32) : kv_z (kv_z (kw_tpm z S) 1 (upd (kw_tpm z S 1) S.1 b)) 0 (upd (kv_z (kw_tpm z S) 1 (upd (kw_tpm z S 1) S.1 b) 0) 2 (Int32.ofNat (S.1 + 1))) = kw_tpm z (S.1 + 1, upd S.2 S.1 b) := by
  funext c i
  unfold kw_tpm kv_z upd
  by_cases q : c = 0
  · subst q
    simp
    by_cases r : i = 2 <;> simp [r]
  · by_cases r : c = 1
    · subst r
      simp
    · simp [q, r]
theorem kw_tpm02 (S : Nat × (Nat → Int32)) : kw_tpm z S 0 2 = Int32.ofNat S.1 := rfl
theorem kw_ge20 {k : Nat} (h : k < 20) : ((20 : Int32) ≤ Int32.ofNat k) = False := kv_ln_ (m := 20) h (by omega)
theorem kw_f_feed (h : kw_R n B W zK zM) (a b c d' f : Int32) : kw_A (d + 12) 82 154 [some (.ref 0), some (.int a), some (.int b), some (.int c), some (.int d'), some (.int f), none] [some (.ref 0), some (.int a), some (.int b), some (.int c), some (.int d'), some (.int f), none, none, none] zK zM zl zlM := by
  obtain ⟨⟨L, t1, t2, t3, t4⟩, hA, hF, hLw⟩ := h.1
  have c20 := kw_cn_20 a b c d' f
  have r20 := kw_cn_le (kw_B a b c d' f) 20
  have ge : ((20 : Int32) ≤ Int32.ofNat 20) = True := by decide
  -- the model's count
  have hl1 := kv_up (fun k => kv_Rn (d + 12) 154 6 [some (.ref 0), some (.int a), some (.int b), some (.int c), some (.int d'), some (.int f), some (.int (Int32.ofNat (kw_cn (kw_B a b c d' f) k))), some (.int (Int32.ofNat k)), none] [] (kv_m zM zlM) = kv_Rn (d + 12) 154 44 [some (.ref 0), some (.int a), some (.int b), some (.int c), some (.int d'), some (.int f), some (.int (Int32.ofNat (kw_cn (kw_B a b c d' f) 20))), some (.int (Int32.ofNat 20)), none] [] (kv_m zM zlM)) 20 ?_ ?_
  · have enter : kv_Rn (d + 12) 154 0 [some (.ref 0), some (.int a), some (.int b), some (.int c), some (.int d'), some (.int f), none, none, none] [] (kv_m zM zlM) = kv_Rn (d + 12) 154 44 [some (.ref 0), some (.int a), some (.int b), some (.int c), some (.int d'), some (.int f), some (.int (Int32.ofNat (kw_cn (kw_B a b c d' f) 20))), some (.int (Int32.ofNat 20)), none] [] (kv_m zM zlM) := by
      rw [← hl1]
      simp only [kv_e154_0, kv_e154_1, kv_e154_3, kv_e154_4, kv_o10, not_false_eq_true, not_true, if_true, if_false, kv_then_s, kv_then_v, kv_then_n, List.cons_append, List.nil_append, kv_Ci, kv_Cr, kv_Cn, kv_Cu, kv_C0, kv_catc, kv_gCi, kv_gCl, kv_gCr, kv_nb0, kv_nb1, kv_nbi, kv_nb01, Nat.reduceAdd, Nat.reduceLeDiff]
      rfl
    have lim : (Int32.ofNat (L + kw_cn (kw_B a b c d' f) 20) ≤ 240) = (L + kw_cn (kw_B a b c d' f) 20 ≤ 240) := kv_nle (b := 240) (by omega) (by omega)
    by_cases q : L + kw_cn (kw_B a b c d' f) 20 ≤ 240
    · -- both take the bytes
      have hl2 := kv_up (fun k => ∀ u8, kv_Rn (d + 12) 154 62 [some (.ref 0), some (.int a), some (.int b), some (.int c), some (.int d'), some (.int f), some (.int (Int32.ofNat (kw_cn (kw_B a b c d' f) 20))), some (.int (Int32.ofNat k)), u8] [] (kv_m (kw_tpm zM (kw_td (kw_B a b c d' f) L (zM 1) k)) zlM) = some (some (.int (Int32.ofNat (kw_td (kw_B a b c d' f) L (zM 1) 20).1)), kv_m (kw_tpm zM (kw_td (kw_B a b c d' f) L (zM 1) 20)) zlM)) 20 ?_ ?_
      · have hm := hl2 none
        have e0 : kw_td (kw_B a b c d' f) L (zM 1) 0 = (L, zM 1) := rfl
        rw [e0, kw_tpm_0 t3] at hm
        have a1 := kw_addK (d := d + 11) (e := []) (z := zK) (zl := zl) (w := a) (f := kw_B a b c d' f) (L := L) (t := zK 2) (k := 0) (kw_B_0 a b c d' f) (by
          have m4 : kw_cn (kw_B a b c d' f) 4 = kw_cn (kw_b a) 4 := rfl
          rw [Nat.zero_add, m4]
          omega)
        have cn8 : kw_cn (kw_B a b c d' f) 8 = kw_cn (kw_b a) 4 + kw_cn (kw_b b) 4 := by
          simp only [kw_cn, Nat.add_zero, Nat.zero_add]
          have w : ∀ k, kw_B a b c d' f k = kw_b (kw_wd_ a b c d' f k) (k % 4) := fun _ => rfl
          simp only [w]
          simp only [kw_wd_, Nat.reduceLT, Nat.reduceMod, if_true, if_false]
          omega
        have cn12 : kw_cn (kw_B a b c d' f) 12 = kw_cn (kw_b a) 4 + kw_cn (kw_b b) 4 + kw_cn (kw_b c) 4 := by
          simp only [kw_cn, Nat.add_zero, Nat.zero_add]
          have w : ∀ k, kw_B a b c d' f k = kw_b (kw_wd_ a b c d' f k) (k % 4) := fun _ => rfl
          simp only [w]
          simp only [kw_wd_, Nat.reduceLT, Nat.reduceMod, if_true, if_false]
          omega
        have cn16 : kw_cn (kw_B a b c d' f) 16 = kw_cn (kw_b a) 4 + kw_cn (kw_b b) 4 + kw_cn (kw_b c) 4 + kw_cn (kw_b d') 4 := by
          simp only [kw_cn, Nat.add_zero, Nat.zero_add]
          have w : ∀ k, kw_B a b c d' f k = kw_b (kw_wd_ a b c d' f k) (k % 4) := fun _ => rfl
          simp only [w]
          simp only [kw_wd_, Nat.reduceLT, Nat.reduceMod, if_true, if_false]
          omega
        have a2 := kw_addK (d := d + 11) (e := []) (z := zK) (zl := zl) (w := b) (f := kw_B a b c d' f) (L := L) (t := zK 2) (k := 4) (kw_B_4 a b c d' f) (by show L + kw_cn (kw_B a b c d' f) 8 ≤ 240; omega)
        have a3 := kw_addK (d := d + 11) (e := []) (z := zK) (zl := zl) (w := c) (f := kw_B a b c d' f) (L := L) (t := zK 2) (k := 8) (kw_B_8 a b c d' f) (by show L + kw_cn (kw_B a b c d' f) 12 ≤ 240; omega)
        have a4 := kw_addK (d := d + 11) (e := []) (z := zK) (zl := zl) (w := d') (f := kw_B a b c d' f) (L := L) (t := zK 2) (k := 12) (kw_B_12 a b c d' f) (by show L + kw_cn (kw_B a b c d' f) 16 ≤ 240; omega)
        have a5 := kw_addK (d := d + 11) (e := []) (z := zK) (zl := zl) (w := f) (f := kw_B a b c d' f) (L := L) (t := zK 2) (k := 16) (kw_B_16 a b c d' f) (by show L + kw_cn (kw_B a b c d' f) 20 ≤ 240; omega)
        have e1 : kw_td (kw_B a b c d' f) L (zK 2) 0 = (L, zK 2) := rfl
        rw [e1, kw_tpz_0 t2] at a1
        have eL : (kw_td (kw_B a b c d' f) L (zK 2) 20).1 = (kw_td (kw_B a b c d' f) L (zM 1) 20).1 := by rw [kw_td_1, kw_td_1]
        refine kw_A1 (r := Int32.ofNat (kw_td (kw_B a b c d' f) L (zM 1) 20).1) (n := n) (B := B) (W := W) (zK' := kw_tpz zK (kw_td (kw_B a b c d' f) L (zK 2) 20)) (zM' := kw_tpm zM (kw_td (kw_B a b c d' f) L (zM 1) 20)) ?_ ?_ ?_
        · have k' : ∀ c', c' ≠ 1 → c' ≠ 2 → kw_tpz zK (kw_td (kw_B a b c d' f) L (zK 2) 20) c' = zK c' := fun c' q1 q2 => (kv_zne _ _ q1).trans (kv_zne _ _ q2)
          have m' : ∀ c', c' ≠ 0 → c' ≠ 1 → kw_tpm zM (kw_td (kw_B a b c d' f) L (zM 1) 20) c' = zM c' := fun c' q1 q2 => (kv_zne _ _ q1).trans (kv_zne _ _ q2)
          have m0 : ∀ j, j ≠ 2 → kw_tpm zM (kw_td (kw_B a b c d' f) L (zM 1) 20) 0 j = zM 0 j := fun j hj => by
            unfold kw_tpm
            rw [kv_zs]
            exact if_neg hj
          have td2 := kw_td_2 (f := kw_B a b c d' f) (L := L) (t := zK 2) (t' := zM 1) (kw_B_r a b c d' f) t4 20
          obtain ⟨-, ⟨hN, hI', hC⟩, hE, hG⟩ := h
          refine ⟨⟨⟨(kw_td (kw_B a b c d' f) L (zM 1) 20).1, by rw [kw_td_1]; exact q, by rw [← eL]; rfl, rfl, fun i hi => td2 i (by rw [eL]; exact hi)⟩, kw_RA_fr hA (fun c' q1 q2 => k' c' (by omega) (by omega)) (m0 25 (by omega)) (m' 15 (by omega) (by omega)), kw_RF_fr hF (k' 3 (by omega) (by omega)) (m0 24 (by omega)) (m' 14 (by omega) (by omega)), kw_RL_fr hLw (fun c' q1 q2 => k' c' (by omega) (by omega)) ⟨m0 13 (by omega), m0 27 (by omega), m0 28 (by omega)⟩ (fun c' q1 q2 => m' c' (by omega) (by omega))⟩, ⟨kw_RN_fr hN (fun c' q1 q2 => k' c' (by omega) (by omega)) (m' 16 (by omega) (by omega)), kw_RI_fr hI' (by rw [k' 0 (by omega) (by omega)]) (fun c' q1 q2 => k' c' (by omega) (by omega)) (m0 42 (by omega)) (m' 25 (by omega) (by omega)), kw_RC_fr hC (fun c' q1 q2 => k' c' (by omega) (by omega)) (m0 33 (by omega)) (m' 19 (by omega) (by omega))⟩, kw_RE_fr hE (fun c' q1 q2 => k' c' (by omega) (by omega)) (m0 40 (by omega)) (fun c' q1 q2 => m' c' (by omega) (by omega)), kw_RG_fr hG (by rw [k' 0 (by omega) (by omega)]) (m0 29 (by omega))⟩
        · have es : Int32.ofNat (kw_cn (kw_b a) 4) + Int32.ofNat (kw_cn (kw_b b) 4) + Int32.ofNat (kw_cn (kw_b c) 4) + Int32.ofNat (kw_cn (kw_b d') 4) + Int32.ofNat (kw_cn (kw_b f) 4) = Int32.ofNat (kw_cn (kw_B a b c d' f) 20) := by rw [kw_addN, kw_addN, kw_addN, kw_addN, c20]
          rw [← eL]
          simp only [Nat.zero_add] at a1
          simp only [kv_e82_0, kv_e82_1, kv_e82_4, kv_e82_5, kv_e82_8, kv_e82_9, kv_e82_10, kv_e82_13, kv_e82_14, kv_e82_16, kv_e82_19, kv_e82_20, kv_e82_22, kv_e82_25, kv_e82_26, kv_e82_28, kv_e82_29, kv_e82_32, kv_e82_35, kv_e82_37, kv_e82_38, kv_e82_41, kv_e82_44, kv_e82_45, kv_e82_46, kv_e82_47, kv_e82_50, kv_e82_51, kv_e82_54, kv_e82_55, kv_e82_58, kv_e82_59, kv_e82_62, kv_e82_63, kv_e82_66, kv_e82_67, kv_e82_70, kv_e82_71, kv_e82_74, kv_e82_76, kv_e82_79, kv_e82_80, kv_e82_83, kv_e82_85, kv_e82_88, kv_e82_89, kv_e82_92, kv_e82_95, kv_o10, not_false_eq_true, not_true, if_true, if_false, kv_then_s, kv_then_v, kv_then_n, List.cons_append, List.nil_append, kv_Ci, kv_Cr, kv_Cn, kv_Cu, kv_C0, kv_catc, kv_gCi, kv_gCl, kv_gCr, kv_nb0, kv_nb1, kv_nbi, kv_nb01, Nat.reduceAdd, Nat.reduceLeDiff, kw_bytesIn, c20.symm, t2, kw_addN, lim, q, a1, a2, a3, a4, a5]
          rfl
        · rw [enter]
          simp only [kv_e154_44, kv_e154_45, kv_e154_48, kv_e154_50, kv_e154_51, kv_e154_54, kv_e154_59, kv_e154_60, kv_o10, not_false_eq_true, not_true, if_true, if_false, kv_then_s, kv_then_v, kv_then_n, List.cons_append, List.nil_append, kv_Ci, kv_Cr, kv_Cn, kv_Cu, kv_C0, kv_catc, kv_gCi, kv_gCl, kv_gCr, kv_nb0, kv_nb1, kv_nbi, kv_nb01, Nat.reduceAdd, Nat.reduceLeDiff, t3, kw_addN, lim, q]
          exact hm
      · intro u8
        rw [kv_e154_62]
        simp only [kv_e154_0, kv_e154_1, kv_e154_3, kv_e154_4, kv_e154_8, kv_e154_10, kv_e154_13, kv_e154_15, kv_e154_16, kv_e154_17, kv_e154_18, kv_e154_20, kv_e154_22, kv_e154_24, kv_e154_27, kv_e154_30, kv_e154_31, kv_e154_34, kv_e154_35, kv_e154_36, kv_e154_38, kv_e154_41, kv_e154_44, kv_e154_45, kv_e154_48, kv_e154_50, kv_e154_51, kv_e154_54, kv_e154_57, kv_e154_58, kv_e154_59, kv_e154_60, kv_e154_64, kv_e154_66, kv_e154_69, kv_e154_70, kv_e154_71, kv_e154_72, kv_e154_74, kv_e154_76, kv_e154_78, kv_e154_81, kv_e154_83, kv_e154_85, kv_e154_88, kv_e154_89, kv_e154_92, kv_e154_93, kv_e154_96, kv_e154_98, kv_e154_99, kv_e154_100, kv_e154_101, kv_e154_104, kv_e154_105, kv_e154_106, kv_e154_109, kv_e154_112, kv_e154_115, kv_e154_116, kv_e154_119, kv_o10, not_false_eq_true, not_true, if_true, if_false, kv_then_s, kv_then_v, kv_then_n, List.cons_append, List.nil_append, kv_Ci, kv_Cr, kv_Cn, kv_Cu, kv_C0, kv_catc, kv_gCi, kv_gCl, kv_gCr, kv_nb0, kv_nb1, kv_nbi, kv_nb01, Nat.reduceAdd, Nat.reduceLeDiff, ge, kw_tpm02]
      · intro k hk ih u8
        have ih := ih (some (.int (kw_B a b c d' f k)))
        rw [kw_td_s] at ih
        rw [← ih, kv_e154_62]
        by_cases qb : kw_B a b c d' f k = 0
        · rw [if_pos qb]
          simp only [kv_e154_0, kv_e154_1, kv_e154_3, kv_e154_4, kv_e154_8, kv_e154_10, kv_e154_13, kv_e154_15, kv_e154_16, kv_e154_17, kv_e154_18, kv_e154_20, kv_e154_22, kv_e154_24, kv_e154_27, kv_e154_30, kv_e154_31, kv_e154_34, kv_e154_35, kv_e154_36, kv_e154_38, kv_e154_41, kv_e154_44, kv_e154_45, kv_e154_48, kv_e154_50, kv_e154_51, kv_e154_54, kv_e154_57, kv_e154_58, kv_e154_59, kv_e154_60, kv_e154_64, kv_e154_66, kv_e154_69, kv_e154_70, kv_e154_71, kv_e154_72, kv_e154_74, kv_e154_76, kv_e154_78, kv_e154_81, kv_e154_83, kv_e154_85, kv_e154_88, kv_e154_89, kv_e154_92, kv_e154_93, kv_e154_96, kv_e154_98, kv_e154_99, kv_e154_100, kv_e154_101, kv_e154_104, kv_e154_105, kv_e154_106, kv_e154_109, kv_e154_112, kv_e154_115, kv_e154_116, kv_e154_119, kv_o10, not_false_eq_true, not_true, if_true, if_false, kv_then_s, kv_then_v, kv_then_n, List.cons_append, List.nil_append, kv_Ci, kv_Cr, kv_Cn, kv_Cu, kv_C0, kv_catc, kv_gCi, kv_gCl, kv_gCr, kv_nb0, kv_nb1, kv_nbi, kv_nb01, Nat.reduceAdd, Nat.reduceLeDiff, kw_ge20 hk, kw_byteOf _ _ _ _ _ hk, qb, eq_self, kv_suc]
        · rw [if_neg qb]
          have hn : (kw_td (kw_B a b c d' f) L (zM 1) k).1 < 240 := by
            rw [kw_td_1]
            have c1 := kw_cn_mono (kw_B a b c d' f) (k + 1) (19 - k)
            rw [show k + 1 + (19 - k) = 20 from by omega, kw_cn_s, if_neg qb] at c1
            omega
          have hn2 : (kw_td (kw_B a b c d' f) L (zM 1) k).1 < 2147483648 := by omega
          rw [← kw_tpm_s]
          generalize kw_td (kw_B a b c d' f) L (zM 1) k = S at hn hn2
          simp only [kv_e154_0, kv_e154_1, kv_e154_3, kv_e154_4, kv_e154_8, kv_e154_10, kv_e154_13, kv_e154_15, kv_e154_16, kv_e154_17, kv_e154_18, kv_e154_20, kv_e154_22, kv_e154_24, kv_e154_27, kv_e154_30, kv_e154_31, kv_e154_34, kv_e154_35, kv_e154_36, kv_e154_38, kv_e154_41, kv_e154_44, kv_e154_45, kv_e154_48, kv_e154_50, kv_e154_51, kv_e154_54, kv_e154_57, kv_e154_58, kv_e154_59, kv_e154_60, kv_e154_64, kv_e154_66, kv_e154_69, kv_e154_70, kv_e154_71, kv_e154_72, kv_e154_74, kv_e154_76, kv_e154_78, kv_e154_81, kv_e154_83, kv_e154_85, kv_e154_88, kv_e154_89, kv_e154_92, kv_e154_93, kv_e154_96, kv_e154_98, kv_e154_99, kv_e154_100, kv_e154_101, kv_e154_104, kv_e154_105, kv_e154_106, kv_e154_109, kv_e154_112, kv_e154_115, kv_e154_116, kv_e154_119, kv_o10, not_false_eq_true, not_true, if_true, if_false, kv_then_s, kv_then_v, kv_then_n, List.cons_append, List.nil_append, kv_Ci, kv_Cr, kv_Cn, kv_Cu, kv_C0, kv_catc, kv_gCi, kv_gCl, kv_gCr, kv_nb0, kv_nb1, kv_nbi, kv_nb01, Nat.reduceAdd, Nat.reduceLeDiff, kw_ge20 hk, kw_byteOf _ _ _ _ _ hk, qb, kw_tpm02, kw_n0 hn2, kv_am1, kv_tn hn2, kv_lN hn, or_self, kv_zne _ _ (show (0 : Nat) ≠ 1 by omega), kv_suc]
    · refine kw_A0 (r := -1) h ?_ ?_
      · have es : Int32.ofNat (kw_cn (kw_b a) 4) + Int32.ofNat (kw_cn (kw_b b) 4) + Int32.ofNat (kw_cn (kw_b c) 4) + Int32.ofNat (kw_cn (kw_b d') 4) + Int32.ofNat (kw_cn (kw_b f) 4) = Int32.ofNat (kw_cn (kw_B a b c d' f) 20) := by rw [kw_addN, kw_addN, kw_addN, kw_addN, c20]
        simp only [kv_e82_0, kv_e82_1, kv_e82_4, kv_e82_5, kv_e82_8, kv_e82_9, kv_e82_10, kv_e82_13, kv_e82_14, kv_e82_16, kv_e82_19, kv_e82_20, kv_e82_22, kv_e82_25, kv_e82_26, kv_e82_28, kv_e82_29, kv_e82_32, kv_e82_35, kv_e82_37, kv_e82_38, kv_e82_41, kv_e82_44, kv_e82_45, kv_e82_46, kv_e82_47, kv_e82_50, kv_e82_51, kv_e82_54, kv_e82_55, kv_e82_58, kv_e82_59, kv_e82_62, kv_e82_63, kv_e82_66, kv_e82_67, kv_e82_70, kv_e82_71, kv_e82_74, kv_e82_76, kv_e82_79, kv_e82_80, kv_e82_83, kv_e82_85, kv_e82_88, kv_e82_89, kv_e82_92, kv_e82_95, kv_o10, not_false_eq_true, not_true, if_true, if_false, kv_then_s, kv_then_v, kv_then_n, List.cons_append, List.nil_append, kv_Ci, kv_Cr, kv_Cn, kv_Cu, kv_C0, kv_catc, kv_gCi, kv_gCl, kv_gCr, kv_nb0, kv_nb1, kv_nbi, kv_nb01, Nat.reduceAdd, Nat.reduceLeDiff, kw_bytesIn, c20.symm, t2, kw_addN, lim, q]
      · rw [enter]
        simp only [kv_e154_0, kv_e154_1, kv_e154_3, kv_e154_4, kv_e154_8, kv_e154_10, kv_e154_13, kv_e154_15, kv_e154_16, kv_e154_17, kv_e154_18, kv_e154_20, kv_e154_22, kv_e154_24, kv_e154_27, kv_e154_30, kv_e154_31, kv_e154_34, kv_e154_35, kv_e154_36, kv_e154_38, kv_e154_41, kv_e154_44, kv_e154_45, kv_e154_48, kv_e154_50, kv_e154_51, kv_e154_54, kv_e154_57, kv_e154_58, kv_e154_59, kv_e154_60, kv_e154_64, kv_e154_66, kv_e154_69, kv_e154_70, kv_e154_71, kv_e154_72, kv_e154_74, kv_e154_76, kv_e154_78, kv_e154_81, kv_e154_83, kv_e154_85, kv_e154_88, kv_e154_89, kv_e154_92, kv_e154_93, kv_e154_96, kv_e154_98, kv_e154_99, kv_e154_100, kv_e154_101, kv_e154_104, kv_e154_105, kv_e154_106, kv_e154_109, kv_e154_112, kv_e154_115, kv_e154_116, kv_e154_119, kv_o10, not_false_eq_true, not_true, if_true, if_false, kv_then_s, kv_then_v, kv_then_n, List.cons_append, List.nil_append, kv_Ci, kv_Cr, kv_Cn, kv_Cu, kv_C0, kv_catc, kv_gCi, kv_gCl, kv_gCr, kv_nb0, kv_nb1, kv_nbi, kv_nb01, Nat.reduceAdd, Nat.reduceLeDiff, t3, kw_addN, lim, q]
  · rw [kv_e154_6]
    simp only [kv_e154_8, kv_e154_10, kv_o10, not_false_eq_true, not_true, if_true, if_false, kv_then_s, kv_then_v, kv_then_n, List.cons_append, List.nil_append, kv_Ci, kv_Cr, kv_Cn, kv_Cu, kv_C0, kv_catc, kv_gCi, kv_gCl, kv_gCr, kv_nb0, kv_nb1, kv_nbi, kv_nb01, Nat.reduceAdd, Nat.reduceLeDiff, ge]
  · intro k hk ih
    rw [← ih, kv_e154_6, kw_cn_s]
    by_cases qb : kw_B a b c d' f k = 0
    · rw [if_pos qb]
      simp only [kv_e154_0, kv_e154_1, kv_e154_3, kv_e154_4, kv_e154_8, kv_e154_10, kv_e154_13, kv_e154_15, kv_e154_16, kv_e154_17, kv_e154_18, kv_e154_20, kv_e154_22, kv_e154_24, kv_e154_27, kv_e154_30, kv_e154_31, kv_e154_34, kv_e154_35, kv_e154_36, kv_e154_38, kv_e154_41, kv_e154_44, kv_e154_45, kv_e154_48, kv_e154_50, kv_e154_51, kv_e154_54, kv_e154_57, kv_e154_58, kv_e154_59, kv_e154_60, kv_e154_64, kv_e154_66, kv_e154_69, kv_e154_70, kv_e154_71, kv_e154_72, kv_e154_74, kv_e154_76, kv_e154_78, kv_e154_81, kv_e154_83, kv_e154_85, kv_e154_88, kv_e154_89, kv_e154_92, kv_e154_93, kv_e154_96, kv_e154_98, kv_e154_99, kv_e154_100, kv_e154_101, kv_e154_104, kv_e154_105, kv_e154_106, kv_e154_109, kv_e154_112, kv_e154_115, kv_e154_116, kv_e154_119, kv_o10, not_false_eq_true, not_true, if_true, if_false, kv_then_s, kv_then_v, kv_then_n, List.cons_append, List.nil_append, kv_Ci, kv_Cr, kv_Cn, kv_Cu, kv_C0, kv_catc, kv_gCi, kv_gCl, kv_gCr, kv_nb0, kv_nb1, kv_nbi, kv_nb01, Nat.reduceAdd, Nat.reduceLeDiff, kw_ge20 hk, kw_byteOf _ _ _ _ _ hk, qb, eq_self, Int32.add_zero, Nat.add_zero, kv_suc]
    · rw [if_neg qb]
      simp only [kv_e154_0, kv_e154_1, kv_e154_3, kv_e154_4, kv_e154_8, kv_e154_10, kv_e154_13, kv_e154_15, kv_e154_16, kv_e154_17, kv_e154_18, kv_e154_20, kv_e154_22, kv_e154_24, kv_e154_27, kv_e154_30, kv_e154_31, kv_e154_34, kv_e154_35, kv_e154_36, kv_e154_38, kv_e154_41, kv_e154_44, kv_e154_45, kv_e154_48, kv_e154_50, kv_e154_51, kv_e154_54, kv_e154_57, kv_e154_58, kv_e154_59, kv_e154_60, kv_e154_64, kv_e154_66, kv_e154_69, kv_e154_70, kv_e154_71, kv_e154_72, kv_e154_74, kv_e154_76, kv_e154_78, kv_e154_81, kv_e154_83, kv_e154_85, kv_e154_88, kv_e154_89, kv_e154_92, kv_e154_93, kv_e154_96, kv_e154_98, kv_e154_99, kv_e154_100, kv_e154_101, kv_e154_104, kv_e154_105, kv_e154_106, kv_e154_109, kv_e154_112, kv_e154_115, kv_e154_116, kv_e154_119, kv_o10, not_false_eq_true, not_true, if_true, if_false, kv_then_s, kv_then_v, kv_then_n, List.cons_append, List.nil_append, kv_Ci, kv_Cr, kv_Cn, kv_Cu, kv_C0, kv_catc, kv_gCi, kv_gCl, kv_gCr, kv_nb0, kv_nb1, kv_nbi, kv_nb01, Nat.reduceAdd, Nat.reduceLeDiff, kw_ge20 hk, kw_byteOf _ _ _ _ _ hk, qb, kv_suc]
end
