/-! the class's small helpers; copies of states -/
section
variable {d n a b : Nat} {e : List kv_E} {z : Nat → Nat → Int32} {zl : Nat → Nat → Int64}
def kw_KK (n : Nat) (z : Nat → Nat → Int32) : Prop := (z 3 4 = Int32.ofNat n ∧ n ≤ 8) ∧ kw_01 n (kc z 36)
theorem kw_hasField : kv_Rn d 137 0 [some (.ref 0)] [] (kv_h e z zl) = some (some (.int (if z 3 4 ≤ 0 then 0 else 1)), kv_h e z zl) := by
  simp only [kv_e137_0, kv_e137_1, kv_e137_4, kv_e137_7, kv_e137_10, kv_e137_11, kv_e137_14, kv_e137_15, kv_o10, not_false_eq_true, not_true, if_true, if_false, kv_then_s, kv_then_v, kv_then_n, List.cons_append, List.nil_append, kv_Ci, kv_Cr, kv_Cn, kv_Cu, kv_C0, kv_catc, kv_gCi, kv_gCl, kv_gCr, kv_nb0, kv_nb1, kv_nbi, kv_nb01, Nat.reduceAdd, Nat.reduceLeDiff, kv_isF3]
  by_cases h : z 3 4 ≤ 0 <;> simp only [h, kv_o10, not_false_eq_true, not_true, if_true, if_false, kv_then_s, kv_then_v, kv_then_n, List.cons_append, List.nil_append, kv_Ci, kv_Cr, kv_Cn, kv_Cu, kv_C0, kv_catc, kv_gCi, kv_gCl, kv_gCr, kv_nb0, kv_nb1, kv_nbi, kv_nb01, Nat.reduceAdd, Nat.reduceLeDiff]
theorem kw_isOut (v m : Int32) {h : kv_H} : kv_Rn d 147 0 [some (.int v), some (.int m)] [] h = some (some (.int (if 0 ≤ v ∧ v ≤ m then 0 else 1)), h) := by
  simp only [kv_e147_0, kv_e147_1, kv_e147_4, kv_e147_5, kv_e147_6, kv_e147_9, kv_e147_10, kv_e147_13, kv_e147_14, kv_o10, not_false_eq_true, not_true, if_true, if_false, kv_then_s, kv_then_v, kv_then_n, List.cons_append, List.nil_append, kv_Ci, kv_Cr, kv_Cn, kv_Cu, kv_C0, kv_catc, kv_gCi, kv_gCl, kv_gCr, kv_nb0, kv_nb1, kv_nbi, kv_nb01, Nat.reduceAdd, Nat.reduceLeDiff]
  by_cases c1 : v < 0
  · have c2 : ¬ 0 ≤ v := Int32.not_le.mpr c1
    simp only [c1, c2, false_and, kv_o10, not_false_eq_true, not_true, if_true, if_false, kv_then_s, kv_then_v, kv_then_n, List.cons_append, List.nil_append, kv_Ci, kv_Cr, kv_Cn, kv_Cu, kv_C0, kv_catc, kv_gCi, kv_gCl, kv_gCr, kv_nb0, kv_nb1, kv_nbi, kv_nb01, Nat.reduceAdd, Nat.reduceLeDiff]
  · have c2 : 0 ≤ v := Int32.not_lt.mp c1
    simp only [c1, c2, true_and, kv_o10, not_false_eq_true, not_true, if_true, if_false, kv_then_s, kv_then_v, kv_then_n, List.cons_append, List.nil_append, kv_Ci, kv_Cr, kv_Cn, kv_Cu, kv_C0, kv_catc, kv_gCi, kv_gCl, kv_gCr, kv_nb0, kv_nb1, kv_nbi, kv_nb01, Nat.reduceAdd, Nat.reduceLeDiff]
    by_cases c3 : v ≤ m <;> simp only [c3, kv_o10, not_false_eq_true, not_true, if_true, if_false, kv_then_s, kv_then_v, kv_then_n, List.cons_append, List.nil_append, kv_Ci, kv_Cr, kv_Cn, kv_Cu, kv_C0, kv_catc, kv_gCi, kv_gCl, kv_gCr, kv_nb0, kv_nb1, kv_nbi, kv_nb01, Nat.reduceAdd, Nat.reduceLeDiff]
theorem kw_KisKite (hK : kw_KK n z) {k : Nat} (hk : k < 2147483648) : kv_Rn d 138 0 [some (.ref 0), some (.int (Int32.ofNat k))] [] (kv_h e z zl) = some (some (.int (if k < n then 1 else 0)), kv_h e z zl) := by
  have h8 := hK.1.2
  simp only [kv_e138_0, kv_e138_1, kv_e138_4, kv_e138_5, kv_e138_6, kv_e138_9, kv_e138_12, kv_e138_15, kv_e138_16, kv_e138_19, kv_e138_20, kv_o10, not_false_eq_true, not_true, if_true, if_false, kv_then_s, kv_then_v, kv_then_n, List.cons_append, List.nil_append, kv_Ci, kv_Cr, kv_Cn, kv_Cu, kv_C0, kv_catc, kv_gCi, kv_gCl, kv_gCr, kv_nb0, kv_nb1, kv_nbi, kv_nb01, Nat.reduceAdd, Nat.reduceLeDiff, kw_n0 hk, kv_isF3, hK.1.1, kw_ln2 h8 hk]
  by_cases h : n ≤ k
  · simp only [h, show ¬ k < n from by omega, kv_o10, not_false_eq_true, not_true, if_true, if_false, kv_then_s, kv_then_v, kv_then_n, List.cons_append, List.nil_append, kv_Ci, kv_Cr, kv_Cn, kv_Cu, kv_C0, kv_catc, kv_gCi, kv_gCl, kv_gCr, kv_nb0, kv_nb1, kv_nbi, kv_nb01, Nat.reduceAdd, Nat.reduceLeDiff]
  · simp only [h, show k < n from by omega, kv_o10, not_false_eq_true, not_true, if_true, if_false, kv_then_s, kv_then_v, kv_then_n, List.cons_append, List.nil_append, kv_Ci, kv_Cr, kv_Cn, kv_Cu, kv_C0, kv_catc, kv_gCi, kv_gCl, kv_gCr, kv_nb0, kv_nb1, kv_nbi, kv_nb01, Nat.reduceAdd, Nat.reduceLeDiff]
theorem kw_KisKiteN {x : Int32} (hx : x < 0) : kv_Rn d 138 0 [some (.ref 0), some (.int x)] [] (kv_h e z zl) = some (some (.int 0), kv_h e z zl) := by
  simp only [kv_e138_0, kv_e138_1, kv_e138_4, kv_e138_5, kv_e138_6, kv_e138_9, kv_e138_12, kv_e138_15, kv_e138_16, kv_e138_19, kv_e138_20, kv_o10, not_false_eq_true, not_true, if_true, if_false, kv_then_s, kv_then_v, kv_then_n, List.cons_append, List.nil_append, kv_Ci, kv_Cr, kv_Cn, kv_Cu, kv_C0, kv_catc, kv_gCi, kv_gCl, kv_gCr, kv_nb0, kv_nb1, kv_nbi, kv_nb01, Nat.reduceAdd, Nat.reduceLeDiff, hx]
theorem kw_KfliesN {x : Int32} (hx : x < 0) : kv_Rn (d + 1) 139 0 [some (.ref 0), some (.int x)] [] (kv_h e z zl) = some (some (.int 0), kv_h e z zl) := by
  simp only [kv_e139_0, kv_e139_1, kv_e139_2, kv_e139_5, kv_e139_8, kv_e139_9, kv_e139_12, kv_e139_13, kv_e139_16, kv_e139_19, kv_e139_20, kv_e139_23, kv_e139_24, kv_o10, not_false_eq_true, not_true, if_true, if_false, kv_then_s, kv_then_v, kv_then_n, List.cons_append, List.nil_append, kv_Ci, kv_Cr, kv_Cn, kv_Cu, kv_C0, kv_catc, kv_gCi, kv_gCl, kv_gCr, kv_nb0, kv_nb1, kv_nbi, kv_nb01, Nat.reduceAdd, Nat.reduceLeDiff, kw_KisKiteN hx, eq_self]
theorem kw_Kflies (hK : kw_KK n z) {k : Nat} (hk : k < 2147483648) : kv_Rn (d + 2) 139 0 [some (.ref 0), some (.int (Int32.ofNat k))] [] (kv_h e z zl) = some (some (.int (if kc z 36 k 11 = 0 then 0 else 1)), kv_h e z zl) := by
  have h8 := hK.1.2
  by_cases h : k < n
  · simp only [kv_e139_0, kv_e139_1, kv_e139_2, kv_e139_5, kv_e139_8, kv_e139_9, kv_e139_12, kv_e139_13, kv_e139_16, kv_e139_19, kv_e139_20, kv_e139_23, kv_e139_24, kv_o10, not_false_eq_true, not_true, if_true, if_false, kv_then_s, kv_then_v, kv_then_n, List.cons_append, List.nil_append, kv_Ci, kv_Cr, kv_Cn, kv_Cu, kv_C0, kv_catc, kv_gCi, kv_gCl, kv_gCr, kv_nb0, kv_nb1, kv_nbi, kv_nb01, Nat.reduceAdd, Nat.reduceLeDiff, kw_KisKite hK hk, h, kv_isS36, kv_flies, kv_g11 z 36 (show k < 8 by omega), kv_i01]
    by_cases q : kc z 36 k 11 = 0 <;> simp only [q, kv_o10, not_false_eq_true, not_true, if_true, if_false, kv_then_s, kv_then_v, kv_then_n, List.cons_append, List.nil_append, kv_Ci, kv_Cr, kv_Cn, kv_Cu, kv_C0, kv_catc, kv_gCi, kv_gCl, kv_gCr, kv_nb0, kv_nb1, kv_nbi, kv_nb01, Nat.reduceAdd, Nat.reduceLeDiff]
  · simp only [kv_e139_0, kv_e139_1, kv_e139_2, kv_e139_5, kv_e139_8, kv_e139_9, kv_e139_12, kv_e139_13, kv_e139_16, kv_e139_19, kv_e139_20, kv_e139_23, kv_e139_24, kv_o10, not_false_eq_true, not_true, if_true, if_false, kv_then_s, kv_then_v, kv_then_n, List.cons_append, List.nil_append, kv_Ci, kv_Cr, kv_Cn, kv_Cu, kv_C0, kv_catc, kv_gCi, kv_gCl, kv_gCr, kv_nb0, kv_nb1, kv_nbi, kv_nb01, Nat.reduceAdd, Nat.reduceLeDiff, kw_KisKite hK hk, h, eq_self, (hK.2 k).2 (by omega)]
theorem kw_KareTwo (hK : kw_KK n z) {i j : Nat} (hi : i < 2147483648) (hj : j < 2147483648) : kv_Rn (d + 3) 140 0 [some (.ref 0), some (.int (Int32.ofNat i)), some (.int (Int32.ofNat j))] [] (kv_h e z zl) = some (some (.int (if ¬ kc z 36 i 11 = 0 ∧ ¬ kc z 36 j 11 = 0 ∧ ¬ i = j then 1 else 0)), kv_h e z zl) := by
  simp only [kv_e140_0, kv_e140_1, kv_e140_2, kv_e140_5, kv_e140_6, kv_e140_7, kv_e140_10, kv_e140_13, kv_e140_14, kv_e140_15, kv_e140_18, kv_e140_21, kv_e140_22, kv_e140_25, kv_e140_26, kv_o10, not_false_eq_true, not_true, if_true, if_false, kv_then_s, kv_then_v, kv_then_n, List.cons_append, List.nil_append, kv_Ci, kv_Cr, kv_Cn, kv_Cu, kv_C0, kv_catc, kv_gCi, kv_gCl, kv_gCr, kv_nb0, kv_nb1, kv_nbi, kv_nb01, Nat.reduceAdd, Nat.reduceLeDiff, kw_Kflies hK hi, kw_Kflies hK hj, kv_i01, kv_neq hi hj]
  by_cases c3 : i = j
  · simp only [c3, kv_o10, not_false_eq_true, not_true, if_true, if_false, kv_then_s, kv_then_v, kv_then_n, List.cons_append, List.nil_append, kv_Ci, kv_Cr, kv_Cn, kv_Cu, kv_C0, kv_catc, kv_gCi, kv_gCl, kv_gCr, kv_nb0, kv_nb1, kv_nbi, kv_nb01, Nat.reduceAdd, Nat.reduceLeDiff, and_false]
  · by_cases c1 : kc z 36 i 11 = 0
    · simp only [c1, c3, kv_o10, not_false_eq_true, not_true, if_true, if_false, kv_then_s, kv_then_v, kv_then_n, List.cons_append, List.nil_append, kv_Ci, kv_Cr, kv_Cn, kv_Cu, kv_C0, kv_catc, kv_gCi, kv_gCl, kv_gCr, kv_nb0, kv_nb1, kv_nbi, kv_nb01, Nat.reduceAdd, Nat.reduceLeDiff, false_and]
    · by_cases c2 : kc z 36 j 11 = 0
      · simp only [c1, c2, c3, kv_o10, not_false_eq_true, not_true, if_true, if_false, kv_then_s, kv_then_v, kv_then_n, List.cons_append, List.nil_append, kv_Ci, kv_Cr, kv_Cn, kv_Cu, kv_C0, kv_catc, kv_gCi, kv_gCl, kv_gCr, kv_nb0, kv_nb1, kv_nbi, kv_nb01, Nat.reduceAdd, Nat.reduceLeDiff, false_and, and_false]
      · simp only [c1, c2, c3, kv_o10, not_false_eq_true, not_true, if_true, if_false, kv_then_s, kv_then_v, kv_then_n, List.cons_append, List.nil_append, kv_Ci, kv_Cr, kv_Cn, kv_Cu, kv_C0, kv_catc, kv_gCi, kv_gCl, kv_gCr, kv_nb0, kv_nb1, kv_nbi, kv_nb01, Nat.reduceAdd, Nat.reduceLeDiff, and_self]
theorem kw_KareTwoN1 {x y : Int32} (hx : x < 0) : kv_Rn (d + 3) 140 0 [some (.ref 0), some (.int x), some (.int y)] [] (kv_h e z zl) = some (some (.int 0), kv_h e z zl) := by
  simp only [kv_e140_0, kv_e140_1, kv_e140_2, kv_e140_5, kv_e140_6, kv_e140_7, kv_e140_10, kv_e140_13, kv_e140_14, kv_e140_15, kv_e140_18, kv_e140_21, kv_e140_22, kv_e140_25, kv_e140_26, kv_o10, not_false_eq_true, not_true, if_true, if_false, kv_then_s, kv_then_v, kv_then_n, List.cons_append, List.nil_append, kv_Ci, kv_Cr, kv_Cn, kv_Cu, kv_C0, kv_catc, kv_gCi, kv_gCl, kv_gCr, kv_nb0, kv_nb1, kv_nbi, kv_nb01, Nat.reduceAdd, Nat.reduceLeDiff, kw_KfliesN hx, eq_self]
  by_cases c : x = y <;> simp only [c, kv_o10, not_false_eq_true, not_true, if_true, if_false, kv_then_s, kv_then_v, kv_then_n, List.cons_append, List.nil_append, kv_Ci, kv_Cr, kv_Cn, kv_Cu, kv_C0, kv_catc, kv_gCi, kv_gCl, kv_gCr, kv_nb0, kv_nb1, kv_nbi, kv_nb01, Nat.reduceAdd, Nat.reduceLeDiff]
theorem kw_KareTwoN2 (hK : kw_KK n z) {i : Nat} {y : Int32} (hi : i < 2147483648) (hy : y < 0) : kv_Rn (d + 3) 140 0 [some (.ref 0), some (.int (Int32.ofNat i)), some (.int y)] [] (kv_h e z zl) = some (some (.int 0), kv_h e z zl) := by
  simp only [kv_e140_0, kv_e140_1, kv_e140_2, kv_e140_5, kv_e140_6, kv_e140_7, kv_e140_10, kv_e140_13, kv_e140_14, kv_e140_15, kv_e140_18, kv_e140_21, kv_e140_22, kv_e140_25, kv_e140_26, kv_o10, not_false_eq_true, not_true, if_true, if_false, kv_then_s, kv_then_v, kv_then_n, List.cons_append, List.nil_append, kv_Ci, kv_Cr, kv_Cn, kv_Cu, kv_C0, kv_catc, kv_gCi, kv_gCl, kv_gCr, kv_nb0, kv_nb1, kv_nbi, kv_nb01, Nat.reduceAdd, Nat.reduceLeDiff, kw_Kflies hK hi, kw_KfliesN hy, kv_i01, eq_self]
  by_cases c : Int32.ofNat i = y
  · simp only [c, kv_o10, not_false_eq_true, not_true, if_true, if_false, kv_then_s, kv_then_v, kv_then_n, List.cons_append, List.nil_append, kv_Ci, kv_Cr, kv_Cn, kv_Cu, kv_C0, kv_catc, kv_gCi, kv_gCl, kv_gCr, kv_nb0, kv_nb1, kv_nbi, kv_nb01, Nat.reduceAdd, Nat.reduceLeDiff]
  · by_cases c2 : kc z 36 i 11 = 0 <;> simp only [c, c2, kv_o10, not_false_eq_true, not_true, if_true, if_false, kv_then_s, kv_then_v, kv_then_n, List.cons_append, List.nil_append, kv_Ci, kv_Cr, kv_Cn, kv_Cu, kv_C0, kv_catc, kv_gCi, kv_gCl, kv_gCr, kv_nb0, kv_nb1, kv_nbi, kv_nb01, Nat.reduceAdd, Nat.reduceLeDiff]
theorem kw_left : kv_Rn d 142 0 [some (.ref 0)] [] (kv_h e z zl) = some (some (.int (z 3 1 - z 36 3)), kv_h e z zl) := by
  simp only [kv_e142_0, kv_e142_1, kv_e142_4, kv_e142_7, kv_e142_8, kv_e142_11, kv_e142_14, kv_e142_15, kv_o10, not_false_eq_true, not_true, if_true, if_false, kv_then_s, kv_then_v, kv_then_n, List.cons_append, List.nil_append, kv_Ci, kv_Cr, kv_Cn, kv_Cu, kv_C0, kv_catc, kv_gCi, kv_gCl, kv_gCr, kv_nb0, kv_nb1, kv_nbi, kv_nb01, Nat.reduceAdd, Nat.reduceLeDiff, kv_isF3, kv_isS36]
def kw_hd (c : Nat → Nat → Int32) (p : Int32) : Bool := kv_fa 8 0 (fun k => decide (¬ c k 11 = 0 ∧ c k 0 = p))
theorem kw_KisFree (p : Int32) : kv_Rn (d + 3) 141 0 [some (.ref 0), some (.int p)] [] (kv_h e z zl) = some (some (.int (if 0 ≤ p ∧ p < z 3 0 ∧ kw_hd (kc z 36) p = false then 1 else 0)), kv_h e z zl) := by
  simp only [kv_e141_0, kv_e141_1, kv_e141_4, kv_e141_5, kv_e141_6, kv_e141_9, kv_e141_12, kv_e141_15, kv_e141_16, kv_e141_19, kv_e141_20, kv_e141_23, kv_e141_26, kv_e141_27, kv_e141_30, kv_e141_31, kv_o10, not_false_eq_true, not_true, if_true, if_false, kv_then_s, kv_then_v, kv_then_n, List.cons_append, List.nil_append, kv_Ci, kv_Cr, kv_Cn, kv_Cu, kv_C0, kv_catc, kv_gCi, kv_gCl, kv_gCr, kv_nb0, kv_nb1, kv_nbi, kv_nb01, Nat.reduceAdd, Nat.reduceLeDiff, kv_isF3, kv_isS36, kv_isHeld]
  unfold kw_hd
  by_cases c1 : p < 0
  · have c2 : ¬ 0 ≤ p := Int32.not_le.mpr c1
    simp only [c1, c2, false_and, kv_o10, not_false_eq_true, not_true, if_true, if_false, kv_then_s, kv_then_v, kv_then_n, List.cons_append, List.nil_append, kv_Ci, kv_Cr, kv_Cn, kv_Cu, kv_C0, kv_catc, kv_gCi, kv_gCl, kv_gCr, kv_nb0, kv_nb1, kv_nbi, kv_nb01, Nat.reduceAdd, Nat.reduceLeDiff]
  · have c2 : 0 ≤ p := Int32.not_lt.mp c1
    by_cases c3 : p < z 3 0
    · have c4 : ¬ z 3 0 ≤ p := Int32.not_le.mpr c3
      cases kv_fa 8 0 (fun k => decide (¬ kc z 36 k 11 = 0 ∧ kc z 36 k 0 = p)) <;> simp only [c1, c2, c3, c4, true_and, kv_o10, not_false_eq_true, not_true, if_true, if_false, kv_then_s, kv_then_v, kv_then_n, List.cons_append, List.nil_append, kv_Ci, kv_Cr, kv_Cn, kv_Cu, kv_C0, kv_catc, kv_gCi, kv_gCl, kv_gCr, kv_nb0, kv_nb1, kv_nbi, kv_nb01, Nat.reduceAdd, Nat.reduceLeDiff, Bool.false_eq_true, eq_self, show (true = false) = False from by decide, and_false]
    · have c4 : z 3 0 ≤ p := Int32.not_lt.mp c3
      simp only [c1, c2, c3, c4, false_and, and_false, kv_o10, not_false_eq_true, not_true, if_true, if_false, kv_then_s, kv_then_v, kv_then_n, List.cons_append, List.nil_append, kv_Ci, kv_Cr, kv_Cn, kv_Cu, kv_C0, kv_catc, kv_gCi, kv_gCl, kv_gCr, kv_nb0, kv_nb1, kv_nbi, kv_nb01, Nat.reduceAdd, Nat.reduceLeDiff]
abbrev kw_V : Type := (Nat → Nat → Int32) × (Nat → Int32) × Int32 × Int32 × Int32
def kw_vk (z : Nat → Nat → Int32) (a : Nat) : kw_V := (kc z a, fun i => if i < 40 then z (a + 2) i else 0, z a 2, z a 3, z a 4)
theorem kw_sc_fr (z : Nat → Nat → Int32) {a b c : Nat} (h1 : c ≠ a) (h2 : c ≠ a + 1) (h3 : c ≠ a + 2) : kv_sc z a b c = z c := by
  unfold kv_sc kv_f3 kv_cp1
  rw [kv_zne _ _ h1, kv_zne _ _ h1, kv_zne _ _ h1, kv_zne _ _ h3, kv_zne _ _ h2]
theorem kw_sc_1 (z : Nat → Nat → Int32) {a b : Nat} : kv_sc z a b (a + 1) = va_cpy (z (b + 1)) (z (a + 1)) 0 0 104 := by
  unfold kv_sc kv_f3 kv_cp1
  rw [kv_zne _ _ (by omega), kv_zne _ _ (by omega), kv_zne _ _ (by omega), kv_zne _ _ (by omega), kv_zs]
theorem kw_sc_2 (z : Nat → Nat → Int32) {a b : Nat} (h : a + 3 ≤ b ∨ b + 3 ≤ a) : kv_sc z a b (a + 2) = va_cpy (z (b + 2)) (z (a + 2)) 0 0 40 := by
  unfold kv_sc kv_f3 kv_cp1
  rw [kv_zne _ _ (by omega), kv_zne _ _ (by omega), kv_zne _ _ (by omega), kv_zs, kv_zne _ _ (show b + 2 ≠ a + 1 by omega), kv_zne _ _ (show a + 2 ≠ a + 1 by omega)]
theorem kw_sc_0 (z : Nat → Nat → Int32) {a b : Nat} (h : a + 3 ≤ b ∨ b + 3 ≤ a) : kv_sc z a b a = upd (upd (upd (z a) 2 (z b 2)) 3 (z b 3)) 4 (z b 4) := by
  unfold kv_sc kv_f3 kv_cp1
  simp only [kv_zs, kv_zne _ _ (show b ≠ a by omega), kv_zne _ _ (show b ≠ a + 1 by omega), kv_zne _ _ (show b ≠ a + 2 by omega), kv_zne _ _ (show a ≠ a + 1 by omega), kv_zne _ _ (show a ≠ a + 2 by omega)]
theorem kw_sc_kc (z : Nat → Nat → Int32) {a b : Nat} : kc (kv_sc z a b) a = kc z b := by
  funext k w
  unfold kc
  rw [kw_sc_1]
  by_cases h : k < 8 ∧ w < 13
  · rw [if_pos h, if_pos h]
    unfold va_cpy
    rw [if_pos (by omega)]
    congr 1
    omega
  · rw [if_neg h, if_neg h]
theorem kw_sc_vk (z : Nat → Nat → Int32) {a b : Nat} (h : a + 3 ≤ b ∨ b + 3 ≤ a) : kw_vk (kv_sc z a b) a = kw_vk z b := by
  unfold kw_vk
  rw [kw_sc_kc, kw_sc_2 z h, kw_sc_0 z h]
  refine Prod.ext rfl (Prod.ext ?_ rfl)
  funext i
  dsimp only
  by_cases h : i < 40
  · rw [if_pos h, if_pos h]
    unfold va_cpy
    rw [if_pos (by omega)]
    congr 1
    omega
  · rw [if_neg h, if_neg h]
end
