/-! cut -/
section
variable {d n B W : Nat} {e : List kv_E} {z zK zM zK' zM' : Nat → Nat → Int32} {zl zlM : Nat → Nat → Int64}
def kw_lw : Nat → Nat → (Nat → Bool) → Int32
  | 0, _, _ => -1
  | m + 1, k, p => if p k = true then Int32.ofNat k else kw_lw m (k + 1) p
theorem kw_lowestOf (s : Int32) {h : kv_H} : kv_Rn d 146 0 [some (.int s), none] [] h = some (some (.int (kw_lw 8 0 (kv_bt s))), h) := by
  have hl := kv_up (fun k => kv_Rn d 146 2 [some (.int s), some (.int (Int32.ofNat k))] [] h = some (some (.int (kw_lw (8 - k) k (kv_bt s))), h)) 8 ?_ ?_
  · simp only [kv_e146_0, kv_e146_1, kv_o10, not_false_eq_true, not_true, if_true, if_false, kv_then_s, kv_then_v, kv_then_n, List.cons_append, List.nil_append, kv_Ci, kv_Cr, kv_Cn, kv_Cu, kv_C0, kv_catc, kv_gCi, kv_gCl, kv_gCr, kv_nb0, kv_nb1, kv_nbi, kv_nb01, Nat.reduceAdd, Nat.reduceLeDiff]
    exact hl
  · rw [kv_e146_2]
    simp only [kv_e146_0, kv_e146_1, kv_e146_3, kv_e146_5, kv_e146_8, kv_e146_9, kv_e146_10, kv_e146_11, kv_e146_12, kv_e146_13, kv_e146_16, kv_e146_17, kv_e146_18, kv_e146_21, kv_e146_24, kv_e146_25, kv_o10, not_false_eq_true, not_true, if_true, if_false, kv_then_s, kv_then_v, kv_then_n, List.cons_append, List.nil_append, kv_Ci, kv_Cr, kv_Cn, kv_Cu, kv_C0, kv_catc, kv_gCi, kv_gCl, kv_gCr, kv_nb0, kv_nb1, kv_nbi, kv_nb01, Nat.reduceAdd, Nat.reduceLeDiff, kv_le88]
    rfl
  · intro k hk ih
    have e : kw_lw (8 - k) k (kv_bt s) = if kv_bt s k = true then Int32.ofNat k else kw_lw (8 - (k + 1)) (k + 1) (kv_bt s) := by
      rw [show 8 - k = (8 - (k + 1)) + 1 from by omega]
      rfl
    rw [e]
    rw [kv_e146_2]
    unfold kv_bt at ih ⊢
    by_cases c : (s >>> (Int32.ofNat k &&& 31)) &&& 1 = 0
    · simp only [kv_e146_0, kv_e146_1, kv_e146_3, kv_e146_5, kv_e146_8, kv_e146_9, kv_e146_10, kv_e146_11, kv_e146_12, kv_e146_13, kv_e146_16, kv_e146_17, kv_e146_18, kv_e146_21, kv_e146_24, kv_e146_25, kv_o10, not_false_eq_true, not_true, if_true, if_false, kv_then_s, kv_then_v, kv_then_n, List.cons_append, List.nil_append, kv_Ci, kv_Cr, kv_Cn, kv_Cu, kv_C0, kv_catc, kv_gCi, kv_gCl, kv_gCr, kv_nb0, kv_nb1, kv_nbi, kv_nb01, Nat.reduceAdd, Nat.reduceLeDiff, kv_le8 hk, c, eq_self, decide_false, Bool.false_eq_true, kv_suc]
      exact ih
    · simp only [kv_e146_0, kv_e146_1, kv_e146_3, kv_e146_5, kv_e146_8, kv_e146_9, kv_e146_10, kv_e146_11, kv_e146_12, kv_e146_13, kv_e146_16, kv_e146_17, kv_e146_18, kv_e146_21, kv_e146_24, kv_e146_25, kv_o10, not_false_eq_true, not_true, if_true, if_false, kv_then_s, kv_then_v, kv_then_n, List.cons_append, List.nil_append, kv_Ci, kv_Cr, kv_Cn, kv_Cu, kv_C0, kv_catc, kv_gCi, kv_gCl, kv_gCr, kv_nb0, kv_nb1, kv_nbi, kv_nb01, Nat.reduceAdd, Nat.reduceLeDiff, kv_le8 hk, c, decide_true]
def kw_zs (c s : Int32) (q : Int32 × Int32) : Int32 × Int32 := if q.2 ≤ c then q else (q.1 + s, kv_sr q.2 s)
def kw_tz (x : Int32) : Int32 :=
  let i := (x ^^^ -1) &&& (x - 1)
  if i ≤ 0 then i &&& 32 else
    let q := kw_zs 4 2 (kw_zs 16 4 (kw_zs 256 8 (kw_zs 65536 16 (1, i))))
    q.1 + kv_sr q.2 1
theorem kw_ntz (x : Int32) {h : kv_H} : kv_Rn d 271 0 [some (.int x), none] [] h = some (some (.int (kw_tz x)), h) := by
  have t4 : ∀ m i : Int32, kv_Rn d 271 74 [some (.int i), some (.int m)] [] h = some (some (.int (m + kv_sr i 1)), h) := by
    intro m i
    simp only [kv_e271_74, kv_e271_75, kv_e271_76, kv_e271_77, kv_e271_78, kv_e271_79, kv_o10, not_false_eq_true, not_true, if_true, if_false, kv_then_s, kv_then_v, kv_then_n, List.cons_append, List.nil_append, kv_Ci, kv_Cr, kv_Cn, kv_Cu, kv_C0, kv_catc, kv_gCi, kv_gCl, kv_gCr, kv_nb0, kv_nb1, kv_nbi, kv_nb01, Nat.reduceAdd, Nat.reduceLeDiff]
  have t3 : ∀ m i : Int32, kv_Rn d 271 62 [some (.int i), some (.int m)] [] h = some (some (.int ((kw_zs 4 2 (m, i)).1 + kv_sr (kw_zs 4 2 (m, i)).2 1)), h) := by
    intro m i
    unfold kw_zs
    by_cases c : i ≤ 4
    · simp only [kv_e271_62, kv_e271_63, kv_e271_64, kv_o10, not_false_eq_true, not_true, if_true, if_false, kv_then_s, kv_then_v, kv_then_n, List.cons_append, List.nil_append, kv_Ci, kv_Cr, kv_Cn, kv_Cu, kv_C0, kv_catc, kv_gCi, kv_gCl, kv_gCr, kv_nb0, kv_nb1, kv_nbi, kv_nb01, Nat.reduceAdd, Nat.reduceLeDiff, c, t4]
    · simp only [kv_e271_62, kv_e271_63, kv_e271_64, kv_e271_67, kv_e271_70, kv_e271_71, kv_e271_72, kv_e271_73, kv_o10, not_false_eq_true, not_true, if_true, if_false, kv_then_s, kv_then_v, kv_then_n, List.cons_append, List.nil_append, kv_Ci, kv_Cr, kv_Cn, kv_Cu, kv_C0, kv_catc, kv_gCi, kv_gCl, kv_gCr, kv_nb0, kv_nb1, kv_nbi, kv_nb01, Nat.reduceAdd, Nat.reduceLeDiff, c, t4]
  have t2 : ∀ m i : Int32, kv_Rn d 271 49 [some (.int i), some (.int m)] [] h = some (some (.int ((kw_zs 4 2 (kw_zs 16 4 (m, i))).1 + kv_sr (kw_zs 4 2 (kw_zs 16 4 (m, i))).2 1)), h) := by
    intro m i
    have e : kw_zs 16 4 (m, i) = if i ≤ 16 then (m, i) else (m + 4, kv_sr i 4) := rfl
    rw [e]
    by_cases c : i ≤ 16
    · simp only [kv_e271_49, kv_e271_50, kv_e271_52, kv_o10, not_false_eq_true, not_true, if_true, if_false, kv_then_s, kv_then_v, kv_then_n, List.cons_append, List.nil_append, kv_Ci, kv_Cr, kv_Cn, kv_Cu, kv_C0, kv_catc, kv_gCi, kv_gCl, kv_gCr, kv_nb0, kv_nb1, kv_nbi, kv_nb01, Nat.reduceAdd, Nat.reduceLeDiff, c, t3]
    · simp only [kv_e271_49, kv_e271_50, kv_e271_52, kv_e271_55, kv_e271_58, kv_e271_59, kv_e271_60, kv_e271_61, kv_o10, not_false_eq_true, not_true, if_true, if_false, kv_then_s, kv_then_v, kv_then_n, List.cons_append, List.nil_append, kv_Ci, kv_Cr, kv_Cn, kv_Cu, kv_C0, kv_catc, kv_gCi, kv_gCl, kv_gCr, kv_nb0, kv_nb1, kv_nbi, kv_nb01, Nat.reduceAdd, Nat.reduceLeDiff, c, t3]
  have t1 : ∀ m i : Int32, kv_Rn d 271 34 [some (.int i), some (.int m)] [] h = some (some (.int ((kw_zs 4 2 (kw_zs 16 4 (kw_zs 256 8 (m, i)))).1 + kv_sr (kw_zs 4 2 (kw_zs 16 4 (kw_zs 256 8 (m, i)))).2 1)), h) := by
    intro m i
    have e : kw_zs 256 8 (m, i) = if i ≤ 256 then (m, i) else (m + 8, kv_sr i 8) := rfl
    rw [e]
    by_cases c : i ≤ 256
    · simp only [kv_e271_34, kv_e271_35, kv_e271_38, kv_o10, not_false_eq_true, not_true, if_true, if_false, kv_then_s, kv_then_v, kv_then_n, List.cons_append, List.nil_append, kv_Ci, kv_Cr, kv_Cn, kv_Cu, kv_C0, kv_catc, kv_gCi, kv_gCl, kv_gCr, kv_nb0, kv_nb1, kv_nbi, kv_nb01, Nat.reduceAdd, Nat.reduceLeDiff, c, t2]
    · simp only [kv_e271_34, kv_e271_35, kv_e271_38, kv_e271_41, kv_e271_44, kv_e271_45, kv_e271_47, kv_e271_48, kv_o10, not_false_eq_true, not_true, if_true, if_false, kv_then_s, kv_then_v, kv_then_n, List.cons_append, List.nil_append, kv_Ci, kv_Cr, kv_Cn, kv_Cu, kv_C0, kv_catc, kv_gCi, kv_gCl, kv_gCr, kv_nb0, kv_nb1, kv_nbi, kv_nb01, Nat.reduceAdd, Nat.reduceLeDiff, c, t2]
  have t0 : ∀ m i : Int32, kv_Rn d 271 19 [some (.int i), some (.int m)] [] h = some (some (.int ((kw_zs 4 2 (kw_zs 16 4 (kw_zs 256 8 (kw_zs 65536 16 (m, i))))).1 + kv_sr (kw_zs 4 2 (kw_zs 16 4 (kw_zs 256 8 (kw_zs 65536 16 (m, i))))).2 1)), h) := by
    intro m i
    have e : kw_zs 65536 16 (m, i) = if i ≤ 65536 then (m, i) else (m + 16, kv_sr i 16) := rfl
    rw [e]
    by_cases c : i ≤ 65536
    · simp only [kv_e271_19, kv_e271_20, kv_e271_23, kv_o10, not_false_eq_true, not_true, if_true, if_false, kv_then_s, kv_then_v, kv_then_n, List.cons_append, List.nil_append, kv_Ci, kv_Cr, kv_Cn, kv_Cu, kv_C0, kv_catc, kv_gCi, kv_gCl, kv_gCr, kv_nb0, kv_nb1, kv_nbi, kv_nb01, Nat.reduceAdd, Nat.reduceLeDiff, c, t1]
    · simp only [kv_e271_19, kv_e271_20, kv_e271_23, kv_e271_26, kv_e271_29, kv_e271_30, kv_e271_32, kv_e271_33, kv_o10, not_false_eq_true, not_true, if_true, if_false, kv_then_s, kv_then_v, kv_then_n, List.cons_append, List.nil_append, kv_Ci, kv_Cr, kv_Cn, kv_Cu, kv_C0, kv_catc, kv_gCi, kv_gCl, kv_gCr, kv_nb0, kv_nb1, kv_nbi, kv_nb01, Nat.reduceAdd, Nat.reduceLeDiff, c, t1]
  unfold kw_tz
  by_cases c : (x ^^^ -1) &&& (x - 1) ≤ 0
  · have c' : ¬ 0 < (x ^^^ -1) &&& (x - 1) := Int32.not_lt.mpr c
    simp only [kv_e271_0, kv_e271_1, kv_e271_2, kv_e271_3, kv_e271_4, kv_e271_5, kv_e271_6, kv_e271_7, kv_e271_8, kv_e271_9, kv_e271_12, kv_e271_13, kv_e271_15, kv_e271_16, kv_o10, not_false_eq_true, not_true, if_true, if_false, kv_then_s, kv_then_v, kv_then_n, List.cons_append, List.nil_append, kv_Ci, kv_Cr, kv_Cn, kv_Cu, kv_C0, kv_catc, kv_gCi, kv_gCl, kv_gCr, kv_nb0, kv_nb1, kv_nbi, kv_nb01, Nat.reduceAdd, Nat.reduceLeDiff, c, c']
  · have c' : 0 < (x ^^^ -1) &&& (x - 1) := Int32.not_le.mp c
    simp only [kv_e271_0, kv_e271_1, kv_e271_2, kv_e271_3, kv_e271_4, kv_e271_5, kv_e271_6, kv_e271_7, kv_e271_8, kv_e271_9, kv_e271_17, kv_e271_18, kv_o10, not_false_eq_true, not_true, if_true, if_false, kv_then_s, kv_then_v, kv_then_n, List.cons_append, List.nil_append, kv_Ci, kv_Cr, kv_Cn, kv_Cu, kv_C0, kv_catc, kv_gCi, kv_gCl, kv_gCr, kv_nb0, kv_nb1, kv_nbi, kv_nb01, Nat.reduceAdd, Nat.reduceLeDiff, c, c', t0]
theorem kw_lst (p : Nat → Bool) : ∀ i, i < 8 → ((List.range 8).map p).getD i false = p i := by
  intro i hi
  simp [List.getD_eq_getElem?_getD, List.getElem?_map, List.getElem?_range, hi]
theorem kw_lw_congr {p q : Nat → Bool} : ∀ (m k : Nat), (∀ i, k ≤ i → i < k + m → p i = q i) → kw_lw m k p = kw_lw m k q := by
  intro m
  induction m with
  | zero => intro k _; rfl
  | succ m ih =>
    intro k h
    show (if p k = true then Int32.ofNat k else kw_lw m (k + 1) p) = (if q k = true then Int32.ofNat k else kw_lw m (k + 1) q)
    rw [h k (by omega) (by omega), ih (k + 1) (fun i h1 h2 => h i (by omega) (by omega))]
theorem kw_tz_lw (p : Nat → Bool) (h : ¬ kv_bs 8 p = 0) : kw_tz (kv_bs 8 p) = kw_lw 8 0 p := by
  have all : ∀ b0 b1 b2 b3 b4 b5 b6 b7 : Bool, ¬ kv_bs 8 (fun i => [b0, b1, b2, b3, b4, b5, b6, b7].getD i false) = 0 → kw_tz (kv_bs 8 (fun i => [b0, b1, b2, b3, b4, b5, b6, b7].getD i false)) = kw_lw 8 0 (fun i => [b0, b1, b2, b3, b4, b5, b6, b7].getD i false) := by decide +kernel
  have key : ∀ q : List Bool, q.length = 8 → ¬ kv_bs 8 (fun i => q.getD i false) = 0 → kw_tz (kv_bs 8 (fun i => q.getD i false)) = kw_lw 8 0 (fun i => q.getD i false) := by
    intro q hq
    match q, hq with
    | [b0, b1, b2, b3, b4, b5, b6, b7], _ => exact all b0 b1 b2 b3 b4 b5 b6 b7
  have h1 := key ((List.range 8).map p) (by simp)
  rw [kw_bs_congr (p := fun i => ((List.range 8).map p).getD i false) (q := p) (kw_lst p), kw_lw_congr (p := fun i => ((List.range 8).map p).getD i false) (q := p) 8 0 (fun i _ hi => kw_lst p i (by omega))] at h1
  exact h1 h
theorem kw_dist (a b m : Int32) : (a ||| b) &&& m = (a &&& m) ||| (b &&& m) := by
  apply Int32.toBitVec.inj
  show (a.toBitVec ||| b.toBitVec) &&& m.toBitVec = (a.toBitVec &&& m.toBitVec) ||| (b.toBitVec &&& m.toBitVec)
  ext i
  simp [Bool.and_or_distrib_right]
theorem kw_bit_not (q : Nat → Bool) {k : Nat} (hk : k < 8) : ((1 : Int32) <<< (Int32.ofNat k &&& 31)) &&& (kv_bs 8 q ^^^ -1) = if q k = true then 0 else (1 : Int32) <<< (Int32.ofNat k &&& 31) := by
  have all : ∀ b0 b1 b2 b3 b4 b5 b6 b7 : Bool, ∀ k, k < 8 → ((1 : Int32) <<< (Int32.ofNat k &&& 31)) &&& (kv_bs 8 (fun i => [b0, b1, b2, b3, b4, b5, b6, b7].getD i false) ^^^ -1) = if [b0, b1, b2, b3, b4, b5, b6, b7].getD k false = true then 0 else (1 : Int32) <<< (Int32.ofNat k &&& 31) := by decide +kernel
  have key : ∀ q : List Bool, q.length = 8 → ∀ k, k < 8 → ((1 : Int32) <<< (Int32.ofNat k &&& 31)) &&& (kv_bs 8 (fun i => q.getD i false) ^^^ -1) = if q.getD k false = true then 0 else (1 : Int32) <<< (Int32.ofNat k &&& 31) := by
    intro q hq
    match q, hq with
    | [b0, b1, b2, b3, b4, b5, b6, b7], _ => exact all b0 b1 b2 b3 b4 b5 b6 b7
  have h1 := key ((List.range 8).map q) (by simp) k hk
  rw [kw_bs_congr (p := fun i => ((List.range 8).map q).getD i false) (q := q) (kw_lst q), kw_lst q k hk] at h1
  exact h1
theorem kw_bs_not (p q : Nat → Bool) : ∀ n, n ≤ 8 → kv_bs n p &&& (kv_bs 8 q ^^^ -1) = kv_bs n (fun k => p k && !q k) := by
  intro n
  induction n with
  | zero => intro _; exact Int32.zero_and
  | succ n ih =>
    intro hn
    rw [kv_bs_s n p, kv_bs_s n (fun k => p k && !q k), ← ih (by omega)]
    cases hp : p n
    · simp only [Bool.false_eq_true, if_false, Bool.false_and]
    · simp only [if_true, Bool.true_and, kw_dist, kw_bit_not q (show n < 8 by omega)]
      cases hq : q n
      · simp only [Bool.false_eq_true, if_false, Bool.not_false, if_true]
      · simp only [if_true, Bool.not_true, Bool.false_eq_true, if_false, Int32.or_zero]
theorem kw_fs_cb (c c' : Nat → Nat → Int32) : kw_fs c &&& (kw_fs c' ^^^ -1) = kw_cb c c' 8 := by
  unfold kw_fs kw_cb
  rw [kw_bs_not _ _ 8 (by omega)]
  refine kw_bs_congr (fun k _ => ?_)
  by_cases h1 : c k 11 = 0 <;> by_cases h2 : c' k 11 = 0 <;> simp [h1, h2]
end
