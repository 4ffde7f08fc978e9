/-! the model: cells, who flies, feet -/
section
variable {d n : Nat} {z : Nat → Nat → Int32} {zl : Nat → Nat → Int64}
def kw_sg : Nat → Nat
  | 3 => 8
  | 4 => 3
  | 5 => 4
  | 6 => 5
  | 7 => 6
  | 8 => 7
  | w => w
def km (z : Nat → Nat → Int32) (k w : Nat) : Int32 := if k < 8 ∧ w < 13 then z 16 (13 * k + kw_sg w) else 0
theorem kw_sg_inj {v w : Nat} (hv : v < 13) (hw : w < 13) (h : kw_sg v = kw_sg w) : v = w := by
  have : ∀ v, v < 13 → ∀ w, w < 13 → kw_sg v = kw_sg w → v = w := by decide
  exact this v hv w hw h
theorem kw_sg_lt {w : Nat} (hw : w < 13) : kw_sg w < 13 := by
  have : ∀ w, w < 13 → kw_sg w < 13 := by decide
  exact this w hw
def kw_mu (z : Nat → Nat → Int32) (k w : Nat) (v : Int32) : Nat → Nat → Int32 := kv_z z 16 (upd (z 16) (13 * k + kw_sg w) v)
theorem kw_mu_km (z : Nat → Nat → Int32) {k w : Nat} {v : Int32} (hk : k < 8) (hw : w < 13) : km (kw_mu z k w v) = kv_pt (km z) k w v := by
  funext k' w'
  unfold km kv_pt kw_mu
  dsimp only
  rw [kv_zs]
  have s1 := kw_sg_lt hw
  by_cases h : k' < 8 ∧ w' < 13
  · have s2 := kw_sg_lt h.2
    rw [if_pos h, if_pos h]
    unfold upd
    by_cases h2 : k' = k ∧ w' = w
    · rw [if_pos h2, h2.1, h2.2, if_pos rfl]
    · rw [if_neg h2]
      refine if_neg (fun q => h2 ?_)
      have q2 : k' = k := by omega
      exact ⟨q2, kw_sg_inj h.2 hw (by omega)⟩
  · rw [if_neg h, if_neg h, if_neg (by omega)]
theorem kw_mu_fr (z : Nat → Nat → Int32) (k w : Nat) (v : Int32) {c : Nat} (h : c ≠ 16) : kw_mu z k w v c = z c := kv_zne _ _ h
theorem kw_in (x lo hi : Int32) {h : kv_H} : kv_Rn d 149 0 [some (.int x), some (.int lo), some (.int hi)] [] h = some (some (.int (if lo ≤ x ∧ x ≤ hi then 1 else 0)), h) := by
  simp only [kv_e149_0, kv_e149_1, kv_e149_2, kv_e149_5, kv_e149_6, kv_e149_7, kv_e149_10, kv_e149_11, kv_e149_14, kv_e149_15, kv_o10, not_false_eq_true, not_true, if_true, if_false, kv_then_s, kv_then_v, kv_then_n, List.cons_append, List.nil_append, kv_Ci, kv_Cr, kv_Cn, kv_Cu, kv_C0, kv_catc, kv_gCi, kv_gCl, kv_gCr, kv_nb0, kv_nb1, kv_nbi, kv_nb01, Nat.reduceAdd, Nat.reduceLeDiff]
  by_cases c1 : lo ≤ x
  · have c2 : ¬ x < lo := Int32.not_lt.mpr c1
    by_cases c3 : x ≤ hi
    · have c4 : ¬ hi < x := Int32.not_lt.mpr c3
      simp only [c1, c2, c3, c4, and_self, if_true, if_false]
    · have c4 : hi < x := Int32.not_le.mp c3
      simp only [c1, c2, c3, c4, and_false, if_true, if_false]
  · have c2 : x < lo := Int32.not_le.mp c1
    simp only [c1, c2, false_and, if_true, if_false]
theorem kw_13 (k W : Nat) : (13 : Int32) * Int32.ofNat k + Int32.ofNat W = Int32.ofNat (13 * k + W) := by
  rw [show (13 : Int32) = Int32.ofNat 13 from rfl, ← Int32.ofNat_mul, ← Int32.ofNat_add]
theorem kw_of {k W w : Nat} {x : Int32} (hk : k < 8) (hw : w < 13) (hs : kw_sg w = W) (hx : Int32.ofNat W = x) : kv_Rn d 193 0 [some (.ref 0), some (.int (Int32.ofNat k)), some (.int x)] [] (kv_m z zl) = some (some (.int (km z k w)), kv_m z zl) := by
  subst hx hs
  have s1 := kw_sg_lt hw
  have h1 : 13 * k + kw_sg w < 2147483648 := by omega
  simp only [kv_e193_0, kv_e193_1, kv_e193_4, kv_e193_6, kv_e193_7, kv_e193_8, kv_e193_9, kv_e193_10, kv_e193_11, kv_o10, not_false_eq_true, not_true, if_true, if_false, kv_then_s, kv_then_v, kv_then_n, List.cons_append, List.nil_append, kv_Ci, kv_Cr, kv_Cn, kv_Cu, kv_C0, kv_catc, kv_gCi, kv_gCl, kv_gCr, kv_nb0, kv_nb1, kv_nbi, kv_nb01, Nat.reduceAdd, Nat.reduceLeDiff, kw_13, kv_ar_lt (show 16 < 300 by omega), kv_rd_lt (show 16 < 300 by omega), kv_am16, kw_n0 h1, kv_tn h1, kv_lN (show 13 * k + kw_sg w < 147 by omega), or_self]
  unfold km
  rw [if_pos ⟨hk, hw⟩]
theorem kw_put {k W w : Nat} {x v : Int32} (hk : k < 8) (hw : w < 13) (hs : kw_sg w = W) (hx : Int32.ofNat W = x) : kv_Rn d 194 0 [some (.ref 0), some (.int (Int32.ofNat k)), some (.int x), some (.int v)] [] (kv_m z zl) = some (none, kv_m (kw_mu z k w v) zl) := by
  subst hx hs
  have s1 := kw_sg_lt hw
  have h1 : 13 * k + kw_sg w < 2147483648 := by omega
  simp only [kv_e194_0, kv_e194_1, kv_e194_4, kv_e194_6, kv_e194_7, kv_e194_8, kv_e194_9, kv_e194_10, kv_e194_11, kv_e194_12, kv_o10, not_false_eq_true, not_true, if_true, if_false, kv_then_s, kv_then_v, kv_then_n, List.cons_append, List.nil_append, kv_Ci, kv_Cr, kv_Cn, kv_Cu, kv_C0, kv_catc, kv_gCi, kv_gCl, kv_gCr, kv_nb0, kv_nb1, kv_nbi, kv_nb01, Nat.reduceAdd, Nat.reduceLeDiff, kw_13, kv_am16, kw_n0 h1, kv_tn h1, kv_lN (show 13 * k + kw_sg w < 147 by omega), or_self]
  rfl
theorem kw_of0 {k : Nat} (hk : k < 8) : kv_Rn d 193 0 [some (.ref 0), some (.int (Int32.ofNat k)), some (.int 0)] [] (kv_m z zl) = some (some (.int (km z k 0)), kv_m z zl) := kw_of hk (by omega) rfl rfl
theorem kw_put0 {k : Nat} {v : Int32} (hk : k < 8) : kv_Rn d 194 0 [some (.ref 0), some (.int (Int32.ofNat k)), some (.int 0), some (.int v)] [] (kv_m z zl) = some (none, kv_m (kw_mu z k 0 v) zl) := kw_put hk (by omega) rfl rfl
theorem kw_of1 {k : Nat} (hk : k < 8) : kv_Rn d 193 0 [some (.ref 0), some (.int (Int32.ofNat k)), some (.int 1)] [] (kv_m z zl) = some (some (.int (km z k 1)), kv_m z zl) := kw_of hk (by omega) rfl rfl
theorem kw_put1 {k : Nat} {v : Int32} (hk : k < 8) : kv_Rn d 194 0 [some (.ref 0), some (.int (Int32.ofNat k)), some (.int 1), some (.int v)] [] (kv_m z zl) = some (none, kv_m (kw_mu z k 1 v) zl) := kw_put hk (by omega) rfl rfl
theorem kw_of2 {k : Nat} (hk : k < 8) : kv_Rn d 193 0 [some (.ref 0), some (.int (Int32.ofNat k)), some (.int 2)] [] (kv_m z zl) = some (some (.int (km z k 2)), kv_m z zl) := kw_of hk (by omega) rfl rfl
theorem kw_put2 {k : Nat} {v : Int32} (hk : k < 8) : kv_Rn d 194 0 [some (.ref 0), some (.int (Int32.ofNat k)), some (.int 2), some (.int v)] [] (kv_m z zl) = some (none, kv_m (kw_mu z k 2 v) zl) := kw_put hk (by omega) rfl rfl
theorem kw_of3 {k : Nat} (hk : k < 8) : kv_Rn d 193 0 [some (.ref 0), some (.int (Int32.ofNat k)), some (.int 3)] [] (kv_m z zl) = some (some (.int (km z k 4)), kv_m z zl) := kw_of hk (by omega) rfl rfl
theorem kw_put3 {k : Nat} {v : Int32} (hk : k < 8) : kv_Rn d 194 0 [some (.ref 0), some (.int (Int32.ofNat k)), some (.int 3), some (.int v)] [] (kv_m z zl) = some (none, kv_m (kw_mu z k 4 v) zl) := kw_put hk (by omega) rfl rfl
theorem kw_of4 {k : Nat} (hk : k < 8) : kv_Rn d 193 0 [some (.ref 0), some (.int (Int32.ofNat k)), some (.int 4)] [] (kv_m z zl) = some (some (.int (km z k 5)), kv_m z zl) := kw_of hk (by omega) rfl rfl
theorem kw_put4 {k : Nat} {v : Int32} (hk : k < 8) : kv_Rn d 194 0 [some (.ref 0), some (.int (Int32.ofNat k)), some (.int 4), some (.int v)] [] (kv_m z zl) = some (none, kv_m (kw_mu z k 5 v) zl) := kw_put hk (by omega) rfl rfl
theorem kw_of5 {k : Nat} (hk : k < 8) : kv_Rn d 193 0 [some (.ref 0), some (.int (Int32.ofNat k)), some (.int 5)] [] (kv_m z zl) = some (some (.int (km z k 6)), kv_m z zl) := kw_of hk (by omega) rfl rfl
theorem kw_put5 {k : Nat} {v : Int32} (hk : k < 8) : kv_Rn d 194 0 [some (.ref 0), some (.int (Int32.ofNat k)), some (.int 5), some (.int v)] [] (kv_m z zl) = some (none, kv_m (kw_mu z k 6 v) zl) := kw_put hk (by omega) rfl rfl
theorem kw_of6 {k : Nat} (hk : k < 8) : kv_Rn d 193 0 [some (.ref 0), some (.int (Int32.ofNat k)), some (.int 6)] [] (kv_m z zl) = some (some (.int (km z k 7)), kv_m z zl) := kw_of hk (by omega) rfl rfl
theorem kw_put6 {k : Nat} {v : Int32} (hk : k < 8) : kv_Rn d 194 0 [some (.ref 0), some (.int (Int32.ofNat k)), some (.int 6), some (.int v)] [] (kv_m z zl) = some (none, kv_m (kw_mu z k 7 v) zl) := kw_put hk (by omega) rfl rfl
theorem kw_of7 {k : Nat} (hk : k < 8) : kv_Rn d 193 0 [some (.ref 0), some (.int (Int32.ofNat k)), some (.int 7)] [] (kv_m z zl) = some (some (.int (km z k 8)), kv_m z zl) := kw_of hk (by omega) rfl rfl
theorem kw_put7 {k : Nat} {v : Int32} (hk : k < 8) : kv_Rn d 194 0 [some (.ref 0), some (.int (Int32.ofNat k)), some (.int 7), some (.int v)] [] (kv_m z zl) = some (none, kv_m (kw_mu z k 8 v) zl) := kw_put hk (by omega) rfl rfl
theorem kw_of8 {k : Nat} (hk : k < 8) : kv_Rn d 193 0 [some (.ref 0), some (.int (Int32.ofNat k)), some (.int 8)] [] (kv_m z zl) = some (some (.int (km z k 3)), kv_m z zl) := kw_of hk (by omega) rfl rfl
theorem kw_put8 {k : Nat} {v : Int32} (hk : k < 8) : kv_Rn d 194 0 [some (.ref 0), some (.int (Int32.ofNat k)), some (.int 8), some (.int v)] [] (kv_m z zl) = some (none, kv_m (kw_mu z k 3 v) zl) := kw_put hk (by omega) rfl rfl
theorem kw_of9 {k : Nat} (hk : k < 8) : kv_Rn d 193 0 [some (.ref 0), some (.int (Int32.ofNat k)), some (.int 9)] [] (kv_m z zl) = some (some (.int (km z k 9)), kv_m z zl) := kw_of hk (by omega) rfl rfl
theorem kw_put9 {k : Nat} {v : Int32} (hk : k < 8) : kv_Rn d 194 0 [some (.ref 0), some (.int (Int32.ofNat k)), some (.int 9), some (.int v)] [] (kv_m z zl) = some (none, kv_m (kw_mu z k 9 v) zl) := kw_put hk (by omega) rfl rfl
theorem kw_of10 {k : Nat} (hk : k < 8) : kv_Rn d 193 0 [some (.ref 0), some (.int (Int32.ofNat k)), some (.int 10)] [] (kv_m z zl) = some (some (.int (km z k 10)), kv_m z zl) := kw_of hk (by omega) rfl rfl
theorem kw_put10 {k : Nat} {v : Int32} (hk : k < 8) : kv_Rn d 194 0 [some (.ref 0), some (.int (Int32.ofNat k)), some (.int 10), some (.int v)] [] (kv_m z zl) = some (none, kv_m (kw_mu z k 10 v) zl) := kw_put hk (by omega) rfl rfl
theorem kw_of11 {k : Nat} (hk : k < 8) : kv_Rn d 193 0 [some (.ref 0), some (.int (Int32.ofNat k)), some (.int 11)] [] (kv_m z zl) = some (some (.int (km z k 11)), kv_m z zl) := kw_of hk (by omega) rfl rfl
theorem kw_put11 {k : Nat} {v : Int32} (hk : k < 8) : kv_Rn d 194 0 [some (.ref 0), some (.int (Int32.ofNat k)), some (.int 11), some (.int v)] [] (kv_m z zl) = some (none, kv_m (kw_mu z k 11 v) zl) := kw_put hk (by omega) rfl rfl
theorem kw_of12 {k : Nat} (hk : k < 8) : kv_Rn d 193 0 [some (.ref 0), some (.int (Int32.ofNat k)), some (.int 12)] [] (kv_m z zl) = some (some (.int (km z k 12)), kv_m z zl) := kw_of hk (by omega) rfl rfl
theorem kw_put12 {k : Nat} {v : Int32} (hk : k < 8) : kv_Rn d 194 0 [some (.ref 0), some (.int (Int32.ofNat k)), some (.int 12), some (.int v)] [] (kv_m z zl) = some (none, kv_m (kw_mu z k 12 v) zl) := kw_put hk (by omega) rfl rfl
def kw_01 (n : Nat) (c : Nat → Nat → Int32) : Prop := ∀ k, (c k 11 = 0 ∨ c k 11 = 1) ∧ (n ≤ k → c k 11 = 0)
def kw_K (n : Nat) (z : Nat → Nat → Int32) : Prop := (z 0 24 = Int32.ofNat n ∧ n ≤ 8) ∧ kw_01 n (km z)
theorem kw_isKite (hK : kw_K n z) {k : Nat} (hk : k < 2147483648) : kv_Rn (d + 1) 195 0 [some (.ref 0), some (.int (Int32.ofNat k))] [] (kv_m z zl) = some (some (.int (if k < n then 1 else 0)), kv_m z zl) := by
  have h8 := hK.1.2
  simp only [kv_e195_0, kv_e195_1, kv_e195_2, kv_e195_3, kv_e195_6, kv_e195_7, kv_e195_8, kv_e195_11, kv_o10, not_false_eq_true, not_true, if_true, if_false, kv_then_s, kv_then_v, kv_then_n, List.cons_append, List.nil_append, kv_Ci, kv_Cr, kv_Cn, kv_Cu, kv_C0, kv_catc, kv_gCi, kv_gCl, kv_gCr, kv_nb0, kv_nb1, kv_nbi, kv_nb01, Nat.reduceAdd, Nat.reduceLeDiff, kw_in, hK.1.1]
  have h1 : (0 : Int32) ≤ Int32.ofNat k := kv_nn0 (kv_nge0 hk)
  have h2 : (Int32.ofNat k ≤ Int32.ofNat n - 1) = (k < n) := by
    cases n with
    | zero =>
      refine propext ⟨fun q => ?_, fun q => by omega⟩
      have := Int32.le_iff_toInt_le.mp (Int32.le_trans h1 q)
      exact absurd this (by decide)
    | succ n =>
      rw [kv_pre, kv_nle hk (by omega)]
      exact propext (by omega)
  simp only [h1, h2, true_and]
theorem kw_neg {x : Int32} (h : x < 0) : ¬ 0 ≤ x := Int32.not_le.mpr h
theorem kw_isKiteN {x : Int32} (hx : x < 0) : kv_Rn (d + 1) 195 0 [some (.ref 0), some (.int x)] [] (kv_m z zl) = some (some (.int 0), kv_m z zl) := by
  simp only [kv_e195_0, kv_e195_1, kv_e195_2, kv_e195_3, kv_e195_6, kv_e195_7, kv_e195_8, kv_e195_11, kv_o10, not_false_eq_true, not_true, if_true, if_false, kv_then_s, kv_then_v, kv_then_n, List.cons_append, List.nil_append, kv_Ci, kv_Cr, kv_Cn, kv_Cu, kv_C0, kv_catc, kv_gCi, kv_gCl, kv_gCr, kv_nb0, kv_nb1, kv_nbi, kv_nb01, Nat.reduceAdd, Nat.reduceLeDiff, kw_in, kw_neg hx, false_and]
theorem kw_fliesN {x : Int32} (hx : x < 0) : kv_Rn (d + 2) 196 0 [some (.ref 0), some (.int x)] [] (kv_m z zl) = some (some (.int 0), kv_m z zl) := by
  simp only [kv_e196_0, kv_e196_1, kv_e196_2, kv_e196_5, kv_e196_8, kv_e196_9, kv_e196_10, kv_e196_12, kv_e196_15, kv_e196_16, kv_e196_19, kv_e196_20, kv_e196_23, kv_e196_24, kv_o10, not_false_eq_true, not_true, if_true, if_false, kv_then_s, kv_then_v, kv_then_n, List.cons_append, List.nil_append, kv_Ci, kv_Cr, kv_Cn, kv_Cu, kv_C0, kv_catc, kv_gCi, kv_gCl, kv_gCr, kv_nb0, kv_nb1, kv_nbi, kv_nb01, Nat.reduceAdd, Nat.reduceLeDiff, kw_isKiteN hx, eq_self]
theorem kw_flies (hK : kw_K n z) {k : Nat} (hk : k < 2147483648) : kv_Rn (d + 2) 196 0 [some (.ref 0), some (.int (Int32.ofNat k))] [] (kv_m z zl) = some (some (.int (if km z k 11 = 0 then 0 else 1)), kv_m z zl) := by
  have h8 := hK.1.2
  by_cases h : k < n
  · simp only [kv_e196_0, kv_e196_1, kv_e196_2, kv_e196_5, kv_e196_8, kv_e196_9, kv_e196_10, kv_e196_12, kv_e196_15, kv_e196_16, kv_e196_19, kv_e196_20, kv_e196_23, kv_e196_24, kv_o10, not_false_eq_true, not_true, if_true, if_false, kv_then_s, kv_then_v, kv_then_n, List.cons_append, List.nil_append, kv_Ci, kv_Cr, kv_Cn, kv_Cu, kv_C0, kv_catc, kv_gCi, kv_gCl, kv_gCr, kv_nb0, kv_nb1, kv_nbi, kv_nb01, Nat.reduceAdd, Nat.reduceLeDiff, kw_isKite hK hk, h, kw_of11 (show k < 8 by omega)]
    rcases (hK.2 k).1 with q | q
    · simp only [q, show ((0 : Int32) = 1) = False from by decide, kv_o10, not_false_eq_true, not_true, if_true, if_false, kv_then_s, kv_then_v, kv_then_n, List.cons_append, List.nil_append, kv_Ci, kv_Cr, kv_Cn, kv_Cu, kv_C0, kv_catc, kv_gCi, kv_gCl, kv_gCr, kv_nb0, kv_nb1, kv_nbi, kv_nb01, Nat.reduceAdd, Nat.reduceLeDiff, eq_self]
    · simp only [q, kv_o10, not_false_eq_true, not_true, if_true, if_false, kv_then_s, kv_then_v, kv_then_n, List.cons_append, List.nil_append, kv_Ci, kv_Cr, kv_Cn, kv_Cu, kv_C0, kv_catc, kv_gCi, kv_gCl, kv_gCr, kv_nb0, kv_nb1, kv_nbi, kv_nb01, Nat.reduceAdd, Nat.reduceLeDiff, eq_self]
  · simp only [kv_e196_0, kv_e196_1, kv_e196_2, kv_e196_5, kv_e196_8, kv_e196_9, kv_e196_10, kv_e196_12, kv_e196_15, kv_e196_16, kv_e196_19, kv_e196_20, kv_e196_23, kv_e196_24, kv_o10, not_false_eq_true, not_true, if_true, if_false, kv_then_s, kv_then_v, kv_then_n, List.cons_append, List.nil_append, kv_Ci, kv_Cr, kv_Cn, kv_Cu, kv_C0, kv_catc, kv_gCi, kv_gCl, kv_gCr, kv_nb0, kv_nb1, kv_nbi, kv_nb01, Nat.reduceAdd, Nat.reduceLeDiff, kw_isKite hK hk, h, eq_self, (hK.2 k).2 (by omega)]
theorem kw_areTwo (hK : kw_K n z) {i j : Nat} (hi : i < 2147483648) (hj : j < 2147483648) : kv_Rn (d + 3) 197 0 [some (.ref 0), some (.int (Int32.ofNat i)), some (.int (Int32.ofNat j))] [] (kv_m z zl) = some (some (.int (if ¬ km z i 11 = 0 ∧ ¬ km z j 11 = 0 ∧ ¬ i = j then 1 else 0)), kv_m z zl) := by
  simp only [kv_e197_0, kv_e197_1, kv_e197_2, kv_e197_5, kv_e197_8, kv_e197_9, kv_e197_10, kv_e197_13, kv_e197_16, kv_e197_17, kv_e197_18, kv_e197_21, kv_e197_22, kv_e197_25, kv_e197_26, kv_o10, not_false_eq_true, not_true, if_true, if_false, kv_then_s, kv_then_v, kv_then_n, List.cons_append, List.nil_append, kv_Ci, kv_Cr, kv_Cn, kv_Cu, kv_C0, kv_catc, kv_gCi, kv_gCl, kv_gCr, kv_nb0, kv_nb1, kv_nbi, kv_nb01, Nat.reduceAdd, Nat.reduceLeDiff, kw_flies hK hi, kw_flies hK hj, kv_i01, kv_neq hi hj]
  by_cases c1 : km z i 11 = 0
  · simp only [c1, kv_o10, not_false_eq_true, not_true, if_true, if_false, kv_then_s, kv_then_v, kv_then_n, List.cons_append, List.nil_append, kv_Ci, kv_Cr, kv_Cn, kv_Cu, kv_C0, kv_catc, kv_gCi, kv_gCl, kv_gCr, kv_nb0, kv_nb1, kv_nbi, kv_nb01, Nat.reduceAdd, Nat.reduceLeDiff, false_and, eq_self]
  · by_cases c2 : km z j 11 = 0
    · simp only [c1, c2, kv_o10, not_false_eq_true, not_true, if_true, if_false, kv_then_s, kv_then_v, kv_then_n, List.cons_append, List.nil_append, kv_Ci, kv_Cr, kv_Cn, kv_Cu, kv_C0, kv_catc, kv_gCi, kv_gCl, kv_gCr, kv_nb0, kv_nb1, kv_nbi, kv_nb01, Nat.reduceAdd, Nat.reduceLeDiff, false_and, and_false, eq_self]
    · by_cases c3 : i = j
      · simp only [c1, c2, c3, kv_o10, not_false_eq_true, not_true, if_true, if_false, kv_then_s, kv_then_v, kv_then_n, List.cons_append, List.nil_append, kv_Ci, kv_Cr, kv_Cn, kv_Cu, kv_C0, kv_catc, kv_gCi, kv_gCl, kv_gCr, kv_nb0, kv_nb1, kv_nbi, kv_nb01, Nat.reduceAdd, Nat.reduceLeDiff, and_false, eq_self]
      · simp only [c1, c2, c3, kv_o10, not_false_eq_true, not_true, if_true, if_false, kv_then_s, kv_then_v, kv_then_n, List.cons_append, List.nil_append, kv_Ci, kv_Cr, kv_Cn, kv_Cu, kv_C0, kv_catc, kv_gCi, kv_gCl, kv_gCr, kv_nb0, kv_nb1, kv_nbi, kv_nb01, Nat.reduceAdd, Nat.reduceLeDiff, and_self, eq_self]
theorem kw_ln2 {m k : Nat} (hm : m ≤ 8) (hk : k < 2147483648) : (Int32.ofNat m ≤ Int32.ofNat k) = (m ≤ k) := kv_nle (by omega) hk
theorem kw_bs_ext {p : Nat → Bool} {m : Nat} : ∀ q, (∀ k, m ≤ k → p k = false) → kv_bs (m + q) p = kv_bs m p := by
  intro q
  induction q with
  | zero => intro _; rfl
  | succ q ih =>
    intro h
    rw [← Nat.add_assoc, kv_bs_s, h (m + q) (by omega), if_neg (by decide)]
    exact ih h
theorem kw_sm_ext {f : Nat → Int32} {m : Nat} : ∀ q, (∀ k, m ≤ k → f k = 0) → kv_sm (m + q) f = kv_sm m f := by
  intro q
  induction q with
  | zero => intro _; rfl
  | succ q ih =>
    intro h
    rw [← Nat.add_assoc, kv_sm_s, h (m + q) (by omega), Int32.add_zero]
    exact ih h
def kw_fs (c : Nat → Nat → Int32) : Int32 := kv_bs 8 (fun k => decide (¬ c k 11 = 0))
theorem kw_flying (hK : kw_K n z) : kv_Rn (d + 3) 198 0 [some (.ref 0), none, none] [] (kv_m z zl) = some (some (.int (kw_fs (km z))), kv_m z zl) := by
  have h8 := hK.1.2
  have he : kw_fs (km z) = kv_bs n (fun k => decide (¬ km z k 11 = 0)) := by
    have := kw_bs_ext (p := fun k => decide (¬ km z k 11 = 0)) (m := n) (8 - n) (fun k hk => by simp only [(hK.2 k).2 hk, not_true, decide_false])
    rw [show n + (8 - n) = 8 from by omega] at this
    exact this
  rw [he]
  have hl := kv_up (fun k => kv_Rn (d + 3) 198 4 [some (.ref 0), some (.int (kv_bs k (fun k => decide (¬ km z k 11 = 0)))), some (.int (Int32.ofNat k))] [] (kv_m z zl) = some (some (.int (kv_bs n (fun k => decide (¬ km z k 11 = 0)))), kv_m z zl)) n ?_ ?_
  · simp only [kv_e198_0, kv_e198_1, kv_e198_2, kv_e198_3, kv_e198_5, kv_e198_6, kv_e198_9, kv_e198_12, kv_e198_13, kv_e198_14, kv_e198_15, kv_e198_18, kv_e198_21, kv_e198_22, kv_e198_23, kv_e198_24, kv_e198_27, kv_e198_28, kv_e198_29, kv_e198_30, kv_e198_33, kv_e198_36, kv_e198_37, kv_o10, not_false_eq_true, not_true, if_true, if_false, kv_then_s, kv_then_v, kv_then_n, List.cons_append, List.nil_append, kv_Ci, kv_Cr, kv_Cn, kv_Cu, kv_C0, kv_catc, kv_gCi, kv_gCl, kv_gCr, kv_nb0, kv_nb1, kv_nbi, kv_nb01, Nat.reduceAdd, Nat.reduceLeDiff]
    exact hl
  · rw [kv_e198_4]
    simp only [kv_e198_0, kv_e198_1, kv_e198_2, kv_e198_3, kv_e198_5, kv_e198_6, kv_e198_9, kv_e198_12, kv_e198_13, kv_e198_14, kv_e198_15, kv_e198_18, kv_e198_21, kv_e198_22, kv_e198_23, kv_e198_24, kv_e198_27, kv_e198_28, kv_e198_29, kv_e198_30, kv_e198_33, kv_e198_36, kv_e198_37, kv_o10, not_false_eq_true, not_true, if_true, if_false, kv_then_s, kv_then_v, kv_then_n, List.cons_append, List.nil_append, kv_Ci, kv_Cr, kv_Cn, kv_Cu, kv_C0, kv_catc, kv_gCi, kv_gCl, kv_gCr, kv_nb0, kv_nb1, kv_nbi, kv_nb01, Nat.reduceAdd, Nat.reduceLeDiff, hK.1.1, kw_ln2 h8 (show n < 2147483648 by omega), Nat.le_refl]
  · intro k hk ih
    rw [kv_bs_s k] at ih
    rw [kv_e198_4]
    simp only [kv_e198_0, kv_e198_1, kv_e198_2, kv_e198_3, kv_e198_5, kv_e198_6, kv_e198_9, kv_e198_12, kv_e198_13, kv_e198_14, kv_e198_15, kv_e198_18, kv_e198_21, kv_e198_22, kv_e198_23, kv_e198_24, kv_e198_27, kv_e198_28, kv_e198_29, kv_e198_30, kv_e198_33, kv_e198_36, kv_e198_37, kv_o10, not_false_eq_true, not_true, if_true, if_false, kv_then_s, kv_then_v, kv_then_n, List.cons_append, List.nil_append, kv_Ci, kv_Cr, kv_Cn, kv_Cu, kv_C0, kv_catc, kv_gCi, kv_gCl, kv_gCr, kv_nb0, kv_nb1, kv_nbi, kv_nb01, Nat.reduceAdd, Nat.reduceLeDiff, hK.1.1, kw_ln2 h8 (show k < 2147483648 by omega), eq_false (show ¬ n ≤ k by omega), kw_flies hK (show k < 2147483648 by omega), kv_i01, kv_suc]
    by_cases hc : km z k 11 = 0
    · simp only [hc, if_true, not_true, decide_false, Bool.false_eq_true, if_false, kv_o10, not_false_eq_true, not_true, if_true, if_false, kv_then_s, kv_then_v, kv_then_n, List.cons_append, List.nil_append, kv_Ci, kv_Cr, kv_Cn, kv_Cu, kv_C0, kv_catc, kv_gCi, kv_gCl, kv_gCr, kv_nb0, kv_nb1, kv_nbi, kv_nb01, Nat.reduceAdd, Nat.reduceLeDiff, kv_e198_0, kv_e198_1, kv_e198_2, kv_e198_3, kv_e198_5, kv_e198_6, kv_e198_9, kv_e198_12, kv_e198_13, kv_e198_14, kv_e198_15, kv_e198_18, kv_e198_21, kv_e198_22, kv_e198_23, kv_e198_24, kv_e198_27, kv_e198_28, kv_e198_29, kv_e198_30, kv_e198_33, kv_e198_36, kv_e198_37, kv_suc, Int32.or_zero] at ih ⊢
      exact ih
    · simp only [hc, if_false, not_false_eq_true, decide_true, if_true, kv_o10, not_false_eq_true, not_true, if_true, if_false, kv_then_s, kv_then_v, kv_then_n, List.cons_append, List.nil_append, kv_Ci, kv_Cr, kv_Cn, kv_Cu, kv_C0, kv_catc, kv_gCi, kv_gCl, kv_gCr, kv_nb0, kv_nb1, kv_nbi, kv_nb01, Nat.reduceAdd, Nat.reduceLeDiff, kv_e198_0, kv_e198_1, kv_e198_2, kv_e198_3, kv_e198_5, kv_e198_6, kv_e198_9, kv_e198_12, kv_e198_13, kv_e198_14, kv_e198_15, kv_e198_18, kv_e198_21, kv_e198_22, kv_e198_23, kv_e198_24, kv_e198_27, kv_e198_28, kv_e198_29, kv_e198_30, kv_e198_33, kv_e198_36, kv_e198_37, kv_suc] at ih ⊢
      exact ih
theorem kw_feetOf (hK : kw_K n z) (o : Int32) : kv_Rn (d + 3) 216 0 [some (.ref 0), some (.int o), none, none] [] (kv_m z zl) = some (some (.int (kv_ff (km z) 5 o)), kv_m z zl) := by
  have h8 := hK.1.2
  have he : kv_ff (km z) 5 o = kv_sm n (fun k => if ¬ km z k 11 = 0 ∧ km z k 5 = o then 3 * km z k 4 else 0) := by
    have := kw_sm_ext (f := fun k => if ¬ km z k 11 = 0 ∧ km z k 5 = o then 3 * km z k 4 else 0) (m := n) (8 - n) (fun k hk => by rw [(hK.2 k).2 hk]; exact if_neg (fun q => q.1 rfl))
    rw [show n + (8 - n) = 8 from by omega] at this
    exact this
  rw [he]
  have hl := kv_up (fun k => kv_Rn (d + 3) 216 4 [some (.ref 0), some (.int o), some (.int (kv_sm k (fun k => if ¬ km z k 11 = 0 ∧ km z k 5 = o then 3 * km z k 4 else 0))), some (.int (Int32.ofNat k))] [] (kv_m z zl) = some (some (.int (kv_sm n (fun k => if ¬ km z k 11 = 0 ∧ km z k 5 = o then 3 * km z k 4 else 0))), kv_m z zl)) n ?_ ?_
  · simp only [kv_e216_0, kv_e216_1, kv_e216_2, kv_e216_3, kv_e216_5, kv_e216_6, kv_e216_9, kv_e216_12, kv_e216_13, kv_e216_14, kv_e216_15, kv_e216_18, kv_e216_21, kv_e216_22, kv_e216_23, kv_e216_24, kv_e216_27, kv_e216_28, kv_e216_31, kv_e216_32, kv_e216_33, kv_e216_34, kv_e216_35, kv_e216_38, kv_e216_39, kv_e216_42, kv_e216_43, kv_e216_44, kv_e216_45, kv_e216_48, kv_e216_51, kv_e216_52, kv_o10, not_false_eq_true, not_true, if_true, if_false, kv_then_s, kv_then_v, kv_then_n, List.cons_append, List.nil_append, kv_Ci, kv_Cr, kv_Cn, kv_Cu, kv_C0, kv_catc, kv_gCi, kv_gCl, kv_gCr, kv_nb0, kv_nb1, kv_nbi, kv_nb01, Nat.reduceAdd, Nat.reduceLeDiff]
    exact hl
  · rw [kv_e216_4]
    simp only [kv_e216_0, kv_e216_1, kv_e216_2, kv_e216_3, kv_e216_5, kv_e216_6, kv_e216_9, kv_e216_12, kv_e216_13, kv_e216_14, kv_e216_15, kv_e216_18, kv_e216_21, kv_e216_22, kv_e216_23, kv_e216_24, kv_e216_27, kv_e216_28, kv_e216_31, kv_e216_32, kv_e216_33, kv_e216_34, kv_e216_35, kv_e216_38, kv_e216_39, kv_e216_42, kv_e216_43, kv_e216_44, kv_e216_45, kv_e216_48, kv_e216_51, kv_e216_52, kv_o10, not_false_eq_true, not_true, if_true, if_false, kv_then_s, kv_then_v, kv_then_n, List.cons_append, List.nil_append, kv_Ci, kv_Cr, kv_Cn, kv_Cu, kv_C0, kv_catc, kv_gCi, kv_gCl, kv_gCr, kv_nb0, kv_nb1, kv_nbi, kv_nb01, Nat.reduceAdd, Nat.reduceLeDiff, hK.1.1, kw_ln2 h8 (show n < 2147483648 by omega), Nat.le_refl]
  · intro k hk ih
    have hk8 : k < 8 := by omega
    rw [kv_sm_s k] at ih
    rw [kv_e216_4]
    simp only [kv_e216_0, kv_e216_1, kv_e216_2, kv_e216_3, kv_e216_5, kv_e216_6, kv_e216_9, kv_e216_12, kv_e216_13, kv_e216_14, kv_e216_15, kv_e216_18, kv_e216_21, kv_e216_22, kv_e216_23, kv_e216_24, kv_e216_27, kv_e216_28, kv_e216_31, kv_e216_32, kv_e216_33, kv_e216_34, kv_e216_35, kv_e216_38, kv_e216_39, kv_e216_42, kv_e216_43, kv_e216_44, kv_e216_45, kv_e216_48, kv_e216_51, kv_e216_52, kv_o10, not_false_eq_true, not_true, if_true, if_false, kv_then_s, kv_then_v, kv_then_n, List.cons_append, List.nil_append, kv_Ci, kv_Cr, kv_Cn, kv_Cu, kv_C0, kv_catc, kv_gCi, kv_gCl, kv_gCr, kv_nb0, kv_nb1, kv_nbi, kv_nb01, Nat.reduceAdd, Nat.reduceLeDiff, hK.1.1, kw_ln2 h8 (show k < 2147483648 by omega), eq_false (show ¬ n ≤ k by omega), kw_flies hK (show k < 2147483648 by omega), kv_i01, kv_suc, kw_of4 hk8, kw_of3 hk8]
    by_cases hc : km z k 11 = 0
    · simp only [hc, if_true, not_true, false_and, if_false, Int32.add_zero, kv_o10, not_false_eq_true, not_true, if_true, if_false, kv_then_s, kv_then_v, kv_then_n, List.cons_append, List.nil_append, kv_Ci, kv_Cr, kv_Cn, kv_Cu, kv_C0, kv_catc, kv_gCi, kv_gCl, kv_gCr, kv_nb0, kv_nb1, kv_nbi, kv_nb01, Nat.reduceAdd, Nat.reduceLeDiff] at ih ⊢
      exact ih
    · by_cases h0 : km z k 5 = o
      · simp only [hc, h0, not_false_eq_true, not_true, and_self, if_true, if_false, kv_o10, not_false_eq_true, not_true, if_true, if_false, kv_then_s, kv_then_v, kv_then_n, List.cons_append, List.nil_append, kv_Ci, kv_Cr, kv_Cn, kv_Cu, kv_C0, kv_catc, kv_gCi, kv_gCl, kv_gCr, kv_nb0, kv_nb1, kv_nbi, kv_nb01, Nat.reduceAdd, Nat.reduceLeDiff] at ih ⊢
        exact ih
      · simp only [hc, h0, and_false, not_false_eq_true, Int32.add_zero, if_true, if_false, kv_o10, not_false_eq_true, not_true, if_true, if_false, kv_then_s, kv_then_v, kv_then_n, List.cons_append, List.nil_append, kv_Ci, kv_Cr, kv_Cn, kv_Cu, kv_C0, kv_catc, kv_gCi, kv_gCl, kv_gCr, kv_nb0, kv_nb1, kv_nbi, kv_nb01, Nat.reduceAdd, Nat.reduceLeDiff] at ih ⊢
        exact ih
theorem kw_resultNow (hK : kw_K n z) : kv_Rn (d + 4) 218 0 [some (.ref 0), none] [] (kv_m z zl) = some (some (.int (kv_rs (z 14 2) (km z))), kv_m z zl) := by
  simp only [kv_e218_0, kv_e218_1, kv_e218_2, kv_e218_5, kv_e218_6, kv_e218_7, kv_e218_10, kv_e218_11, kv_e218_12, kv_e218_13, kv_e218_16, kv_e218_17, kv_e218_20, kv_e218_22, kv_e218_23, kv_e218_24, kv_e218_27, kv_e218_28, kv_e218_29, kv_e218_32, kv_e218_33, kv_e218_34, kv_e218_35, kv_e218_36, kv_e218_39, kv_e218_40, kv_e218_43, kv_e218_44, kv_o10, not_false_eq_true, not_true, if_true, if_false, kv_then_s, kv_then_v, kv_then_n, List.cons_append, List.nil_append, kv_Ci, kv_Cr, kv_Cn, kv_Cu, kv_C0, kv_catc, kv_gCi, kv_gCl, kv_gCr, kv_nb0, kv_nb1, kv_nbi, kv_nb01, Nat.reduceAdd, Nat.reduceLeDiff, kw_feetOf hK, kv_ar_lt (show 14 < 300 by omega), kv_rd_lt (show 14 < 300 by omega), kv_am14, kw_p2, kw_t2, or_self]
  unfold kv_rs
  rw [Int32.add_comm (kv_ff (km z) 5 1), Int32.mul_comm 100]
  by_cases c1 : kv_ff (km z) 5 0 + kv_ff (km z) 5 1 = 0
  · simp only [c1, kv_o10, not_false_eq_true, not_true, if_true, if_false, kv_then_s, kv_then_v, kv_then_n, List.cons_append, List.nil_append, kv_Ci, kv_Cr, kv_Cn, kv_Cu, kv_C0, kv_catc, kv_gCi, kv_gCl, kv_gCr, kv_nb0, kv_nb1, kv_nbi, kv_nb01, Nat.reduceAdd, Nat.reduceLeDiff]
  · by_cases c2 : z 14 2 * (kv_ff (km z) 5 0 + kv_ff (km z) 5 1) < kv_ff (km z) 5 1 * 100
    · have c3 : ¬ kv_ff (km z) 5 1 * 100 ≤ z 14 2 * (kv_ff (km z) 5 0 + kv_ff (km z) 5 1) := Int32.not_le.mpr c2
      simp only [c1, c2, c3, kv_o10, not_false_eq_true, not_true, if_true, if_false, kv_then_s, kv_then_v, kv_then_n, List.cons_append, List.nil_append, kv_Ci, kv_Cr, kv_Cn, kv_Cu, kv_C0, kv_catc, kv_gCi, kv_gCl, kv_gCr, kv_nb0, kv_nb1, kv_nbi, kv_nb01, Nat.reduceAdd, Nat.reduceLeDiff]
    · have c3 : kv_ff (km z) 5 1 * 100 ≤ z 14 2 * (kv_ff (km z) 5 0 + kv_ff (km z) 5 1) := Int32.not_lt.mp c2
      simp only [c1, c2, c3, kv_o10, not_false_eq_true, not_true, if_true, if_false, kv_then_s, kv_then_v, kv_then_n, List.cons_append, List.nil_append, kv_Ci, kv_Cr, kv_Cn, kv_Cu, kv_C0, kv_catc, kv_gCi, kv_gCl, kv_gCr, kv_nb0, kv_nb1, kv_nbi, kv_nb01, Nat.reduceAdd, Nat.reduceLeDiff]
end
