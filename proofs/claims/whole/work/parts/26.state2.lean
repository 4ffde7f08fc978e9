/-! a State cleared, copied, put by -/
section
variable {d a b : Nat} {e : List kv_E} {z : Nat → Nat → Int32} {zl : Nat → Nat → Int64}
theorem kv_zs {α : Type} (z : Nat → Nat → α) (a : Nat) (f : Nat → α) : kv_z z a f a = f := if_pos rfl
theorem kv_z1 {α : Type} (z : Nat → Nat → α) (a : Nat) (f : Nat → α) : kv_z z a f (a + 1) = z (a + 1) := if_neg (by omega)
theorem kv_z2 {α : Type} (z : Nat → Nat → α) (a : Nat) (f : Nat → α) : kv_z z a f (a + 2) = z (a + 2) := if_neg (by omega)
theorem kv_z10 {α : Type} (z : Nat → Nat → α) (a : Nat) (f : Nat → α) : kv_z z (a + 1) f a = z a := if_neg (by omega)
theorem kv_z20 {α : Type} (z : Nat → Nat → α) (a : Nat) (f : Nat → α) : kv_z z (a + 2) f a = z a := if_neg (by omega)
theorem kv_z12 {α : Type} (z : Nat → Nat → α) (a : Nat) (f : Nat → α) : kv_z z (a + 1) f (a + 2) = z (a + 2) := if_neg (by omega)
theorem kv_z21 {α : Type} (z : Nat → Nat → α) (a : Nat) (f : Nat → α) : kv_z z (a + 2) f (a + 1) = z (a + 1) := if_neg (by omega)
theorem kv_zne {α : Type} (z : Nat → Nat → α) {a b : Nat} (f : Nat → α) (h : b ≠ a) : kv_z z a f b = z b := if_neg h
def kv_z0 (z : Nat → Nat → Int32) (c k : Nat) : Nat → Nat → Int32 := kv_z z c (fun i => if i < k then 0 else z c i)
theorem kv_z0_0 (z : Nat → Nat → Int32) (c : Nat) : kv_z0 z c 0 = z := by
  funext b i
  unfold kv_z0 kv_z
  split
  · subst_vars; rfl
  · rfl
theorem kv_z0_s (z : Nat → Nat → Int32) (c k : Nat) : kv_z (kv_z0 z c k) c (upd (kv_z0 z c k c) k 0) = kv_z0 z c (k + 1) := by
  funext b i
  unfold kv_z0
  rw [kv_zs]
  by_cases hb : b = c
  · subst hb
    rw [kv_zs, kv_zs]
    unfold upd
    by_cases h1 : i = k
    · rw [if_pos h1, if_pos (by omega)]
    · rw [if_neg h1]
      dsimp only
      by_cases h2 : i < k
      · rw [if_pos h2, if_pos (by omega)]
      · rw [if_neg h2, if_neg (by omega)]
  · rw [kv_zne _ _ hb, kv_zne _ _ hb, kv_zne _ _ hb]
def kv_f3 (z : Nat → Nat → Int32) (a k : Nat) (x : Int32) : Nat → Nat → Int32 := kv_z z a (upd (z a) k x)
def kv_sz (z : Nat → Nat → Int32) (a : Nat) : Nat → Nat → Int32 := kv_f3 (kv_f3 (kv_f3 (kv_z0 z (a + 1) 104) a 2 0) a 3 0) a 4 0
theorem kv_clearS (hS : kv_isS e a) : kv_Rn d 57 0 [some (.ref a), none] [] (kv_h e z zl) = some (none, kv_h e (kv_sz z a) zl) := by
  have h1 : a + 1 < 300 := by have := hS.2; omega
  have h2 : kv_ia (kv_shK ++ e) (a + 1) := ⟨h1, 104, hS.1.2.1⟩
  have h4 : (Int32.ofNat 104 : Int32) = 104 := rfl
  have hl := kv_up (fun k => kv_Rn d 57 2 [some (.ref a), some (.int (Int32.ofNat k))] [] (kv_h e (kv_z0 z (a + 1) k) zl) = some (none, kv_h e (kv_sz z a) zl)) 104 ?_ ?_
  · simp only [kv_e57_0, kv_e57_1, kv_e57_3, kv_e57_4, kv_e57_7, kv_e57_8, kv_e57_11, kv_e57_12, kv_e57_15, kv_e57_16, kv_e57_17, kv_e57_18, kv_e57_21, kv_e57_24, kv_e57_25, kv_e57_26, kv_e57_29, kv_e57_30, kv_e57_31, kv_e57_34, kv_e57_35, kv_e57_36, kv_e57_39, kv_o10, not_false_eq_true, not_true, if_true, if_false, kv_then_s, kv_then_v, kv_then_n, List.cons_append, List.nil_append, kv_Ci, kv_Cr, kv_Cn, kv_Cu, kv_C0, kv_catc, kv_gCi, kv_gCl, kv_gCr, kv_nb0, kv_nb1, kv_nbi, kv_nb01, Nat.reduceAdd, Nat.reduceLeDiff]
    rw [kv_z0_0] at hl
    exact hl
  · rw [kv_e57_2]
    have h5 : ((104 : Int32) ≤ Int32.ofNat 104) = True := by decide
    simp only [kv_e57_0, kv_e57_1, kv_e57_3, kv_e57_4, kv_e57_7, kv_e57_8, kv_e57_11, kv_e57_12, kv_e57_15, kv_e57_16, kv_e57_17, kv_e57_18, kv_e57_21, kv_e57_24, kv_e57_25, kv_e57_26, kv_e57_29, kv_e57_30, kv_e57_31, kv_e57_34, kv_e57_35, kv_e57_36, kv_e57_39, kv_o10, not_false_eq_true, not_true, if_true, if_false, kv_then_s, kv_then_v, kv_then_n, List.cons_append, List.nil_append, kv_Ci, kv_Cr, kv_Cn, kv_Cu, kv_C0, kv_catc, kv_gCi, kv_gCl, kv_gCr, kv_nb0, kv_nb1, kv_nbi, kv_nb01, Nat.reduceAdd, Nat.reduceLeDiff, hS, h2, true_or, kv_ar_lt h1, (kv_isS_aw hS).1, h4, h5, if_true]
    rfl
  · intro k hk ih
    rw [kv_e57_2]
    have h5 : ((104 : Int32) ≤ Int32.ofNat k) = False := by
      rw [show (104 : Int32) = Int32.ofNat 104 from rfl, kv_nle (by omega) (by omega)]
      exact propext ⟨fun q => by omega, fun q => q.elim⟩
    have h6 : (Int32.ofNat k < 0) = False := propext ⟨fun q => kv_nge0 (by omega) q, False.elim⟩
    have h7 : (104 ≤ k) = False := propext ⟨fun q => by omega, False.elim⟩
    simp only [kv_e57_0, kv_e57_1, kv_e57_3, kv_e57_4, kv_e57_7, kv_e57_8, kv_e57_11, kv_e57_12, kv_e57_15, kv_e57_16, kv_e57_17, kv_e57_18, kv_e57_21, kv_e57_24, kv_e57_25, kv_e57_26, kv_e57_29, kv_e57_30, kv_e57_31, kv_e57_34, kv_e57_35, kv_e57_36, kv_e57_39, kv_o10, not_false_eq_true, not_true, if_true, if_false, kv_then_s, kv_then_v, kv_then_n, List.cons_append, List.nil_append, kv_Ci, kv_Cr, kv_Cn, kv_Cu, kv_C0, kv_catc, kv_gCi, kv_gCl, kv_gCr, kv_nb0, kv_nb1, kv_nbi, kv_nb01, Nat.reduceAdd, Nat.reduceLeDiff, hS, h2, true_or, kv_ar_lt h1, (kv_isS_aw hS).1, h4, h5, if_false, h6, kv_tn (show k < 2147483648 by omega), h7, or_self, kv_suc, kv_z0_s]
    exact ih
def kv_cp1 (z : Nat → Nat → Int32) (a b n : Nat) : Nat → Nat → Int32 := kv_z z a (va_cpy (z b) (z a) 0 0 n)
def kv_sc (z : Nat → Nat → Int32) (a b : Nat) : Nat → Nat → Int32 :=
  let z1 := kv_cp1 z (a + 1) (b + 1) 104
  let z2 := kv_cp1 z1 (a + 2) (b + 2) 40
  let z3 := kv_f3 z2 a 2 (z2 b 2)
  let z4 := kv_f3 z3 a 3 (z3 b 3)
  kv_f3 z4 a 4 (z4 b 4)
theorem kv_t0 : (0 : Int32).toNatClampNeg = 0 := id rfl
theorem kv_t104 : (104 : Int32).toNatClampNeg = 104 := id rfl
theorem kv_t40 : (40 : Int32).toNatClampNeg = 40 := id rfl
theorem kv_l0 : ((0 : Int32) < 0) = False := by decide
theorem kv_l104 : ((104 : Int32) < 0) = False := by decide
theorem kv_l40 : ((40 : Int32) < 0) = False := by decide
theorem kv_copyS (hS : kv_isS e a) (hT : kv_isS e b) : kv_Rn d 58 0 [some (.ref a), some (.ref b)] [] (kv_h e z zl) = some (none, kv_h e (kv_sc z a b) zl) := by
  have h1 : kv_ia (kv_shK ++ e) (a + 1) := ⟨by have := hS.2; omega, 104, hS.1.2.1⟩
  have h2 : kv_ia (kv_shK ++ e) (a + 2) := ⟨hS.2, 40, hS.1.2.2⟩
  have h3 : kv_ia (kv_shK ++ e) (b + 1) := ⟨by have := hT.2; omega, 104, hT.1.2.1⟩
  have h4 : kv_ia (kv_shK ++ e) (b + 2) := ⟨hT.2, 40, hT.1.2.2⟩
  simp only [kv_e58_0, kv_e58_1, kv_e58_4, kv_e58_5, kv_e58_6, kv_e58_9, kv_e58_10, kv_e58_12, kv_e58_15, kv_e58_16, kv_e58_19, kv_e58_20, kv_e58_21, kv_e58_24, kv_e58_25, kv_e58_27, kv_e58_30, kv_e58_31, kv_e58_32, kv_e58_35, kv_e58_38, kv_e58_39, kv_e58_40, kv_e58_43, kv_e58_46, kv_e58_47, kv_e58_48, kv_e58_51, kv_e58_54, kv_o10, not_false_eq_true, not_true, if_true, if_false, kv_then_s, kv_then_v, kv_then_n, List.cons_append, List.nil_append, kv_Ci, kv_Cr, kv_Cn, kv_Cu, kv_C0, kv_catc, kv_gCi, kv_gCl, kv_gCr, kv_nb0, kv_nb1, kv_nbi, kv_nb01, Nat.reduceAdd, Nat.reduceLeDiff, hS, hT, h1, h2, h3, h4, kv_l0, kv_l104, kv_l40, kv_t0, kv_t104, kv_t40, (kv_isS_aw hS).1, (kv_isS_aw hS).2, (kv_isS_aw hT).1, (kv_isS_aw hT).2, not_false_eq_true, and_self, Nat.zero_add]
  rfl
theorem kv_booked (hS : kv_isS e a) (i : Int32) : kv_Rn d 71 0 [some (.ref a), some (.int i)] [] (kv_h e z zl) = some (some (.int (if i < 0 then -1 else if z a 2 ≤ i then -1 else if 40 ≤ i then -1 else z (a + 2) i.toNatClampNeg)), kv_h e z zl) := by
  have h1 : a + 2 < 300 := hS.2
  have h2 : kv_ia (kv_shK ++ e) (a + 2) := ⟨h1, 40, hS.1.2.2⟩
  have h4 : (Int32.ofNat 40 : Int32) = 40 := rfl
  simp only [kv_e71_0, kv_e71_1, kv_e71_4, kv_e71_5, kv_e71_6, kv_e71_9, kv_e71_12, kv_e71_13, kv_e71_14, kv_e71_17, kv_e71_18, kv_e71_21, kv_e71_22, kv_e71_25, kv_e71_26, kv_e71_27, kv_e71_30, kv_e71_31, kv_o10, not_false_eq_true, not_true, if_true, if_false, kv_then_s, kv_then_v, kv_then_n, List.cons_append, List.nil_append, kv_Ci, kv_Cr, kv_Cn, kv_Cu, kv_C0, kv_catc, kv_gCi, kv_gCl, kv_gCr, kv_nb0, kv_nb1, kv_nbi, kv_nb01, Nat.reduceAdd, Nat.reduceLeDiff, hS, h2, true_or, kv_ar_lt h1, kv_rd_lt h1, (kv_isS_aw hS).2, h4]
  by_cases h5 : i < 0
  · simp only [h5, if_true]
  · by_cases h6 : z a 2 ≤ i
    · simp only [h5, h6, if_false, if_true]
    · by_cases h7 : (40 : Int32) ≤ i
      · simp only [h5, h6, h7, if_false, if_true]
      · simp only [h5, h6, h7, if_false, kv_ib (n := 40) (by omega) h5 h7, or_self]
end
