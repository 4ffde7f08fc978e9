/-! the model: copies of its state -/
section
variable {d n : Nat} {z : Nat → Nat → Int32} {zl : Nat → Nat → Int64}
def kw_ov (f g : Nat → Int32) (o m : Nat) : Nat → Int32 := fun i => if o ≤ i ∧ i < o + m then g i else f i
theorem kw_ov_0 (f g : Nat → Int32) (o : Nat) : kw_ov f g o 0 = f := by
  funext i
  unfold kw_ov
  rw [if_neg (by omega)]
theorem kw_ov_s (f g : Nat → Int32) (o m : Nat) : upd (kw_ov f g o m) (o + m) (g (o + m)) = kw_ov f g o (m + 1) := by
  funext i
  unfold kw_ov upd
  by_cases h : i = o + m
  · subst h
    rw [if_pos rfl, if_pos (by omega)]
  · rw [if_neg h]
    dsimp only
    by_cases h2 : o ≤ i ∧ i < o + m
    · rw [if_pos h2, if_pos (by omega)]
    · rw [if_neg h2, if_neg (by omega)]
theorem kw_zid (z : Nat → Nat → Int32) (c : Nat) : kv_z z c (z c) = z := by
  funext b i
  unfold kv_z
  split
  · subst_vars; rfl
  · rfl
def kw_nw (z : Nat → Nat → Int32) : Nat → Nat → Int32 := kv_z z 17 (kw_ov (z 17) (fun _ => -1) 0 8)
theorem kw_nobody : kv_Rn d 210 0 [some (.ref 0), none] [] (kv_m z zl) = some (none, kv_m (kw_nw z) zl) := by
  have hl := kv_up (fun k => kv_Rn d 210 2 [some (.ref 0), some (.int (Int32.ofNat k))] [] (kv_m (kv_z z 17 (kw_ov (z 17) (fun _ => -1) 0 k)) zl) = some (none, kv_m (kw_nw z) zl)) 8 ?_ ?_
  · simp only [kv_e210_0, kv_e210_1, kv_e210_3, kv_e210_5, kv_e210_8, kv_e210_9, kv_e210_12, kv_e210_13, kv_e210_14, kv_e210_15, kv_e210_18, kv_e210_21, kv_o10, not_false_eq_true, not_true, if_true, if_false, kv_then_s, kv_then_v, kv_then_n, List.cons_append, List.nil_append, kv_Ci, kv_Cr, kv_Cn, kv_Cu, kv_C0, kv_catc, kv_gCi, kv_gCl, kv_gCr, kv_nb0, kv_nb1, kv_nbi, kv_nb01, Nat.reduceAdd, Nat.reduceLeDiff]
    rw [kw_ov_0, kw_zid] at hl
    exact hl
  · rw [kv_e210_2]
    simp only [kv_e210_0, kv_e210_1, kv_e210_3, kv_e210_5, kv_e210_8, kv_e210_9, kv_e210_12, kv_e210_13, kv_e210_14, kv_e210_15, kv_e210_18, kv_e210_21, kv_o10, not_false_eq_true, not_true, if_true, if_false, kv_then_s, kv_then_v, kv_then_n, List.cons_append, List.nil_append, kv_Ci, kv_Cr, kv_Cn, kv_Cu, kv_C0, kv_catc, kv_gCi, kv_gCl, kv_gCr, kv_nb0, kv_nb1, kv_nbi, kv_nb01, Nat.reduceAdd, Nat.reduceLeDiff, kv_le88]
    rfl
  · intro k hk ih
    have hk2 : k < 2147483648 := by omega
    have hs := kw_ov_s (z 17) (fun _ => -1) 0 k
    rw [Nat.zero_add] at hs
    rw [kv_e210_2]
    simp only [kv_e210_0, kv_e210_1, kv_e210_3, kv_e210_5, kv_e210_8, kv_e210_9, kv_e210_12, kv_e210_13, kv_e210_14, kv_e210_15, kv_e210_18, kv_e210_21, kv_o10, not_false_eq_true, not_true, if_true, if_false, kv_then_s, kv_then_v, kv_then_n, List.cons_append, List.nil_append, kv_Ci, kv_Cr, kv_Cn, kv_Cu, kv_C0, kv_catc, kv_gCi, kv_gCl, kv_gCr, kv_nb0, kv_nb1, kv_nbi, kv_nb01, Nat.reduceAdd, Nat.reduceLeDiff, kv_le8 hk, kv_am17, kw_n0 hk2, kv_tn hk2, kv_lN hk, or_self, kv_suc, kv_zs, kw_zz, hs]
    exact ih
theorem kw_le147 {k : Nat} (h : k < 147) : ((147 : Int32) ≤ Int32.ofNat k) = False := kv_ln_ (m := 147) h (by omega)
theorem kw_le147' : ((147 : Int32) ≤ Int32.ofNat 147) = True := by decide
theorem kw_put_aside : kv_Rn (d + 1) 236 0 [some (.ref 0), none] [] (kv_m z zl) = some (none, kv_m (kv_z (kw_nw z) 20 (kw_ov (z 20) (z 16) 0 147)) zl) := by
  have e20 : kw_nw z 20 = z 20 := kv_zne _ _ (by omega)
  have e16 : kw_nw z 16 = z 16 := kv_zne _ _ (by omega)
  have hl := kv_up (fun k => kv_Rn (d + 1) 236 6 [some (.ref 0), some (.int (Int32.ofNat k))] [] (kv_m (kv_z (kw_nw z) 20 (kw_ov (z 20) (z 16) 0 k)) zl) = some (none, kv_m (kv_z (kw_nw z) 20 (kw_ov (z 20) (z 16) 0 147)) zl)) 147 ?_ ?_
  · simp only [kv_e236_0, kv_e236_1, kv_e236_4, kv_e236_5, kv_e236_7, kv_e236_10, kv_e236_13, kv_e236_14, kv_e236_17, kv_e236_18, kv_e236_19, kv_e236_22, kv_e236_23, kv_e236_24, kv_e236_25, kv_e236_28, kv_e236_31, kv_o10, not_false_eq_true, not_true, if_true, if_false, kv_then_s, kv_then_v, kv_then_n, List.cons_append, List.nil_append, kv_Ci, kv_Cr, kv_Cn, kv_Cu, kv_C0, kv_catc, kv_gCi, kv_gCl, kv_gCr, kv_nb0, kv_nb1, kv_nbi, kv_nb01, Nat.reduceAdd, Nat.reduceLeDiff, kw_nobody]
    rw [kw_ov_0, ← e20, kw_zid] at hl
    rw [← e20]
    exact hl
  · rw [kv_e236_6]
    simp only [kv_e236_0, kv_e236_1, kv_e236_4, kv_e236_5, kv_e236_7, kv_e236_10, kv_e236_13, kv_e236_14, kv_e236_17, kv_e236_18, kv_e236_19, kv_e236_22, kv_e236_23, kv_e236_24, kv_e236_25, kv_e236_28, kv_e236_31, kv_o10, not_false_eq_true, not_true, if_true, if_false, kv_then_s, kv_then_v, kv_then_n, List.cons_append, List.nil_append, kv_Ci, kv_Cr, kv_Cn, kv_Cu, kv_C0, kv_catc, kv_gCi, kv_gCl, kv_gCr, kv_nb0, kv_nb1, kv_nbi, kv_nb01, Nat.reduceAdd, Nat.reduceLeDiff, kw_le147']
  · intro k hk ih
    have hk2 : k < 2147483648 := by omega
    have hs := kw_ov_s (z 20) (z 16) 0 k
    rw [Nat.zero_add] at hs
    have g16 : ∀ f, kv_z (kw_nw z) 20 f 16 = z 16 := fun f => (kv_zne _ _ (by omega)).trans e16
    rw [kv_e236_6]
    simp only [kv_e236_0, kv_e236_1, kv_e236_4, kv_e236_5, kv_e236_7, kv_e236_10, kv_e236_13, kv_e236_14, kv_e236_17, kv_e236_18, kv_e236_19, kv_e236_22, kv_e236_23, kv_e236_24, kv_e236_25, kv_e236_28, kv_e236_31, kv_o10, not_false_eq_true, not_true, if_true, if_false, kv_then_s, kv_then_v, kv_then_n, List.cons_append, List.nil_append, kv_Ci, kv_Cr, kv_Cn, kv_Cu, kv_C0, kv_catc, kv_gCi, kv_gCl, kv_gCr, kv_nb0, kv_nb1, kv_nbi, kv_nb01, Nat.reduceAdd, Nat.reduceLeDiff, kw_le147 hk, kv_ar_lt (show 16 < 300 by omega), kv_rd_lt (show 16 < 300 by omega), kv_am16, kv_am20, kw_n0 hk2, kv_tn hk2, kv_lN hk, or_self, kv_suc, kv_zs, kw_zz, g16, hs]
    exact ih
theorem kw_take_back : kv_Rn (d + 1) 237 0 [some (.ref 0), none] [] (kv_m z zl) = some (none, kv_m (kv_z (kw_nw z) 16 (kw_ov (z 16) (z 20) 0 147)) zl) := by
  have e20 : kw_nw z 20 = z 20 := kv_zne _ _ (by omega)
  have e16 : kw_nw z 16 = z 16 := kv_zne _ _ (by omega)
  have hl := kv_up (fun k => kv_Rn (d + 1) 237 6 [some (.ref 0), some (.int (Int32.ofNat k))] [] (kv_m (kv_z (kw_nw z) 16 (kw_ov (z 16) (z 20) 0 k)) zl) = some (none, kv_m (kv_z (kw_nw z) 16 (kw_ov (z 16) (z 20) 0 147)) zl)) 147 ?_ ?_
  · simp only [kv_e237_0, kv_e237_1, kv_e237_4, kv_e237_5, kv_e237_7, kv_e237_10, kv_e237_13, kv_e237_14, kv_e237_17, kv_e237_18, kv_e237_19, kv_e237_22, kv_e237_23, kv_e237_24, kv_e237_25, kv_e237_28, kv_e237_31, kv_o10, not_false_eq_true, not_true, if_true, if_false, kv_then_s, kv_then_v, kv_then_n, List.cons_append, List.nil_append, kv_Ci, kv_Cr, kv_Cn, kv_Cu, kv_C0, kv_catc, kv_gCi, kv_gCl, kv_gCr, kv_nb0, kv_nb1, kv_nbi, kv_nb01, Nat.reduceAdd, Nat.reduceLeDiff, kw_nobody]
    rw [kw_ov_0, ← e16, kw_zid] at hl
    rw [← e16]
    exact hl
  · rw [kv_e237_6]
    simp only [kv_e237_0, kv_e237_1, kv_e237_4, kv_e237_5, kv_e237_7, kv_e237_10, kv_e237_13, kv_e237_14, kv_e237_17, kv_e237_18, kv_e237_19, kv_e237_22, kv_e237_23, kv_e237_24, kv_e237_25, kv_e237_28, kv_e237_31, kv_o10, not_false_eq_true, not_true, if_true, if_false, kv_then_s, kv_then_v, kv_then_n, List.cons_append, List.nil_append, kv_Ci, kv_Cr, kv_Cn, kv_Cu, kv_C0, kv_catc, kv_gCi, kv_gCl, kv_gCr, kv_nb0, kv_nb1, kv_nbi, kv_nb01, Nat.reduceAdd, Nat.reduceLeDiff, kw_le147']
  · intro k hk ih
    have hk2 : k < 2147483648 := by omega
    have hs := kw_ov_s (z 16) (z 20) 0 k
    rw [Nat.zero_add] at hs
    have g20 : ∀ f, kv_z (kw_nw z) 16 f 20 = z 20 := fun f => (kv_zne _ _ (by omega)).trans e20
    rw [kv_e237_6]
    simp only [kv_e237_0, kv_e237_1, kv_e237_4, kv_e237_5, kv_e237_7, kv_e237_10, kv_e237_13, kv_e237_14, kv_e237_17, kv_e237_18, kv_e237_19, kv_e237_22, kv_e237_23, kv_e237_24, kv_e237_25, kv_e237_28, kv_e237_31, kv_o10, not_false_eq_true, not_true, if_true, if_false, kv_then_s, kv_then_v, kv_then_n, List.cons_append, List.nil_append, kv_Ci, kv_Cr, kv_Cn, kv_Cu, kv_C0, kv_catc, kv_gCi, kv_gCl, kv_gCr, kv_nb0, kv_nb1, kv_nbi, kv_nb01, Nat.reduceAdd, Nat.reduceLeDiff, kw_le147 hk, kv_ar_lt (show 20 < 300 by omega), kv_rd_lt (show 20 < 300 by omega), kv_am16, kv_am20, kw_n0 hk2, kv_tn hk2, kv_lN hk, or_self, kv_suc, kv_zs, kw_zz, g20, hs]
    exact ih
theorem kw_mulN (a b : Nat) : Int32.ofNat a * Int32.ofNat b = Int32.ofNat (a * b) := (Int32.ofNat_mul a b).symm
theorem kw_147 (b : Nat) : (147 : Int32) * Int32.ofNat b = Int32.ofNat (147 * b) := (Int32.ofNat_mul 147 b).symm
theorem kw_addN (a b : Nat) : Int32.ofNat a + Int32.ofNat b = Int32.ofNat (a + b) := (Int32.ofNat_add a b).symm
theorem kw_keep2 {na : Nat} (hn : na < 40) (h : z 0 33 = Int32.ofNat na) : kv_Rn d 220 54 [some (.ref 0), some (.int (Int32.ofNat 0))] [] (kv_m z zl) = some (none, kv_m (kv_z (kv_z z 19 (kw_ov (z 19) (fun i => z 16 (i - 147 * na)) (147 * na) 147)) 0 (upd (z 0) 33 (Int32.ofNat (na + 1)))) zl) := by
  have hl := kv_up (fun k => kv_Rn d 220 54 [some (.ref 0), some (.int (Int32.ofNat k))] [] (kv_m (kv_z z 19 (kw_ov (z 19) (fun i => z 16 (i - 147 * na)) (147 * na) k)) zl) = some (none, kv_m (kv_z (kv_z z 19 (kw_ov (z 19) (fun i => z 16 (i - 147 * na)) (147 * na) 147)) 0 (upd (z 0) 33 (Int32.ofNat (na + 1)))) zl)) 147 ?_ ?_
  · rw [kw_ov_0, kw_zid] at hl
    exact hl
  · have g0 : ∀ f, kv_z z 19 f 0 = z 0 := fun f => kv_zne _ _ (by omega)
    rw [kv_e220_54]
    simp only [kv_e220_55, kv_e220_58, kv_e220_88, kv_e220_89, kv_e220_90, kv_e220_93, kv_e220_94, kv_e220_95, kv_e220_98, kv_o10, not_false_eq_true, not_true, if_true, if_false, kv_then_s, kv_then_v, kv_then_n, List.cons_append, List.nil_append, kv_Ci, kv_Cr, kv_Cn, kv_Cu, kv_C0, kv_catc, kv_gCi, kv_gCl, kv_gCr, kv_nb0, kv_nb1, kv_nbi, kv_nb01, Nat.reduceAdd, Nat.reduceLeDiff, kw_le147', g0, h, kv_suc]
  · intro k hk ih
    have hk2 : k < 2147483648 := by omega
    have hk3 : 147 * na + k < 2147483648 := by omega
    have hs := kw_ov_s (z 19) (fun i => z 16 (i - 147 * na)) (147 * na) k
    rw [show 147 * na + k - 147 * na = k from by omega] at hs
    have g16 : ∀ f, kv_z z 19 f 16 = z 16 := fun f => kv_zne _ _ (by omega)
    have g0 : ∀ f, kv_z z 19 f 0 = z 0 := fun f => kv_zne _ _ (by omega)
    rw [kv_e220_54]
    simp only [kv_e220_55, kv_e220_58, kv_e220_61, kv_e220_62, kv_e220_65, kv_e220_68, kv_e220_69, kv_e220_72, kv_e220_73, kv_e220_74, kv_e220_75, kv_e220_76, kv_e220_79, kv_e220_80, kv_e220_81, kv_e220_82, kv_e220_85, kv_o10, not_false_eq_true, not_true, if_true, if_false, kv_then_s, kv_then_v, kv_then_n, List.cons_append, List.nil_append, kv_Ci, kv_Cr, kv_Cn, kv_Cu, kv_C0, kv_catc, kv_gCi, kv_gCl, kv_gCr, kv_nb0, kv_nb1, kv_nbi, kv_nb01, Nat.reduceAdd, Nat.reduceLeDiff, kw_le147 hk, kv_ar_lt (show 16 < 300 by omega), kv_rd_lt (show 16 < 300 by omega), kv_am16, kv_am19, kw_n0 hk2, kv_tn hk2, kv_lN hk, kw_n0 hk3, kv_tn hk3, kv_lN (show 147 * na + k < 5880 by omega), or_self, kv_suc, kv_zs, kw_zz, g16, g0, h, kw_147, kw_addN, hs]
    exact ih
theorem kw_keep_lt {na : Nat} (hn : na < 40) (h : z 0 33 = Int32.ofNat na) : kv_Rn d 220 0 [some (.ref 0), none] [] (kv_m z zl) = some (none, kv_m (kv_z (kv_z z 19 (kw_ov (z 19) (fun i => z 16 (i - 147 * na)) (147 * na) 147)) 0 (upd (z 0) 33 (Int32.ofNat (na + 1)))) zl) := by
  rw [← kw_keep2 hn h]
  have h40 : (Int32.ofNat na = 40) = False := by
    rw [show (40 : Int32) = Int32.ofNat 40 from rfl, kv_neq (by omega) (by omega)]
    exact eq_false (by omega)
  simp only [kv_e220_0, kv_e220_1, kv_e220_4, kv_e220_6, kv_e220_52, kv_e220_53, kv_o10, not_false_eq_true, not_true, if_true, if_false, kv_then_s, kv_then_v, kv_then_n, List.cons_append, List.nil_append, kv_Ci, kv_Cr, kv_Cn, kv_Cu, kv_C0, kv_catc, kv_gCi, kv_gCl, kv_gCr, kv_nb0, kv_nb1, kv_nbi, kv_nb01, Nat.reduceAdd, Nat.reduceLeDiff, h, h40]
  rfl
theorem kw_keep_40 (h : z 0 33 = Int32.ofNat 40) : ∃ z1, kv_Rn d 220 0 [some (.ref 0), none] [] (kv_m z zl) = kv_Rn d 220 54 [some (.ref 0), some (.int (Int32.ofNat 0))] [] (kv_m z1 zl) ∧ z1 0 = upd (z 0) 33 (Int32.ofNat 39) ∧ z1 19 = kw_ov (z 19) (fun i => z 19 (i + 147)) 0 5733 ∧ ∀ c, c ≠ 0 → c ≠ 19 → z1 c = z c := by
  refine ⟨kv_z (kv_z z 19 (kw_ov (z 19) (fun i => z 19 (i + 147)) 0 5733)) 0 (upd (z 0) 33 (Int32.ofNat 39)), ?_, kv_zs _ _ _, by rw [kv_zne _ _ (by omega), kv_zs], fun c h1 h2 => (kv_zne _ _ h1).trans (kv_zne _ _ h2)⟩
  have hl := kv_up (fun k => kv_Rn d 220 13 [some (.ref 0), some (.int (Int32.ofNat (k + 147)))] [] (kv_m (kv_z z 19 (kw_ov (z 19) (fun i => z 19 (i + 147)) 0 k)) zl) = kv_Rn d 220 54 [some (.ref 0), some (.int (Int32.ofNat 0))] [] (kv_m (kv_z (kv_z z 19 (kw_ov (z 19) (fun i => z 19 (i + 147)) 0 5733)) 0 (upd (z 0) 33 (Int32.ofNat 39))) zl)) 5733 ?_ ?_
  · rw [kw_ov_0, kw_zid] at hl
    rw [← hl]
    have h40 : (Int32.ofNat 40 = 40) = True := by decide
    simp only [kv_e220_0, kv_e220_1, kv_e220_4, kv_e220_6, kv_e220_9, kv_e220_12, kv_o10, not_false_eq_true, not_true, if_true, if_false, kv_then_s, kv_then_v, kv_then_n, List.cons_append, List.nil_append, kv_Ci, kv_Cr, kv_Cn, kv_Cu, kv_C0, kv_catc, kv_gCi, kv_gCl, kv_gCr, kv_nb0, kv_nb1, kv_nbi, kv_nb01, Nat.reduceAdd, Nat.reduceLeDiff, h, h40]
    rfl
  · have g0 : ∀ f, kv_z z 19 f 0 = z 0 := fun f => kv_zne _ _ (by omega)
    have h58 : ((5880 : Int32) ≤ Int32.ofNat (5733 + 147)) = True := by decide
    have h39 : Int32.ofNat 40 - 1 = Int32.ofNat 39 := by decide
    rw [kv_e220_13]
    simp only [kv_e220_14, kv_e220_17, kv_e220_42, kv_e220_43, kv_e220_44, kv_e220_47, kv_e220_48, kv_e220_49, kv_e220_52, kv_e220_53, kv_o10, not_false_eq_true, not_true, if_true, if_false, kv_then_s, kv_then_v, kv_then_n, List.cons_append, List.nil_append, kv_Ci, kv_Cr, kv_Cn, kv_Cu, kv_C0, kv_catc, kv_gCi, kv_gCl, kv_gCr, kv_nb0, kv_nb1, kv_nbi, kv_nb01, Nat.reduceAdd, Nat.reduceLeDiff, h58, g0, h, h39]
    rfl
  · intro k hk ih
    have hk2 : k < 2147483648 := by omega
    have hk3 : k + 147 < 2147483648 := by omega
    have h58 : ((5880 : Int32) ≤ Int32.ofNat (k + 147)) = False := kv_ln_ (m := 5880) (by omega) (by omega)
    have hs := kw_ov_s (z 19) (fun i => z 19 (i + 147)) 0 k
    rw [Nat.zero_add] at hs
    have hm : Int32.ofNat (k + 147) - 147 = Int32.ofNat k := by
      rw [Int32.ofNat_add]
      exact Int32.add_sub_cancel _ _
    have hr : kw_ov (z 19) (fun i => z 19 (i + 147)) 0 k (k + 147) = z 19 (k + 147) := by
      unfold kw_ov
      rw [if_neg (by omega)]
    have hs2 : Int32.ofNat (k + 147) + 1 = Int32.ofNat (k + 1 + 147) := by
      rw [kv_suc]
    rw [kv_e220_13]
    simp only [kv_e220_14, kv_e220_17, kv_e220_20, kv_e220_21, kv_e220_24, kv_e220_25, kv_e220_28, kv_e220_29, kv_e220_30, kv_e220_33, kv_e220_34, kv_e220_35, kv_e220_36, kv_e220_39, kv_o10, not_false_eq_true, not_true, if_true, if_false, kv_then_s, kv_then_v, kv_then_n, List.cons_append, List.nil_append, kv_Ci, kv_Cr, kv_Cn, kv_Cu, kv_C0, kv_catc, kv_gCi, kv_gCl, kv_gCr, kv_nb0, kv_nb1, kv_nbi, kv_nb01, Nat.reduceAdd, Nat.reduceLeDiff, h58, kv_ar_lt (show 19 < 300 by omega), kv_rd_lt (show 19 < 300 by omega), kv_am19, kw_n0 hk2, kv_tn hk2, kw_n0 hk3, kv_tn hk3, kv_lN (show k + 147 < 5880 by omega), kv_lN (show k < 5880 by omega), or_self, hm, kv_zs, kw_zz, hr, hs, hs2]
    exact ih
end
