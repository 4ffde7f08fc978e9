/-! lonely -/
section
variable {d n B W : Nat} {e : List kv_E} {z zK zM zK' zM' : Nat → Nat → Int32} {zl zlM : Nat → Nat → Int64}
theorem kw_fa_f (p : Nat → Bool) : ∀ (m k : Nat), (kv_fa m k p = false) = ∀ i, k ≤ i → i < k + m → p i = false := by
  intro m
  induction m with
  | zero => intro k; exact propext ⟨fun _ i h1 h2 => by omega, fun _ => rfl⟩
  | succ m ih =>
    intro k
    rw [kv_fa_s, Bool.or_eq_false_iff, ih (k + 1)]
    refine propext ⟨fun q i h1 h2 => ?_, fun q => ⟨q k (by omega) (by omega), fun i h1 h2 => q i (by omega) (by omega)⟩⟩
    by_cases c : i = k
    · subst c; exact q.1
    · exact q.2 i (by omega) (by omega)
theorem kw_hd_f (c : Nat → Nat → Int32) (p : Int32) : (kw_hd c p = false) = ∀ i, i < 8 → ¬ (¬ c i 11 = 0 ∧ c i 0 = p) := by
  unfold kw_hd
  rw [kw_fa_f]
  exact propext ⟨fun q i h => of_decide_eq_false (q i (by omega) (by omega)), fun q i _ h => decide_eq_false (q i (by omega))⟩
theorem kw_bit_m : ∀ (i k : Fin 8), ((1 : Int32) <<< (Int32.ofNat i &&& 31)) &&& (((1 : Int32) <<< (Int32.ofNat k &&& 31)) ^^^ -1) = if i = k then 0 else (1 : Int32) <<< (Int32.ofNat i &&& 31) := by decide
theorem kw_bs_m (p : Nat → Bool) {k : Nat} (hk : k < 8) : ∀ n, n ≤ 8 → kv_bs n p &&& (((1 : Int32) <<< (Int32.ofNat k &&& 31)) ^^^ -1) = kv_bs n (fun i => p i && decide (i ≠ k)) := by
  intro n
  induction n with
  | zero => intro _; exact Int32.zero_and
  | succ n ih =>
    intro h
    have b := kw_bit_m ⟨n, by omega⟩ ⟨k, hk⟩
    dsimp only at b
    rw [kv_bs_s, kv_bs_s]
    by_cases c : p n = true
    · rw [if_pos c]
      by_cases c2 : n = k
      · rw [if_neg (by rw [c]; simp [c2])]
        rw [if_pos (Fin.ext c2)] at b
        rw [← ih (by omega)]
        generalize (((1 : Int32) <<< (Int32.ofNat k &&& 31)) ^^^ -1) = m at b ⊢
        rw [kw_dist, b, Int32.or_zero]
      · rw [if_pos (by rw [c]; simp [c2])]
        rw [if_neg (fun q => c2 (congrArg Fin.val q))] at b
        rw [← ih (by omega)]
        generalize (((1 : Int32) <<< (Int32.ofNat k &&& 31)) ^^^ -1) = m at b ⊢
        rw [kw_dist, b]
    · rw [if_neg c, if_neg (by simp [c])]
      exact ih (by omega)
def kw_tt (c : Nat → Nat → Int32) (i o : Nat) : Prop := ¬ c i 11 = 0 ∧ ¬ c o 11 = 0 ∧ ¬ i = o ∧ (c i 0 - c o 0 = 1 ∨ c i 0 - c o 0 = -1)
noncomputable def kw_lb (c : Nat → Nat → Int32) (n k o : Nat) (i : Nat) : Bool := @decide (¬ c i 11 = 0 ∧ ∀ o', o' < n → (i < k ∨ (i = k ∧ o' < o)) → ¬ kw_tt c i o') (Classical.propDecidable _)
theorem kw_lb_of {c : Nat → Nat → Int32} {n k o i : Nat} {b : Bool} (h : (¬ c i 11 = 0 ∧ ∀ o', o' < n → (i < k ∨ (i = k ∧ o' < o)) → ¬ kw_tt c i o') = (b = true)) : kw_lb c n k o i = b := by
  unfold kw_lb
  by_cases q : b = true
  · rw [q] at h ⊢
    exact (@decide_eq_true_iff _ (Classical.propDecidable _)).mpr (h ▸ rfl)
  · have q' : b = false := by cases b; rfl; exact absurd rfl q
    rw [q']
    exact (@decide_eq_false_iff_not _ (Classical.propDecidable _)).mpr (fun r => q (h ▸ r))
theorem kw_lb_t (c : Nat → Nat → Int32) (n k o i : Nat) : (kw_lb c n k o i = true) = (¬ c i 11 = 0 ∧ ∀ o', o' < n → (i < k ∨ (i = k ∧ o' < o)) → ¬ kw_tt c i o') := by
  unfold kw_lb
  exact propext (@decide_eq_true_iff _ (Classical.propDecidable _))
theorem kw_lb_1 {c : Nat → Nat → Int32} {n k o : Nat} (ho : o < n) (h : kw_tt c k o) (i : Nat) : (kw_lb c n k o i && decide (i ≠ k)) = kw_lb c n k (o + 1) i := by
  refine (kw_lb_of ?_).symm
  rw [Bool.and_eq_true, kw_lb_t, decide_eq_true_iff]
  refine propext ⟨fun q => ⟨⟨q.1, fun o' h1 h2 => q.2 o' h1 (by omega)⟩, fun e => ?_⟩, fun q => ⟨q.1.1, fun o' h1 h2 => q.1.2 o' h1 (by omega)⟩⟩
  subst e
  exact q.2 o ho (by omega) h
theorem kw_lb_0 {c : Nat → Nat → Int32} {n k o : Nat} (h : ¬ kw_tt c k o) (i : Nat) : kw_lb c n k o i = kw_lb c n k (o + 1) i := by
  refine (kw_lb_of ?_).symm
  rw [kw_lb_t]
  refine propext ⟨fun q => ⟨q.1, fun o' h1 h2 => q.2 o' h1 (by omega)⟩, fun q => ⟨q.1, fun o' h1 h2 => ?_⟩⟩
  by_cases e : i = k ∧ o' = o
  · obtain ⟨rfl, rfl⟩ := e
    exact h
  · exact q.2 o' h1 (by omega)
theorem kw_lb_n (c : Nat → Nat → Int32) (n k i : Nat) : kw_lb c n k n i = kw_lb c n (k + 1) 0 i := by
  refine (kw_lb_of ?_).symm
  rw [kw_lb_t]
  exact propext ⟨fun q => ⟨q.1, fun o' h1 h2 => q.2 o' h1 (by omega)⟩, fun q => ⟨q.1, fun o' h1 h2 => q.2 o' h1 (by omega)⟩⟩
theorem kw_lb_00 (c : Nat → Nat → Int32) (n i : Nat) : kw_lb c n 0 0 i = decide (¬ c i 11 = 0) := by
  refine kw_lb_of ?_
  rw [decide_eq_true_iff]
  exact propext ⟨fun q => q.1, fun q => ⟨q, fun o' h1 h2 => by omega⟩⟩
theorem kw_sub_c (x y : Int32) : (x = y - 1) = (y - x = 1) := by
  rw [← kw_sub1 y x]
  refine propext ⟨fun q => ?_, fun q => ?_⟩
  · rw [q, Int32.sub_add_cancel]
  · rw [q, Int32.add_sub_cancel]
theorem kw_sub_d (x y : Int32) : (x = y + 1) = (y - x = -1) := by
  rw [← kw_subm1 y x]
  refine propext ⟨fun q => ?_, fun q => ?_⟩
  · rw [q, Int32.add_sub_cancel]
  · rw [q, Int32.sub_add_cancel]
theorem kw_lb_K {c : Nat → Nat → Int32} (h1 : kw_01 n c) (h8 : n ≤ 8) {i : Nat} (hi : i < n) : (¬ c i 11 = 0 ∧ kw_hd c (c i 0 - 1) = false ∧ kw_hd c (c i 0 + 1) = false) = (kw_lb c n n 0 i = true) := by
  rw [kw_lb_t, kw_hd_f, kw_hd_f]
  refine propext ⟨fun q => ⟨q.1, fun o' a1 a2 t => ?_⟩, fun q => ⟨q.1, fun o' a1 t => ?_, fun o' a1 t => ?_⟩⟩
  · obtain ⟨t1, t2, t3, t4⟩ := t
    rcases t4 with t4 | t4
    · exact q.2.1 o' (by omega) ⟨t2, (kw_sub_c _ _).mpr t4⟩
    · exact q.2.2 o' (by omega) ⟨t2, (kw_sub_d _ _).mpr t4⟩
  · have hn : o' < n := Nat.lt_of_not_le (fun r => t.1 ((h1 o').2 r))
    have t2 := (kw_sub_c _ _).mp t.2
    refine q.2 o' hn (Or.inl hi) ⟨q.1, t.1, fun r => ?_, Or.inl t2⟩
    subst r
    rw [Int32.sub_self] at t2
    exact absurd t2 (by decide)
  · have hn : o' < n := Nat.lt_of_not_le (fun r => t.1 ((h1 o').2 r))
    have t2 := (kw_sub_d _ _).mp t.2
    refine q.2 o' hn (Or.inl hi) ⟨q.1, t.1, fun r => ?_, Or.inr t2⟩
    subst r
    rw [Int32.sub_self] at t2
    exact absurd t2 (by decide)
theorem kw_and_m1 (x : Int32) : x &&& -1 = x := Int32.and_neg_one
theorem kw_f_lonely (h : kw_R n B W zK zM) : kw_A (d + 12) 132 266 [some (.ref 0), none, none, none] [some (.ref 0), none, none, none] zK zM zl zlM := by
  have hKK := kw_R_KK h
  have hI := kw_R_I h
  have h8 := hI.1.1.1.2
  have h01 := hI.1.1.2
  have ek := kw_R_km h.2.1.1
  have hF := h.1.2.2.1
  have ez : (zM 0 24 = 0) = (n = 0) := by
    rw [hF.1.2.1, show (0 : Int32) = Int32.ofNat 0 from rfl, kv_neq (by omega) (by omega)]
  by_cases c : n = 0
  · replace c := eq_true c
    refine kw_A0 (r := -1) h ?_ ?_
    · simp only [kv_e132_0, kv_e132_1, kv_e132_4, kv_e132_7, kv_e132_8, kv_e132_9, kv_e132_10, kv_e132_11, kv_e132_12, kv_e132_14, kv_e132_15, kv_e132_18, kv_e132_21, kv_e132_24, kv_e132_25, kv_e132_28, kv_e132_29, kv_e132_30, kv_e132_33, kv_e132_34, kv_e132_35, kv_e132_38, kv_e132_39, kv_e132_42, kv_e132_45, kv_e132_46, kv_e132_49, kv_e132_50, kv_e132_51, kv_e132_52, kv_e132_55, kv_e132_58, kv_e132_59, kv_e132_62, kv_e132_63, kv_e132_64, kv_e132_65, kv_e132_68, kv_e132_71, kv_e132_72, kv_e132_73, kv_e132_74, kv_e132_75, kv_e132_76, kv_e132_77, kv_e132_80, kv_e132_83, kv_e132_84, kv_o10, not_false_eq_true, not_true, if_true, if_false, kv_then_s, kv_then_v, kv_then_n, List.cons_append, List.nil_append, kv_Ci, kv_Cr, kv_Cn, kv_Cu, kv_C0, kv_catc, kv_gCi, kv_gCl, kv_gCr, kv_nb0, kv_nb1, kv_nbi, kv_nb01, Nat.reduceAdd, Nat.reduceLeDiff, kw_KhF h, c, eq_self]
    · simp only [kv_e266_0, kv_e266_1, kv_e266_4, kv_e266_7, kv_e266_8, kv_e266_9, kv_e266_10, kv_e266_13, kv_e266_14, kv_e266_15, kv_e266_17, kv_e266_18, kv_e266_21, kv_e266_24, kv_e266_25, kv_e266_27, kv_e266_28, kv_e266_31, kv_e266_34, kv_e266_35, kv_e266_36, kv_e266_37, kv_e266_38, kv_e266_41, kv_e266_44, kv_e266_45, kv_e266_46, kv_e266_47, kv_e266_50, kv_e266_51, kv_e266_52, kv_e266_53, kv_e266_56, kv_e266_57, kv_e266_60, kv_e266_61, kv_e266_64, kv_e266_65, kv_e266_66, kv_e266_67, kv_e266_68, kv_e266_69, kv_e266_72, kv_e266_73, kv_e266_74, kv_e266_75, kv_e266_78, kv_e266_81, kv_e266_84, kv_e266_87, kv_e266_88, kv_o10, not_false_eq_true, not_true, if_true, if_false, kv_then_s, kv_then_v, kv_then_n, List.cons_append, List.nil_append, kv_Ci, kv_Cr, kv_Cn, kv_Cu, kv_C0, kv_catc, kv_gCi, kv_gCl, kv_gCr, kv_nb0, kv_nb1, kv_nbi, kv_nb01, Nat.reduceAdd, Nat.reduceLeDiff, ez, c, eq_self]
  · have hlK := kv_up (fun o => ∀ u3, kv_Rn (d + 12) 132 13 [some (.ref 0), some (.int (kv_bs o (kw_lb (km zM) n n 0))), some (.int (Int32.ofNat o)), u3] [] (kv_h [] zK zl) = some (some (.int (kv_bs n (kw_lb (km zM) n n 0))), kv_h [] zK zl)) n ?_ ?_
    · have hlM := kv_up (fun k => ∀ u3, kv_Rn (d + 12) 266 16 [some (.ref 0), some (.int (kv_bs 8 (kw_lb (km zM) n k 0))), some (.int (Int32.ofNat k)), u3] [] (kv_m zM zlM) = some (some (.int (kv_bs 8 (kw_lb (km zM) n n 0))), kv_m zM zlM)) n ?_ ?_
      · have e8 : kv_bs 8 (kw_lb (km zM) n n 0) = kv_bs n (kw_lb (km zM) n n 0) := by
          have := kw_bs_ext (p := kw_lb (km zM) n n 0) (m := n) (8 - n) (fun k hk => kw_lb_of (propext ⟨fun q => absurd ((h01 k).2 hk) q.1, fun q => by cases q⟩))
          rw [show n + (8 - n) = 8 from by omega] at this
          exact this
        rw [e8] at hlM
        have e00 : kw_fs (km zM) = kv_bs 8 (kw_lb (km zM) n 0 0) := kw_bs_congr (fun k _ => (kw_lb_00 _ n k).symm)
        refine kw_A0 (r := kv_bs n (kw_lb (km zM) n n 0)) h ?_ ?_
        · rw [← hlK none]
          simp only [kv_e132_0, kv_e132_1, kv_e132_4, kv_e132_9, kv_e132_10, kv_e132_11, kv_e132_12, kv_o10, not_false_eq_true, not_true, if_true, if_false, kv_then_s, kv_then_v, kv_then_n, List.cons_append, List.nil_append, kv_Ci, kv_Cr, kv_Cn, kv_Cu, kv_C0, kv_catc, kv_gCi, kv_gCl, kv_gCr, kv_nb0, kv_nb1, kv_nbi, kv_nb01, Nat.reduceAdd, Nat.reduceLeDiff, kw_KhF h, c]
          rfl
        · rw [← hlM none]
          simp only [kv_e266_0, kv_e266_1, kv_e266_4, kv_e266_9, kv_e266_10, kv_e266_13, kv_e266_14, kv_e266_15, kv_o10, not_false_eq_true, not_true, if_true, if_false, kv_then_s, kv_then_v, kv_then_n, List.cons_append, List.nil_append, kv_Ci, kv_Cr, kv_Cn, kv_Cu, kv_C0, kv_catc, kv_gCi, kv_gCl, kv_gCr, kv_nb0, kv_nb1, kv_nbi, kv_nb01, Nat.reduceAdd, Nat.reduceLeDiff, ez, c, kw_flying hI.1.1, e00]
          rfl
      · intro u3
        rw [kv_e266_16]
        simp only [kv_e266_0, kv_e266_1, kv_e266_4, kv_e266_7, kv_e266_8, kv_e266_9, kv_e266_10, kv_e266_13, kv_e266_14, kv_e266_15, kv_e266_17, kv_e266_18, kv_e266_21, kv_e266_24, kv_e266_25, kv_e266_27, kv_e266_28, kv_e266_31, kv_e266_34, kv_e266_35, kv_e266_36, kv_e266_37, kv_e266_38, kv_e266_41, kv_e266_44, kv_e266_45, kv_e266_46, kv_e266_47, kv_e266_50, kv_e266_51, kv_e266_52, kv_e266_53, kv_e266_56, kv_e266_57, kv_e266_60, kv_e266_61, kv_e266_64, kv_e266_65, kv_e266_66, kv_e266_67, kv_e266_68, kv_e266_69, kv_e266_72, kv_e266_73, kv_e266_74, kv_e266_75, kv_e266_78, kv_e266_81, kv_e266_84, kv_e266_87, kv_e266_88, kv_o10, not_false_eq_true, not_true, if_true, if_false, kv_then_s, kv_then_v, kv_then_n, List.cons_append, List.nil_append, kv_Ci, kv_Cr, kv_Cn, kv_Cu, kv_C0, kv_catc, kv_gCi, kv_gCl, kv_gCr, kv_nb0, kv_nb1, kv_nbi, kv_nb01, Nat.reduceAdd, Nat.reduceLeDiff, hF.1.2.1, kw_ln2 h8 (show n < 2147483648 by omega), Nat.le_refl]
      · intro k hk ih u3
        have hk2 : k < 2147483648 := by omega
        have hli := kv_up (fun o => kv_Rn (d + 12) 266 26 [some (.ref 0), some (.int (kv_bs 8 (kw_lb (km zM) n k o))), some (.int (Int32.ofNat k)), some (.int (Int32.ofNat o))] [] (kv_m zM zlM) = some (some (.int (kv_bs 8 (kw_lb (km zM) n n 0))), kv_m zM zlM)) n ?_ ?_
        · rw [← hli, kv_e266_16]
          simp only [kv_e266_17, kv_e266_18, kv_e266_21, kv_e266_24, kv_e266_25, kv_o10, not_false_eq_true, not_true, if_true, if_false, kv_then_s, kv_then_v, kv_then_n, List.cons_append, List.nil_append, kv_Ci, kv_Cr, kv_Cn, kv_Cu, kv_C0, kv_catc, kv_gCi, kv_gCl, kv_gCr, kv_nb0, kv_nb1, kv_nbi, kv_nb01, Nat.reduceAdd, Nat.reduceLeDiff, hF.1.2.1, kw_ln2 h8 hk2, eq_false (show ¬ n ≤ k by omega)]
          rfl
        · have en : kv_bs 8 (kw_lb (km zM) n k n) = kv_bs 8 (kw_lb (km zM) n (k + 1) 0) := kw_bs_congr (fun i _ => kw_lb_n _ n k i)
          rw [en, ← ih (some (.int (Int32.ofNat n))), kv_e266_26]
          simp only [kv_e266_0, kv_e266_1, kv_e266_4, kv_e266_7, kv_e266_8, kv_e266_9, kv_e266_10, kv_e266_13, kv_e266_14, kv_e266_15, kv_e266_17, kv_e266_18, kv_e266_21, kv_e266_24, kv_e266_25, kv_e266_27, kv_e266_28, kv_e266_31, kv_e266_34, kv_e266_35, kv_e266_36, kv_e266_37, kv_e266_38, kv_e266_41, kv_e266_44, kv_e266_45, kv_e266_46, kv_e266_47, kv_e266_50, kv_e266_51, kv_e266_52, kv_e266_53, kv_e266_56, kv_e266_57, kv_e266_60, kv_e266_61, kv_e266_64, kv_e266_65, kv_e266_66, kv_e266_67, kv_e266_68, kv_e266_69, kv_e266_72, kv_e266_73, kv_e266_74, kv_e266_75, kv_e266_78, kv_e266_81, kv_e266_84, kv_e266_87, kv_e266_88, kv_o10, not_false_eq_true, not_true, if_true, if_false, kv_then_s, kv_then_v, kv_then_n, List.cons_append, List.nil_append, kv_Ci, kv_Cr, kv_Cn, kv_Cu, kv_C0, kv_catc, kv_gCi, kv_gCl, kv_gCr, kv_nb0, kv_nb1, kv_nbi, kv_nb01, Nat.reduceAdd, Nat.reduceLeDiff, hF.1.2.1, kw_ln2 h8 (show n < 2147483648 by omega), Nat.le_refl, kv_suc]
        · intro o ho ih
          have ho2 : o < 2147483648 := by omega
          by_cases t : kw_tt (km zM) k o
          · have en : kv_bs 8 (kw_lb (km zM) n k o) &&& (((1 : Int32) <<< (Int32.ofNat k &&& 31)) ^^^ -1) = kv_bs 8 (kw_lb (km zM) n k (o + 1)) := (kw_bs_m _ (by omega) 8 (Nat.le_refl _)).trans (kw_bs_congr (fun i _ => kw_lb_1 ho t i))
            rw [← en] at ih
            obtain ⟨t1, t2, t3, t4⟩ := t
            rw [← ih, kv_e266_26]
            simp only [kv_e266_0, kv_e266_1, kv_e266_4, kv_e266_7, kv_e266_8, kv_e266_9, kv_e266_10, kv_e266_13, kv_e266_14, kv_e266_15, kv_e266_17, kv_e266_18, kv_e266_21, kv_e266_24, kv_e266_25, kv_e266_27, kv_e266_28, kv_e266_31, kv_e266_34, kv_e266_35, kv_e266_36, kv_e266_37, kv_e266_38, kv_e266_41, kv_e266_44, kv_e266_45, kv_e266_46, kv_e266_47, kv_e266_50, kv_e266_51, kv_e266_52, kv_e266_53, kv_e266_56, kv_e266_57, kv_e266_60, kv_e266_61, kv_e266_64, kv_e266_65, kv_e266_66, kv_e266_67, kv_e266_68, kv_e266_69, kv_e266_72, kv_e266_73, kv_e266_74, kv_e266_75, kv_e266_78, kv_e266_81, kv_e266_84, kv_e266_87, kv_e266_88, kv_o10, not_false_eq_true, not_true, if_true, if_false, kv_then_s, kv_then_v, kv_then_n, List.cons_append, List.nil_append, kv_Ci, kv_Cr, kv_Cn, kv_Cu, kv_C0, kv_catc, kv_gCi, kv_gCl, kv_gCr, kv_nb0, kv_nb1, kv_nbi, kv_nb01, Nat.reduceAdd, Nat.reduceLeDiff, hF.1.2.1, kw_ln2 h8 ho2, eq_false (show ¬ n ≤ o by omega), kw_areTwo hI.1.1 hk2 ho2, t1, t2, t3, and_self, kw_of0 (show k < 8 by omega), kw_of0 (show o < 8 by omega), kw_ab1, t4, kv_suc]
          · have en : kv_bs 8 (kw_lb (km zM) n k o) = kv_bs 8 (kw_lb (km zM) n k (o + 1)) := kw_bs_congr (fun i _ => kw_lb_0 t i)
            rw [← en] at ih
            rw [← ih, kv_e266_26]
            by_cases c2 : ¬ km zM k 11 = 0 ∧ ¬ km zM o 11 = 0 ∧ ¬ k = o
            · have c3 : ¬ (km zM k 0 - km zM o 0 = 1 ∨ km zM k 0 - km zM o 0 = -1) := fun q => t ⟨c2.1, c2.2.1, c2.2.2, q⟩
              simp only [kv_e266_0, kv_e266_1, kv_e266_4, kv_e266_7, kv_e266_8, kv_e266_9, kv_e266_10, kv_e266_13, kv_e266_14, kv_e266_15, kv_e266_17, kv_e266_18, kv_e266_21, kv_e266_24, kv_e266_25, kv_e266_27, kv_e266_28, kv_e266_31, kv_e266_34, kv_e266_35, kv_e266_36, kv_e266_37, kv_e266_38, kv_e266_41, kv_e266_44, kv_e266_45, kv_e266_46, kv_e266_47, kv_e266_50, kv_e266_51, kv_e266_52, kv_e266_53, kv_e266_56, kv_e266_57, kv_e266_60, kv_e266_61, kv_e266_64, kv_e266_65, kv_e266_66, kv_e266_67, kv_e266_68, kv_e266_69, kv_e266_72, kv_e266_73, kv_e266_74, kv_e266_75, kv_e266_78, kv_e266_81, kv_e266_84, kv_e266_87, kv_e266_88, kv_o10, not_false_eq_true, not_true, if_true, if_false, kv_then_s, kv_then_v, kv_then_n, List.cons_append, List.nil_append, kv_Ci, kv_Cr, kv_Cn, kv_Cu, kv_C0, kv_catc, kv_gCi, kv_gCl, kv_gCr, kv_nb0, kv_nb1, kv_nbi, kv_nb01, Nat.reduceAdd, Nat.reduceLeDiff, hF.1.2.1, kw_ln2 h8 ho2, eq_false (show ¬ n ≤ o by omega), kw_areTwo hI.1.1 hk2 ho2, c2, and_self, kw_of0 (show k < 8 by omega), kw_of0 (show o < 8 by omega), kw_ab1, c3, kw_and_m1, kv_suc]
            · simp only [kv_e266_0, kv_e266_1, kv_e266_4, kv_e266_7, kv_e266_8, kv_e266_9, kv_e266_10, kv_e266_13, kv_e266_14, kv_e266_15, kv_e266_17, kv_e266_18, kv_e266_21, kv_e266_24, kv_e266_25, kv_e266_27, kv_e266_28, kv_e266_31, kv_e266_34, kv_e266_35, kv_e266_36, kv_e266_37, kv_e266_38, kv_e266_41, kv_e266_44, kv_e266_45, kv_e266_46, kv_e266_47, kv_e266_50, kv_e266_51, kv_e266_52, kv_e266_53, kv_e266_56, kv_e266_57, kv_e266_60, kv_e266_61, kv_e266_64, kv_e266_65, kv_e266_66, kv_e266_67, kv_e266_68, kv_e266_69, kv_e266_72, kv_e266_73, kv_e266_74, kv_e266_75, kv_e266_78, kv_e266_81, kv_e266_84, kv_e266_87, kv_e266_88, kv_o10, not_false_eq_true, not_true, if_true, if_false, kv_then_s, kv_then_v, kv_then_n, List.cons_append, List.nil_append, kv_Ci, kv_Cr, kv_Cn, kv_Cu, kv_C0, kv_catc, kv_gCi, kv_gCl, kv_gCr, kv_nb0, kv_nb1, kv_nbi, kv_nb01, Nat.reduceAdd, Nat.reduceLeDiff, hF.1.2.1, kw_ln2 h8 ho2, eq_false (show ¬ n ≤ o by omega), kw_areTwo hI.1.1 hk2 ho2, c2, kw_and_m1, kv_suc, eq_self]
    · intro u3
      rw [kv_e132_13]
      simp only [kv_e132_0, kv_e132_1, kv_e132_4, kv_e132_7, kv_e132_8, kv_e132_9, kv_e132_10, kv_e132_11, kv_e132_12, kv_e132_14, kv_e132_15, kv_e132_18, kv_e132_21, kv_e132_24, kv_e132_25, kv_e132_28, kv_e132_29, kv_e132_30, kv_e132_33, kv_e132_34, kv_e132_35, kv_e132_38, kv_e132_39, kv_e132_42, kv_e132_45, kv_e132_46, kv_e132_49, kv_e132_50, kv_e132_51, kv_e132_52, kv_e132_55, kv_e132_58, kv_e132_59, kv_e132_62, kv_e132_63, kv_e132_64, kv_e132_65, kv_e132_68, kv_e132_71, kv_e132_72, kv_e132_73, kv_e132_74, kv_e132_75, kv_e132_76, kv_e132_77, kv_e132_80, kv_e132_83, kv_e132_84, kv_o10, not_false_eq_true, not_true, if_true, if_false, kv_then_s, kv_then_v, kv_then_n, List.cons_append, List.nil_append, kv_Ci, kv_Cr, kv_Cn, kv_Cu, kv_C0, kv_catc, kv_gCi, kv_gCl, kv_gCr, kv_nb0, kv_nb1, kv_nbi, kv_nb01, Nat.reduceAdd, Nat.reduceLeDiff, kv_isF3, hKK.1.1, kw_ln2 h8 (show n < 2147483648 by omega), Nat.le_refl]
    · intro o ho ih u3
      have ho2 : o < 2147483648 := by omega
      have ho8 : o < 8 := by omega
      have pr := kw_lb_K h01 h8 ho
      have hh : ∀ p, kv_fa 8 0 (fun k => decide (¬ km zM k 11 = 0 ∧ km zM k 0 = p)) = kw_hd (km zM) p := fun p => rfl
      rw [kv_bs_s] at ih
      rw [← ih (some (.int (km zM o 0))), kv_e132_13]
      by_cases c1 : km zM o 11 = 0
      · have q : kw_lb (km zM) n n 0 o = false := by
          rw [Bool.eq_false_iff]
          intro q
          rw [← pr] at q
          exact q.1 c1
        simp only [kv_e132_0, kv_e132_1, kv_e132_4, kv_e132_7, kv_e132_8, kv_e132_9, kv_e132_10, kv_e132_11, kv_e132_12, kv_e132_14, kv_e132_15, kv_e132_18, kv_e132_21, kv_e132_24, kv_e132_25, kv_e132_28, kv_e132_29, kv_e132_30, kv_e132_33, kv_e132_34, kv_e132_35, kv_e132_38, kv_e132_39, kv_e132_42, kv_e132_45, kv_e132_46, kv_e132_49, kv_e132_50, kv_e132_51, kv_e132_52, kv_e132_55, kv_e132_58, kv_e132_59, kv_e132_62, kv_e132_63, kv_e132_64, kv_e132_65, kv_e132_68, kv_e132_71, kv_e132_72, kv_e132_73, kv_e132_74, kv_e132_75, kv_e132_76, kv_e132_77, kv_e132_80, kv_e132_83, kv_e132_84, kv_o10, not_false_eq_true, not_true, if_true, if_false, kv_then_s, kv_then_v, kv_then_n, List.cons_append, List.nil_append, kv_Ci, kv_Cr, kv_Cn, kv_Cu, kv_C0, kv_catc, kv_gCi, kv_gCl, kv_gCr, kv_nb0, kv_nb1, kv_nbi, kv_nb01, Nat.reduceAdd, Nat.reduceLeDiff, kv_isF3, hKK.1.1, kw_ln2 h8 ho2, eq_false (show ¬ n ≤ o by omega), kv_isS36, kv_get, kv_g0 zK 36 ho8, ek, kv_flies, kv_g11 zK 36 ho8, c1, eq_self, kv_suc, q, Bool.false_eq_true]
      · by_cases c2 : kw_hd (km zM) (km zM o 0 - 1) = false
        · by_cases c3 : kw_hd (km zM) (km zM o 0 + 1) = false
          · have q : kw_lb (km zM) n n 0 o = true := by
              rw [← pr]
              exact ⟨c1, c2, c3⟩
            simp only [kv_e132_0, kv_e132_1, kv_e132_4, kv_e132_7, kv_e132_8, kv_e132_9, kv_e132_10, kv_e132_11, kv_e132_12, kv_e132_14, kv_e132_15, kv_e132_18, kv_e132_21, kv_e132_24, kv_e132_25, kv_e132_28, kv_e132_29, kv_e132_30, kv_e132_33, kv_e132_34, kv_e132_35, kv_e132_38, kv_e132_39, kv_e132_42, kv_e132_45, kv_e132_46, kv_e132_49, kv_e132_50, kv_e132_51, kv_e132_52, kv_e132_55, kv_e132_58, kv_e132_59, kv_e132_62, kv_e132_63, kv_e132_64, kv_e132_65, kv_e132_68, kv_e132_71, kv_e132_72, kv_e132_73, kv_e132_74, kv_e132_75, kv_e132_76, kv_e132_77, kv_e132_80, kv_e132_83, kv_e132_84, kv_o10, not_false_eq_true, not_true, if_true, if_false, kv_then_s, kv_then_v, kv_then_n, List.cons_append, List.nil_append, kv_Ci, kv_Cr, kv_Cn, kv_Cu, kv_C0, kv_catc, kv_gCi, kv_gCl, kv_gCr, kv_nb0, kv_nb1, kv_nbi, kv_nb01, Nat.reduceAdd, Nat.reduceLeDiff, kv_isF3, hKK.1.1, kw_ln2 h8 ho2, eq_false (show ¬ n ≤ o by omega), kv_isS36, kv_get, kv_g0 zK 36 ho8, ek, kv_flies, kv_g11 zK 36 ho8, c1, kv_isHeld, hh, c2, c3, eq_self, kv_suc, q, Bool.false_eq_true]
          · have q : kw_lb (km zM) n n 0 o = false := by
              rw [Bool.eq_false_iff]
              intro q
              rw [← pr] at q
              exact c3 q.2.2
            have c3' : kw_hd (km zM) (km zM o 0 + 1) = true := by rw [Bool.not_eq_false] at c3; exact c3
            simp only [kv_e132_0, kv_e132_1, kv_e132_4, kv_e132_7, kv_e132_8, kv_e132_9, kv_e132_10, kv_e132_11, kv_e132_12, kv_e132_14, kv_e132_15, kv_e132_18, kv_e132_21, kv_e132_24, kv_e132_25, kv_e132_28, kv_e132_29, kv_e132_30, kv_e132_33, kv_e132_34, kv_e132_35, kv_e132_38, kv_e132_39, kv_e132_42, kv_e132_45, kv_e132_46, kv_e132_49, kv_e132_50, kv_e132_51, kv_e132_52, kv_e132_55, kv_e132_58, kv_e132_59, kv_e132_62, kv_e132_63, kv_e132_64, kv_e132_65, kv_e132_68, kv_e132_71, kv_e132_72, kv_e132_73, kv_e132_74, kv_e132_75, kv_e132_76, kv_e132_77, kv_e132_80, kv_e132_83, kv_e132_84, kv_o10, not_false_eq_true, not_true, if_true, if_false, kv_then_s, kv_then_v, kv_then_n, List.cons_append, List.nil_append, kv_Ci, kv_Cr, kv_Cn, kv_Cu, kv_C0, kv_catc, kv_gCi, kv_gCl, kv_gCr, kv_nb0, kv_nb1, kv_nbi, kv_nb01, Nat.reduceAdd, Nat.reduceLeDiff, kv_isF3, hKK.1.1, kw_ln2 h8 ho2, eq_false (show ¬ n ≤ o by omega), kv_isS36, kv_get, kv_g0 zK 36 ho8, ek, kv_flies, kv_g11 zK 36 ho8, c1, kv_isHeld, hh, c2, c3', eq_self, kv_suc, q, Bool.false_eq_true]
        · have q : kw_lb (km zM) n n 0 o = false := by
            rw [Bool.eq_false_iff]
            intro q
            rw [← pr] at q
            exact c2 q.2.1
          have c2' : kw_hd (km zM) (km zM o 0 - 1) = true := by rw [Bool.not_eq_false] at c2; exact c2
          simp only [kv_e132_0, kv_e132_1, kv_e132_4, kv_e132_7, kv_e132_8, kv_e132_9, kv_e132_10, kv_e132_11, kv_e132_12, kv_e132_14, kv_e132_15, kv_e132_18, kv_e132_21, kv_e132_24, kv_e132_25, kv_e132_28, kv_e132_29, kv_e132_30, kv_e132_33, kv_e132_34, kv_e132_35, kv_e132_38, kv_e132_39, kv_e132_42, kv_e132_45, kv_e132_46, kv_e132_49, kv_e132_50, kv_e132_51, kv_e132_52, kv_e132_55, kv_e132_58, kv_e132_59, kv_e132_62, kv_e132_63, kv_e132_64, kv_e132_65, kv_e132_68, kv_e132_71, kv_e132_72, kv_e132_73, kv_e132_74, kv_e132_75, kv_e132_76, kv_e132_77, kv_e132_80, kv_e132_83, kv_e132_84, kv_o10, not_false_eq_true, not_true, if_true, if_false, kv_then_s, kv_then_v, kv_then_n, List.cons_append, List.nil_append, kv_Ci, kv_Cr, kv_Cn, kv_Cu, kv_C0, kv_catc, kv_gCi, kv_gCl, kv_gCr, kv_nb0, kv_nb1, kv_nbi, kv_nb01, Nat.reduceAdd, Nat.reduceLeDiff, kv_isF3, hKK.1.1, kw_ln2 h8 ho2, eq_false (show ¬ n ≤ o by omega), kv_isS36, kv_get, kv_g0 zK 36 ho8, ek, kv_flies, kv_g11 zK 36 ho8, c1, kv_isHeld, hh, c2', eq_self, kv_suc, q, Bool.false_eq_true]
end
