/-! sit -/
section
variable {d n B W : Nat} {e : List kv_E} {z zK zM zK' zM' : Nat → Nat → Int32} {zl zlM : Nat → Nat → Int64}
def kw_w0 (m : Nat) (c : Nat → Nat → Int32) : Nat → Nat → Int32 := fun k w => if k < m ∧ w = 12 then 0 else c k w
theorem kw_w0_s (m : Nat) (c : Nat → Nat → Int32) : kv_pt (kw_w0 m c) m 12 0 = kw_w0 (m + 1) c := by
  funext k w
  unfold kv_pt kw_w0
  by_cases h : k = m ∧ w = 12
  · rw [if_pos h, if_pos (by omega)]
  · rw [if_neg h]
    by_cases h2 : k < m ∧ w = 12
    · rw [if_pos h2, if_pos (by omega)]
    · rw [if_neg h2, if_neg (by omega)]
theorem kw_putBy {nb : Nat} (hb : nb < 40) (hz : z 36 2 = Int32.ofNat nb) (r : Int32) : ∃ z', kv_Rn (d + 1) 72 0 [some (.ref 36), some (.int r), none] [] (kv_h e z zl) = some (none, kv_h e z' zl) ∧ (∀ c, c < 36 ∨ 38 < c → z' c = z c) ∧ kw_vk z' 36 = (kw_w0 8 (kc z 36), (fun i => if i = nb then r else (kw_vk z 36).2.1 i), Int32.ofNat (nb + 1), 0, if r = 2 then z 36 4 else r) := by
  have hb2 : nb < 2147483648 := by omega
  have q40 : (40 ≤ Int32.ofNat nb) = False := kv_ln_ (m := 40) hb (by omega)
  -- the loop of the wax
  have lp : ∀ z0 : Nat → Nat → Int32, ∃ z', kv_Rn (d + 1) 72 56 [some (.ref 36), some (.int r), some (.int (Int32.ofNat 0))] [] (kv_h e z0 zl) = some (none, kv_h e z' zl) ∧ (∀ c, c ≠ 37 → z' c = z0 c) ∧ kc z' 36 = kw_w0 8 (kc z0 36) := by
    intro z0
    have hl := kv_up (fun k => ∀ z1, (∀ c, c ≠ 37 → z1 c = z0 c) → kc z1 36 = kw_w0 k (kc z0 36) → ∃ z', kv_Rn (d + 1) 72 56 [some (.ref 36), some (.int r), some (.int (Int32.ofNat k))] [] (kv_h e z1 zl) = some (none, kv_h e z' zl) ∧ (∀ c, c ≠ 37 → z' c = z0 c) ∧ kc z' 36 = kw_w0 8 (kc z0 36)) 8 ?_ ?_
    · exact hl z0 (fun _ _ => rfl) (by funext k w; unfold kw_w0; rw [if_neg (by omega)])
    · intro z1 h1 h2
      refine ⟨z1, ?_, h1, h2⟩
      rw [kv_e72_56]
      simp only [kv_e72_57, kv_e72_59, kv_e72_76, kv_o10, not_false_eq_true, not_true, if_true, if_false, kv_then_s, kv_then_v, kv_then_n, List.cons_append, List.nil_append, kv_Ci, kv_Cr, kv_Cn, kv_Cu, kv_C0, kv_catc, kv_gCi, kv_gCl, kv_gCr, kv_nb0, kv_nb1, kv_nbi, kv_nb01, Nat.reduceAdd, Nat.reduceLeDiff, kv_le88]
    · intro k hk ih z1 h1 h2
      obtain ⟨z', r1, r2⟩ := ih (kv_su z1 36 (Int32.ofNat k) 12 0) (fun c hc => (kw_su_fr _ _ _ _ _ (by omega)).trans (h1 c hc)) (by rw [kw_sk12 _ 36 hk, h2, kw_w0_s])
      refine ⟨z', ?_, r2⟩
      rw [← r1, kv_e72_56]
      simp only [kv_e72_57, kv_e72_59, kv_e72_62, kv_e72_63, kv_e72_64, kv_e72_66, kv_e72_67, kv_e72_70, kv_e72_73, kv_o10, not_false_eq_true, not_true, if_true, if_false, kv_then_s, kv_then_v, kv_then_n, List.cons_append, List.nil_append, kv_Ci, kv_Cr, kv_Cn, kv_Cu, kv_C0, kv_catc, kv_gCi, kv_gCl, kv_gCr, kv_nb0, kv_nb1, kv_nbi, kv_nb01, Nat.reduceAdd, Nat.reduceLeDiff, kv_le8 hk, kv_isS36, kv_set, kv_suc]
  have zz : ∀ (z0 : Nat → Nat → Int32) (f g : Nat → Int32), kv_z (kv_z z0 36 f) 36 g = kv_z z0 36 g := fun z0 f g => kw_zz z0 36 f g
  have i40 : Int32.ofNat 40 = 40 := rfl
  by_cases c : r = 2
  · obtain ⟨z', r1, r2, r3⟩ := lp (kv_z (kv_z z 38 (upd (z 38) nb r)) 36 (upd (upd (z 36) 2 (Int32.ofNat (nb + 1))) 3 0))
    refine ⟨z', ?_, fun k hk => ?_, ?_⟩
    · have e36 : kv_z z 38 (upd (z 38) nb r) 36 = z 36 := kv_zne _ _ (by omega)
      have e38 : ∀ f, kv_z z 38 f 36 = z 36 := fun f => kv_zne _ _ (by omega)
      simp only [kv_e72_0, kv_e72_1, kv_e72_4, kv_e72_7, kv_e72_8, kv_e72_11, kv_e72_12, kv_e72_15, kv_e72_16, kv_e72_19, kv_e72_20, kv_e72_23, kv_e72_24, kv_e72_27, kv_e72_28, kv_e72_29, kv_e72_30, kv_e72_31, kv_e72_34, kv_e72_35, kv_e72_36, kv_e72_39, kv_e72_40, kv_e72_41, kv_e72_49, kv_e72_50, kv_e72_51, kv_e72_54, kv_e72_55, kv_o10, not_false_eq_true, not_true, if_true, if_false, kv_then_s, kv_then_v, kv_then_n, List.cons_append, List.nil_append, kv_Ci, kv_Cr, kv_Cn, kv_Cu, kv_C0, kv_catc, kv_gCi, kv_gCl, kv_gCr, kv_nb0, kv_nb1, kv_nbi, kv_nb01, Nat.reduceAdd, Nat.reduceLeDiff, kv_isS36, hz, kw_n0 hb2, kv_ia38, true_or, kv_ar_lt (show 38 < 300 by omega), kv_aw38, i40, q40, kv_tn hb2, kv_lN hb, or_self, kv_suc, c, eq_self, kv_zs, zz, e38]
      rw [c] at r1
      exact r1
    · rw [r2 k (by omega), kv_zne _ _ (by omega), kv_zne _ _ (by omega)]
    · unfold kw_vk
      rw [r3, r2 38 (by omega), r2 36 (by omega)]
      refine Prod.ext ?_ (Prod.ext ?_ (Prod.ext ?_ (Prod.ext ?_ ?_)))
      · exact congrArg (kw_w0 8) (kw_kc_fr (by rw [kv_zne _ _ (by omega), kv_zne _ _ (by omega)]))
      · funext i
        dsimp only
        rw [kv_zne _ _ (by omega), kv_zs]
        unfold upd
        by_cases h1 : i = nb
        · rw [if_pos h1, if_pos h1, if_pos (by omega)]
        · rw [if_neg h1, if_neg h1]
      · rw [kv_zs]; rfl
      · rw [kv_zs]; rfl
      · rw [kv_zs, if_pos c]; rfl
  · obtain ⟨z', r1, r2, r3⟩ := lp (kv_z (kv_z z 38 (upd (z 38) nb r)) 36 (upd (upd (upd (z 36) 2 (Int32.ofNat (nb + 1))) 4 r) 3 0))
    refine ⟨z', ?_, fun k hk => ?_, ?_⟩
    · have e38 : ∀ f, kv_z z 38 f 36 = z 36 := fun f => kv_zne _ _ (by omega)
      simp only [kv_e72_0, kv_e72_1, kv_e72_4, kv_e72_7, kv_e72_8, kv_e72_11, kv_e72_12, kv_e72_15, kv_e72_16, kv_e72_19, kv_e72_20, kv_e72_23, kv_e72_24, kv_e72_27, kv_e72_28, kv_e72_29, kv_e72_30, kv_e72_31, kv_e72_34, kv_e72_35, kv_e72_36, kv_e72_39, kv_e72_40, kv_e72_41, kv_e72_44, kv_e72_45, kv_e72_46, kv_e72_49, kv_e72_50, kv_e72_51, kv_e72_54, kv_e72_55, kv_o10, not_false_eq_true, not_true, if_true, if_false, kv_then_s, kv_then_v, kv_then_n, List.cons_append, List.nil_append, kv_Ci, kv_Cr, kv_Cn, kv_Cu, kv_C0, kv_catc, kv_gCi, kv_gCl, kv_gCr, kv_nb0, kv_nb1, kv_nbi, kv_nb01, Nat.reduceAdd, Nat.reduceLeDiff, kv_isS36, hz, kw_n0 hb2, kv_ia38, true_or, kv_ar_lt (show 38 < 300 by omega), kv_aw38, i40, q40, kv_tn hb2, kv_lN hb, or_self, kv_suc, c, kv_zs, zz, e38]
      exact r1
    · rw [r2 k (by omega), kv_zne _ _ (by omega), kv_zne _ _ (by omega)]
    · unfold kw_vk
      rw [r3, r2 38 (by omega), r2 36 (by omega)]
      refine Prod.ext ?_ (Prod.ext ?_ (Prod.ext ?_ (Prod.ext ?_ ?_)))
      · exact congrArg (kw_w0 8) (kw_kc_fr (by rw [kv_zne _ _ (by omega), kv_zne _ _ (by omega)]))
      · funext i
        dsimp only
        rw [kv_zne _ _ (by omega), kv_zs]
        unfold upd
        by_cases h1 : i = nb
        · rw [if_pos h1, if_pos h1, if_pos (by omega)]
        · rw [if_neg h1, if_neg h1]
      · rw [kv_zs]; rfl
      · rw [kv_zs]; rfl
      · rw [kv_zs, if_neg c]; rfl
end
