/-! climbing, all kites; rubbing -/
section
variable {d a b : Nat} {e : List kv_E} {z : Nat → Nat → Int32} {zl : Nat → Nat → Int64}
theorem kw_kc_big (z : Nat → Nat → Int32) (a k : Nat) (h : 8 ≤ k) : kc z a k = fun _ => 0 := by
  funext w
  unfold kc
  rw [if_neg (by omega)]
theorem kw_climbS (hS : kv_isS e a) (h35 : 35 < a) (h9 : kw_air z) : ∃ z', kv_Rn (d + 3) 23 0 [some (.ref 33), some (.ref a), none, none, none, none] [] (kv_h e z zl) = some (none, kv_h e z' zl) ∧ kw_F a z z' ∧ kc z' a = kw_climb (kw_lf z (z 7 2)) (kw_win z) (z 3 3) (z a 3) (kc z a) := by
  have hl := kv_up (fun k => ∀ (z1 : Nat → Nat → Int32) (u3 u4 u5 : Option Value), kw_F a z z1 → kc z1 a = kw_mix k (kc z a) (kw_climb (kw_lf z (z 7 2)) (kw_win z) (z 3 3) (z a 3) (kc z a)) → kv_c2 u3 = false → kv_c2 u4 = false →
    ∃ z', kv_Rn (d + 3) 23 2 [some (.ref 33), some (.ref a), some (.int (Int32.ofNat k)), u3, u4, u5] [] (kv_h e z1 zl) = some (none, kv_h e z' zl) ∧ kw_F a z z' ∧ kc z' a = kw_climb (kw_lf z (z 7 2)) (kw_win z) (z 3 3) (z a 3) (kc z a)) 8 ?_ ?_
  · obtain ⟨z', h1, h2⟩ := hl z none none none (fun _ _ _ _ => rfl) (by funext i; unfold kw_mix; rw [if_neg (by omega)]) rfl rfl
    refine ⟨z', ?_, h2⟩
    simp only [kv_e23_0, kv_e23_1, kv_o10, not_false_eq_true, not_true, if_true, if_false, kv_then_s, kv_then_v, kv_then_n, List.cons_append, List.nil_append, kv_Ci, kv_Cr, kv_Cn, kv_Cu, kv_C0, kv_catc, kv_gCi, kv_gCl, kv_gCr, kv_nb0, kv_nb1, kv_nbi, kv_nb01, Nat.reduceAdd, Nat.reduceLeDiff]
    exact h1
  · intro z1 u3 u4 u5 hF hk q3 q4
    refine ⟨z1, ?_, hF, ?_⟩
    · rw [kv_e23_2]
      simp only [kv_e23_3, kv_e23_5, kv_e23_124, kv_o10, not_false_eq_true, not_true, if_true, if_false, kv_then_s, kv_then_v, kv_then_n, List.cons_append, List.nil_append, kv_Ci, kv_Cr, kv_Cn, kv_Cu, kv_C0, kv_catc, kv_gCi, kv_gCl, kv_gCr, kv_nb0, kv_nb1, kv_nbi, kv_nb01, Nat.reduceAdd, Nat.reduceLeDiff, kv_le88]
    · rw [hk]
      funext i
      unfold kw_mix
      by_cases h : i < 8
      · rw [if_pos h]
      · rw [if_neg h]
        unfold kw_climb
        rw [kw_kc_big z a i (by omega), if_pos rfl]
  · intro k hk ih z1 u3 u4 u5 hF hm q3 q4
    have hck : kc z1 a k = kc z a k := by
      rw [hm]
      unfold kw_mix
      rw [if_neg (by omega)]
    by_cases hc : kc z1 a k 11 = 0
    · obtain ⟨z', h1, h2⟩ := ih z1 u3 u4 u5 hF (by
        rw [hm]
        funext i
        unfold kw_mix
        by_cases h : i < k
        · rw [if_pos h, if_pos (by omega)]
        · rw [if_neg h]
          by_cases h2 : i = k
          · subst h2
            rw [if_pos (by omega)]
            unfold kw_climb
            rw [hck] at hc
            rw [if_pos hc]
          · rw [if_neg (by omega)]) q3 q4
      refine ⟨z', ?_, h2⟩
      rw [← h1]
      conv => lhs; rw [kv_e23_2]
      simp only [kv_e23_3, kv_e23_5, kv_e23_8, kv_e23_9, kv_e23_10, kv_e23_13, kv_e23_16, kv_e23_118, kv_e23_121, kv_o10, not_false_eq_true, not_true, if_true, if_false, kv_then_s, kv_then_v, kv_then_n, List.cons_append, List.nil_append, kv_Ci, kv_Cr, kv_Cn, kv_Cu, kv_C0, kv_catc, kv_gCi, kv_gCl, kv_gCr, kv_nb0, kv_nb1, kv_nbi, kv_nb01, Nat.reduceAdd, Nat.reduceLeDiff, kv_le8 hk, hS, kv_flies, kv_g11 z1 a hk, hc, kv_suc, eq_self]
    · obtain ⟨z2, v3, v4, v5, h1, h2, h3, q5, q6⟩ := kw_climb_l (d := d) (zl := zl) hS h35 h9 hk hF hc u3 u4 u5 q3 q4
      obtain ⟨z', h4, h5⟩ := ih z2 v3 v4 v5 h2 (by
        rw [h3, hck, hm]
        funext i
        unfold kw_mix
        by_cases h : i = k
        · subst h
          rw [if_pos rfl, if_pos (by omega)]
          unfold kw_climb
          rw [hck] at hc
          rw [if_neg hc]
        · rw [if_neg h]
          by_cases h6 : i < k
          · rw [if_pos h6, if_pos (by omega)]
          · rw [if_neg h6, if_neg (by omega)]) q5 q6
      exact ⟨z', h1.trans h4, h5⟩
def kw_up (r : Nat → Int32) : Prop := ¬ r 11 = 0 ∧ 0 < r 4
def kw_tch (r s : Nat → Int32) : Prop := (r 0 - s 0 = 1 ∨ r 0 - s 0 = -1) ∧ kw_up s
noncomputable def kw_wsum (lf : Option ((Nat → Int32) → Int32)) (m : Int32) (c : Nat → Nat → Int32) (k n : Nat) : Int32 := kv_sm n (fun o => @ite _ (kw_tch (c k) (c o)) (Classical.propDecidable _) (kw_wear lf (c k) (c o) m) 0)
def kw_rw (x : Int32) (r : Nat → Int32) : Nat → Int32 := fun w => if w = 9 then x else r w
noncomputable def kw_rub1 (lf : Option ((Nat → Int32) → Int32)) (m : Int32) (c : Nat → Nat → Int32) : Nat → Nat → Int32 := fun k => @ite _ (kw_up (c k)) (Classical.propDecidable _) (kw_rw (c k 9 + kw_wsum lf m c k 8) (c k)) (c k)
def kw_gr (r : Nat → Int32) : Nat → Int32 := fun w => if w = 3 ∨ w = 4 ∨ w = 11 then 0 else r w
def kw_cut (c : Nat → Nat → Int32) : Nat → Nat → Int32 := fun k => if ¬ c k 11 = 0 ∧ kv_mx 1 (10 - 3 * c k 10) ≤ c k 9 then kw_gr (c k) else c k
noncomputable def kw_rub (lf : Option ((Nat → Int32) → Int32)) (m : Int32) (c : Nat → Nat → Int32) : Nat → Nat → Int32 := kw_cut (kw_rub1 lf m c)
end
