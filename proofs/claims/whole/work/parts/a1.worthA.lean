/-! what laws are worth: both sides -/
section
variable {L a d n : Nat} {t : Nat → Int32} {lt : Nat → Int32} {z : Nat → Nat → Int32} {zl : Nat → Nat → Int64}
theorem kx_cg0 {i : Nat} {c : List (Nat × Nat) × List (Nat × Nat)} (h : c.1 = []) : kx_cg i c = c.2.map kx_pk ++ [kx_p2 13 0] := if_pos h
theorem kx_cg1 {i : Nat} {c : List (Nat × Nat) × List (Nat × Nat)} (h : ¬ c.1 = []) : kx_cg i c = c.1.map kx_pk ++ (kx_p2 12 (Int32.ofNat (i + c.1.length + 1 + c.2.length + 1)) :: (c.2.map kx_pk ++ [kx_p2 13 0])) := if_neg h
theorem kx_worth_all : ∀ cl, (∀ x ∈ cl, kx_gc lt x) → ∃ V, kx_cK lt cl V ∧ kx_cM lt cl V := by
  intro cl
  induction cl with
  | nil =>
    intro _
    refine ⟨0, fun S l f i _ hl h256 hf => ?_, fun d n k m z zl _ _ h5 _ hk hn _ => ⟨z 10, ?_⟩⟩
    · obtain ⟨f, rfl⟩ : ∃ f', f = f' + 1 := ⟨f - 1, by rw [show (kx_pg i []).length = 0 from rfl] at hl; omega⟩
      exact if_pos (by rw [← hl]; exact Int32.le_refl _)
    · rw [kw_zid]
      rw [List.length_nil] at h5 hk
      exact kx_M1 h5 (by omega) (by omega) hn
  | cons c cl ih =>
    intro hg
    obtain ⟨W, hW1, hW2⟩ := ih (fun x hx => hg x (List.mem_cons_of_mem _ hx))
    obtain ⟨g1, g2⟩ := hg c (List.mem_cons_self ..)
    obtain ⟨v, v1, v2, v3, v4⟩ := g2
    by_cases he : c.1 = []
    · refine ⟨v, fun S l f i hS hl h256 hf => ?_, fun d n k m z zl hr hc h5 hm hk hn h9 => ?_⟩
      · have hS : kx_ly (fun j x => S j = x) i (kx_cg i c ++ kx_pg (i + (kx_cg i c).length) cl) := hS
        have hl : i + (kx_cg i c ++ kx_pg (i + (kx_cg i c).length) cl).length = l := hl
        obtain ⟨s1, s2⟩ := kx_ly_app hS
        rw [List.length_append] at hl
        rw [kx_cg0 he] at s1 hl
        obtain ⟨s3, s4⟩ := kx_ly_app s1
        rw [List.length_append, List.length_map, List.length_cons, List.length_nil] at hl
        rw [List.length_map] at s4
        obtain ⟨f, rfl⟩ : ∃ f', f = f' + 1 + c.2.length := ⟨f - 1 - c.2.length, by omega⟩
        rw [v3 S l (f + 1) i [] (kx_ly_map s3) (by omega) h256 (by rw [List.length_nil]; omega)]
        exact kx_K13 s4.1 (by omega) h256
      · have hr1 : kx_rP z (140 * n + k) (m, m + c.1.length, m + c.1.length + c.2.length) := hr.1
        have hc1 : kx_ly (kx_mP z) (520 * n + m) (c.1 ++ (c.2 ++ kx_cds cl)) := hc
        have hm : m + (c.1 ++ (c.2 ++ kx_cds cl)).length ≤ 520 := hm
        rw [he, List.nil_append, List.length_append] at hm
        rw [he, List.nil_append] at hc1
        rw [he, List.length_nil, Nat.add_zero] at hr1
        obtain ⟨c2, c3⟩ := kx_ly_app hc1
        rw [List.length_cons] at h5 hk
        obtain ⟨s, r⟩ := kx_workM (d := d) (zl := zl) v4 c2 (by omega) hn (by omega) h9
        refine ⟨s, ?_⟩
        rw [kx_M0 h5 (by omega) (by omega) hn, kx_M22e (by omega) hr1]
        exact kx_M57 (by omega) hr1 r
    · have g1 := g1.resolve_left he
      obtain ⟨u, u1, u2, u3, u4⟩ := g1
      have hpos : 0 < c.1.length := List.length_pos_iff.mpr he
      refine ⟨if u = 0 then W else v, fun S l f i hS hl h256 hf => ?_, fun d n k m z zl hr hc h5 hm hk hn h9 => ?_⟩
      · have hS : kx_ly (fun j x => S j = x) i (kx_cg i c ++ kx_pg (i + (kx_cg i c).length) cl) := hS
        have hl : i + (kx_cg i c ++ kx_pg (i + (kx_cg i c).length) cl).length = l := hl
        obtain ⟨s1, s2⟩ := kx_ly_app hS
        have el : (kx_cg i c).length = c.1.length + (c.2.length + 1 + 1) := by
          rw [kx_cg1 he, List.length_append, List.length_cons, List.length_append, List.length_map, List.length_map]
          rfl
        rw [List.length_append, el] at hl
        rw [el] at s2
        rw [kx_cg1 he] at s1
        obtain ⟨s3, s4⟩ := kx_ly_app s1
        rw [List.length_map] at s4
        obtain ⟨s5, s6⟩ := s4
        obtain ⟨s7, s8⟩ := kx_ly_app s6
        rw [List.length_map] at s8
        obtain ⟨f, rfl⟩ : ∃ f', f = f' + 1 + 1 + c.2.length + c.1.length := ⟨f - 1 - 1 - c.2.length - c.1.length, by omega⟩
        rw [u3 S l (f + 1 + 1 + c.2.length) i [] (kx_ly_map s3) (by omega) h256 (by rw [List.length_nil]; omega), show f + 1 + 1 + c.2.length = (f + 1 + c.2.length) + 1 from by omega, kx_K12 s5 (by omega) (by omega) (by omega) h256]
        by_cases q : u = 0
        · rw [if_pos q, if_pos q]
          refine hW1 S l _ _ ?_ ?_ h256 (by omega)
          · rw [show i + c.1.length + 1 + c.2.length + 1 = i + (c.1.length + (c.2.length + 1 + 1)) from by omega]
            exact s2
          · rw [show i + c.1.length + 1 + c.2.length + 1 = i + (c.1.length + (c.2.length + 1 + 1)) from by omega]
            omega
        · rw [if_neg q, if_neg q, v3 S l (f + 1) (i + c.1.length + 1) [] (kx_ly_map s7) (by omega) h256 (by rw [List.length_nil]; omega)]
          exact kx_K13 s8.1 (by omega) h256
      · have hr1 : kx_rP z (140 * n + k) (m, m + c.1.length, m + c.1.length + c.2.length) := hr.1
        have hr2 : kx_ly (kx_rP z) (140 * n + k + 1) (kx_rws (m + c.1.length + c.2.length) cl) := hr.2
        have hc1 : kx_ly (kx_mP z) (520 * n + m) (c.1 ++ (c.2 ++ kx_cds cl)) := hc
        have hm : m + (c.1 ++ (c.2 ++ kx_cds cl)).length ≤ 520 := hm
        rw [List.length_append, List.length_append] at hm
        obtain ⟨c1, c2⟩ := kx_ly_app hc1
        obtain ⟨c2, c3⟩ := kx_ly_app c2
        rw [List.length_cons] at h5 hk
        obtain ⟨s, r⟩ := kx_workM (d := d) (zl := zl) u4 c1 (by omega) hn (by omega) h9
        have f1 : ∀ c, c ≠ 10 → kv_z z 10 s c = z c := fun c h => kv_zne _ _ h
        have e22 := kx_M22 (d := d + 2) (zl := zl) (n := n) (x := 140 * n + k) (by omega) ⟨by omega, by omega⟩ hr1 r
        rw [kx_M0 h5 (by omega) (by omega) hn, e22]
        by_cases q : u = 0
        · rw [if_pos q, if_pos q]
          have hr3 : kx_ly (kx_rP (kv_z z 10 s)) (140 * n + (k + 1)) (kx_rws (m + c.1.length + c.2.length) cl) := by
            unfold kx_rP at hr2 ⊢
            rw [f1 6 (by omega), f1 7 (by omega), f1 8 (by omega)]
            exact hr2
          have hc3 : kx_ly (kx_mP (kv_z z 10 s)) (520 * n + (m + c.1.length + c.2.length)) (kx_cds cl) := by
            unfold kx_mP at c3 ⊢
            rw [f1 2 (by omega), f1 3 (by omega), show 520 * n + (m + c.1.length + c.2.length) = 520 * n + m + c.1.length + c.2.length from by omega]
            exact c3
          obtain ⟨s2, r2⟩ := hW2 d n (k + 1) (m + c.1.length + c.2.length) (kv_z z 10 s) zl hr3 hc3 (by rw [f1 5 (by omega), h5]; congr 1; omega) (by omega) (by omega) hn (by rw [f1 9 (by omega)]; exact h9)
          rw [kw_zz] at r2
          exact ⟨s2, r2⟩
        · rw [if_neg q, if_neg q]
          have hr3 : kx_rP (kv_z z 10 s) (140 * n + k) (m, m + c.1.length, m + c.1.length + c.2.length) := by
            unfold kx_rP at hr1 ⊢
            rw [f1 6 (by omega), f1 7 (by omega), f1 8 (by omega)]
            exact hr1
          have hc3 : kx_ly (kx_mP (kv_z z 10 s)) (520 * n + (m + c.1.length)) c.2 := by
            unfold kx_mP at c2 ⊢
            rw [f1 2 (by omega), f1 3 (by omega), show 520 * n + (m + c.1.length) = 520 * n + m + c.1.length from by omega]
            exact c2
          obtain ⟨s2, r2⟩ := kx_workM (d := d) (zl := zl) (z := kv_z z 10 s) v4 hc3 (by omega) hn (by omega) (by rw [f1 9 (by omega)]; exact h9)
          rw [kw_zz] at r2
          exact ⟨s2, kx_M57 (by omega) hr3 r2⟩
/-- how long things get -/
theorem kx_cg_len (i : Nat) (c : List (Nat × Nat) × List (Nat × Nat)) : (kx_cg i c).length ≤ c.1.length + c.2.length + 2 := by
  by_cases he : c.1 = []
  · rw [kx_cg0 he, List.length_append, List.length_map, List.length_cons, List.length_nil]
    omega
  · rw [kx_cg1 he, List.length_append, List.length_cons, List.length_append, List.length_map, List.length_map, List.length_cons, List.length_nil]
    omega
theorem kx_law_len {c : Nat → kx_QC} (hc : ∀ a, a ≤ L → (a ≤ (c a).2.1 ∧ (c a).2.1 ≤ L) ∧ ((c a).1 = true → (c a).2.2.1.length + (c a).2.2.2.length + a + 2 ≤ (c a).2.1)) : ∀ f a, a ≤ L → (kx_law c t L f a).2.1 ≤ L ∧ a ≤ (kx_law c t L f a).2.1 ∧ (∀ i, (kx_pg i (kx_law c t L f a).2.2).length + a ≤ (kx_law c t L f a).2.1) ∧ (kx_cds (kx_law c t L f a).2.2).length + a ≤ (kx_law c t L f a).2.1 ∧ 2 * (kx_law c t L f a).2.2.length + a ≤ (kx_law c t L f a).2.1 := by
  intro f
  induction f with
  | zero => intro a ha; exact ⟨ha, Nat.le_refl _, fun i => by show 0 + a ≤ a; omega, by show 0 + a ≤ a; omega, by show 2 * 0 + a ≤ a; omega⟩
  | succ f ih =>
    intro a ha
    obtain ⟨⟨w1, w2⟩, w3⟩ := hc a ha
    have n1 := kw_nx_le t L (c a).2.1
    have n2 := kw_nx_L (t := t) w2
    by_cases q : (c a).1 = true
    · have w3 := w3 q
      have gl := fun i => kx_cg_len i (c a).2.2
      by_cases q1 : kx_sg t L (kw_nx t L (c a).2.1) = 59
      · have hlt := kx_sg_ne (t := t) (L := L) (a := kw_nx t L (c a).2.1) (fun s => absurd (q1.symm.trans s) (by decide))
        obtain ⟨i1, i2, i3, i4, i5⟩ := ih (kw_nx t L (c a).2.1 + 1) (by omega)
        rw [kx_law_1 q q1]
        generalize kx_law c t L f (kw_nx t L (c a).2.1 + 1) = R at *
        refine ⟨i1, by dsimp only; omega, fun i => ?_, ?_, ?_⟩
        · show (kx_cg i (c a).2.2 ++ kx_pg (i + (kx_cg i (c a).2.2).length) R.2.2).length + a ≤ R.2.1
          rw [List.length_append]
          have := i3 (i + (kx_cg i (c a).2.2).length)
          have := gl i
          omega
        · show ((c a).2.2.1 ++ ((c a).2.2.2 ++ kx_cds R.2.2)).length + a ≤ R.2.1
          rw [List.length_append, List.length_append]
          omega
        · show 2 * ((c a).2.2 :: R.2.2).length + a ≤ R.2.1
          rw [List.length_cons]
          omega
      · by_cases q2 : kx_sg t L (kw_nx t L (c a).2.1) = -1
        · rw [kx_law_2 q q1 q2]
          refine ⟨n2, by dsimp only; omega, fun i => ?_, ?_, ?_⟩
          · show (kx_cg i (c a).2.2 ++ []).length + a ≤ kw_nx t L (c a).2.1
            rw [List.append_nil]
            have := gl i
            omega
          · show ((c a).2.2.1 ++ ((c a).2.2.2 ++ [])).length + a ≤ kw_nx t L (c a).2.1
            rw [List.append_nil, List.length_append]
            omega
          · show 2 * 1 + a ≤ kw_nx t L (c a).2.1
            omega
        · rw [kx_law_3 q q1 q2]
          exact ⟨n2, by dsimp only; omega, fun i => by show 0 + a ≤ kw_nx t L (c a).2.1; omega, by show 0 + a ≤ kw_nx t L (c a).2.1; omega, by show 2 * 0 + a ≤ kw_nx t L (c a).2.1; omega⟩
    · rw [kx_law_4 q]
      exact ⟨w2, w1, fun i => by show 0 + a ≤ (c a).2.1; omega, by show 0 + a ≤ (c a).2.1; omega, by show 2 * 0 + a ≤ (c a).2.1; omega⟩
end
