/-- a step within the method, the cells grown at most -/
def kv_Gr (h : kv_H) (X : kv_X) : Prop := ∃ (pc' : Nat) (ls' : kv_L) (st' : List Value) (h' : kv_H), X = Sum.inr (Sum.inl (pc', ls', st', h')) ∧ h.1.length ≤ h'.1.length ∧ kv_sl h.1 ≤ kv_sl h'.1
theorem kv_cg {pc : Nat} {ls : kv_L} {st : List Value} {h h' : kv_H} {X : kv_X} (e : kv_go pc ls st h' = some X) (h1 : h.1.length ≤ h'.1.length) (h2 : kv_sl h.1 ≤ kv_sl h'.1) : kv_Gr h X := ⟨_, _, _, _, (Option.some.inj e).symm, h1, h2⟩
theorem kv_m_ald {t : List (List Int32)} {lo a pc : Nat} {ls : kv_L} {h : kv_H} {i : Int32} {r : List Value} {X : kv_X} (e : kv_ald t lo pc ls h a i r = some X) : kv_Gr h X := by
  unfold kv_ald at e
  split at e
  · split at e
    · cases e
    · exact kv_cg e (Nat.le_refl _) (Nat.le_refl _)
  · cases e
theorem kv_m_push (sh : List kv_E) (e : kv_E) : sh.length ≤ (sh ++ [e]).length ∧ kv_sl sh ≤ kv_sl (sh ++ [e]) := by
  rw [kv_sl_push]
  exact ⟨by simp, Nat.le_add_right _ _⟩
theorem kv_m_get {c idx pc : Nat} {ls : kv_L} {h : kv_H} {a : Nat} {r : List Value} {X : kv_X} (e : kv_gf c idx pc ls h a r = some X) : kv_Gr h X := by
  rcases kv_gf_inv e with ⟨ci, kk, ne, fl, hmem, hae, ⟨-, e2⟩ | ⟨x, -, e2⟩⟩ | ⟨ha1, ha2, ⟨-, e2⟩ | ⟨-, e2⟩⟩ <;>
    exact kv_cg e2 (Nat.le_refl _) (Nat.le_refl _)
theorem kv_m_put {c idx pc : Nat} {nm : String} {ls : kv_L} {h : kv_H} {st : List Value} {X : kv_X} (e : kv_pf c nm idx pc ls st h = some X) : kv_Gr h X := by
  unfold kv_pf at e
  split at e
  · split at e
    · split at e
      · split at e
        · rename_i cj fl hae
          split at e
          · split at e
            · split at e
              · exact kv_cg e (Nat.le_refl _) (Nat.le_refl _)
              · cases e
            · split at e
              · exact kv_cg e (Nat.le_refl _) (Nat.le_refl _)
              · cases e
            · split at e
              · exact kv_cg e (by simp) (Nat.le_of_eq (kv_sl_set hae (by simp [kv_szE])).symm)
              · cases e
            · cases e
          · cases e
        · cases e
      · cases e
    · cases e
  · cases e
theorem kv_m_ars {pc : Nat} {ls : kv_L} {h : kv_H} {st : List Value} {X : kv_X} (e : kv_ars pc ls st h = some X) : kv_Gr h X := by
  unfold kv_ars at e
  split at e
  · split at e
    · split at e
      · rename_i hae hve
        split at e
        · exact kv_cg e (by simp) (Nat.le_of_eq (kv_sl_set hae (by simp [kv_szE])).symm)
        · cases e
      · cases e
    · cases e
  · cases e
theorem kv_m_copy {pc : Nat} {ls : kv_L} {h : kv_H} {st : List Value} {X : kv_X} (e : kv_copy pc ls st h = some X) : kv_Gr h X := by
  unfold kv_copy at e
  split at e
  · split at e
    · split at e
      · split at e
        · exact kv_cg e (Nat.le_refl _) (Nat.le_refl _)
        · cases e
      · cases e
    · cases e
  · cases e
theorem kv_m_math {w pc : Nat} {ls : kv_L} {h : kv_H} {st : List Value} {X : kv_X} (e : kv_math w pc ls st h = some X) : kv_Gr h X := by
  unfold kv_math at e
  split at e
  · obtain ⟨x, y, r, rfl, e2⟩ := kv_ii_inv e
    split at e2
    · exact kv_cg e2 (Nat.le_refl _) (Nat.le_refl _)
    · cases e2
  · obtain ⟨x, y, r, rfl, e2⟩ := kv_ii_inv e
    split at e2
    · exact kv_cg e2 (Nat.le_refl _) (Nat.le_refl _)
    · cases e2
  · obtain ⟨x, r, rfl, e2⟩ := kv_i_inv e
    split at e2
    · exact kv_cg e2 (Nat.le_refl _) (Nat.le_refl _)
    · cases e2
  · obtain ⟨x, y, r, rfl, e2⟩ := kv_ll_inv e
    split at e2
    · exact kv_cg e2 (Nat.le_refl _) (Nat.le_refl _)
    · cases e2
  · obtain ⟨x, y, r, rfl, e2⟩ := kv_ll_inv e
    split at e2
    · exact kv_cg e2 (Nat.le_refl _) (Nat.le_refl _)
    · cases e2
  · cases e
theorem kv_call_x {j pc n : Nat} {sh : List kv_E} {ls : kv_L} {st : List Value} {dyn : Bool} {X : kv_X} (e : kv_call j pc n sh ls st dyn = some X) : ∃ y, X = Sum.inr (Sum.inr y) := by
  unfold kv_call at e
  split at e
  · obtain ⟨-, e⟩ := kv_if_inv e
    exact ⟨_, e.symm⟩
  · cases e
set_option maxHeartbeats 4000000 in
theorem kv_ex_cases {q : kv_M} {i : Instr} {len pc : Nat} {ls : kv_L} {st : List Value} {h : kv_H} {X : kv_X} (e1 : kv_ex q i len pc ls st h = some X) : kv_Gr h X ∨ (∃ v, X = Sum.inl v ∧ len = 1 ∧ ((i = .ireturn ∧ kv_ret q.2.2.2.2.2.1 st = some X) ∨ (i = .areturn ∧ ((∃ a, st = [.ref a] ∧ v = some (.ref a)) ∨ (st = [.null] ∧ v = some .null)) ∧ ∃ t, q.2.2.2.2.2.1 = some t ∧ kv_rT t = true) ∨ (i = .return_ ∧ st = [] ∧ v = none ∧ q.2.2.2.2.2.1 = none))) ∨ (∃ y, X = Sum.inr (Sum.inr y) ∧ len = 3 ∧ ∃ (kd : Nat) (k j ne : Nat), (q.1, k, j, kd, ne) ∈ kv_LM ∧ ((kd = 0 ∧ i = .invokestatic k ∧ kv_call j pc (kv_Ms.getD j kv_dM).2.2.2.2.2.2.1 h.1 ls st false = some X) ∨ (kd = 1 ∧ i = .invokevirtual k ∧ kv_call j pc ((kv_Ms.getD j kv_dM).2.2.2.2.2.2.1 + 1) h.1 ls st true = some X) ∨ (kd = 2 ∧ i = .invokespecial k ∧ kv_call j pc ((kv_Ms.getD j kv_dM).2.2.2.2.2.2.1 + 1) h.1 ls st true = some X))) := by
  cases i with
  | iconst n =>
    dsimp only [kv_ex] at e1
    obtain ⟨rfl, e2⟩ := kv_ln_inv e1
    exact Or.inl (kv_cg e2 (Nat.le_refl _) (Nat.le_refl _))
  | bipush n =>
    dsimp only [kv_ex] at e1
    obtain ⟨rfl, e2⟩ := kv_ln_inv e1
    exact Or.inl (kv_cg e2 (Nat.le_refl _) (Nat.le_refl _))
  | sipush n =>
    dsimp only [kv_ex] at e1
    obtain ⟨rfl, e2⟩ := kv_ln_inv e1
    exact Or.inl (kv_cg e2 (Nat.le_refl _) (Nat.le_refl _))
  | lconst n =>
    dsimp only [kv_ex] at e1
    obtain ⟨rfl, e2⟩ := kv_ln_inv e1
    exact Or.inl (kv_cg e2 (Nat.le_refl _) (Nat.le_refl _))
  | aconst_null =>
    dsimp only [kv_ex] at e1
    obtain ⟨rfl, e2⟩ := kv_ln_inv e1
    exact Or.inl (kv_cg e2 (Nat.le_refl _) (Nat.le_refl _))
  | iload_n k9 =>
    dsimp only [kv_ex] at e1
    obtain ⟨rfl, e2⟩ := kv_ln_inv e1
    split at e2
    · rename_i x hx9
      exact Or.inl (kv_cg e2 (Nat.le_refl _) (Nat.le_refl _))
    · cases e2
  | iload k9 =>
    dsimp only [kv_ex] at e1
    obtain ⟨rfl, e2⟩ := kv_ln_inv e1
    split at e2
    · rename_i x hx9
      exact Or.inl (kv_cg e2 (Nat.le_refl _) (Nat.le_refl _))
    · cases e2
  | lload_n k9 =>
    dsimp only [kv_ex] at e1
    obtain ⟨rfl, e2⟩ := kv_ln_inv e1
    split at e2
    · rename_i x hx9
      exact Or.inl (kv_cg e2 (Nat.le_refl _) (Nat.le_refl _))
    · cases e2
  | aload_n k9 =>
    dsimp only [kv_ex] at e1
    obtain ⟨rfl, e2⟩ := kv_ln_inv e1
    split at e2
    · rename_i x hx9
      exact Or.inl (kv_cg e2 (Nat.le_refl _) (Nat.le_refl _))
    · rename_i hx9
      exact Or.inl (kv_cg e2 (Nat.le_refl _) (Nat.le_refl _))
    · cases e2
  | aload k9 =>
    dsimp only [kv_ex] at e1
    obtain ⟨rfl, e2⟩ := kv_ln_inv e1
    split at e2
    · rename_i x hx9
      exact Or.inl (kv_cg e2 (Nat.le_refl _) (Nat.le_refl _))
    · rename_i hx9
      exact Or.inl (kv_cg e2 (Nat.le_refl _) (Nat.le_refl _))
    · cases e2
  | istore_n k9 =>
    dsimp only [kv_ex] at e1
    obtain ⟨rfl, e2⟩ := kv_ln_inv e1
    obtain ⟨x, r, rfl, e3⟩ := kv_i_inv e2
    obtain ⟨z1, z2, e4⟩ := kv_st_inv e3
    exact Or.inl (kv_cg e4 (Nat.le_refl _) (Nat.le_refl _))
  | istore k9 =>
    dsimp only [kv_ex] at e1
    obtain ⟨rfl, e2⟩ := kv_ln_inv e1
    obtain ⟨x, r, rfl, e3⟩ := kv_i_inv e2
    obtain ⟨z1, z2, e4⟩ := kv_st_inv e3
    exact Or.inl (kv_cg e4 (Nat.le_refl _) (Nat.le_refl _))
  | lstore_n k9 =>
    dsimp only [kv_ex] at e1
    obtain ⟨rfl, e2⟩ := kv_ln_inv e1
    obtain ⟨x, r, rfl, e3⟩ := kv_l_inv e2
    obtain ⟨z1, z2, e4⟩ := kv_st2_inv e3
    exact Or.inl (kv_cg e4 (Nat.le_refl _) (Nat.le_refl _))
  | astore_n k9 =>
    dsimp only [kv_ex] at e1
    obtain ⟨rfl, e2⟩ := kv_ln_inv e1
    split at e2
    · obtain ⟨z1, z2, e3⟩ := kv_st_inv e2
      exact Or.inl (kv_cg e3 (Nat.le_refl _) (Nat.le_refl _))
    · obtain ⟨z1, z2, e3⟩ := kv_st_inv e2
      exact Or.inl (kv_cg e3 (Nat.le_refl _) (Nat.le_refl _))
    · cases e2
  | astore k9 =>
    dsimp only [kv_ex] at e1
    obtain ⟨rfl, e2⟩ := kv_ln_inv e1
    split at e2
    · obtain ⟨z1, z2, e3⟩ := kv_st_inv e2
      exact Or.inl (kv_cg e3 (Nat.le_refl _) (Nat.le_refl _))
    · obtain ⟨z1, z2, e3⟩ := kv_st_inv e2
      exact Or.inl (kv_cg e3 (Nat.le_refl _) (Nat.le_refl _))
    · cases e2
  | iinc k9 n9 =>
    dsimp only [kv_ex] at e1
    obtain ⟨rfl, e2⟩ := kv_ln_inv e1
    split at e2
    · rename_i x hx9
      obtain ⟨z1, z2, e3⟩ := kv_st_inv e2
      exact Or.inl (kv_cg e3 (Nat.le_refl _) (Nat.le_refl _))
    · cases e2
  | iadd =>
    dsimp only [kv_ex] at e1
    obtain ⟨rfl, e2⟩ := kv_ln_inv e1
    obtain ⟨x, y, r, rfl, e3⟩ := kv_ii_inv e2
    exact Or.inl (kv_cg e3 (Nat.le_refl _) (Nat.le_refl _))
  | isub =>
    dsimp only [kv_ex] at e1
    obtain ⟨rfl, e2⟩ := kv_ln_inv e1
    obtain ⟨x, y, r, rfl, e3⟩ := kv_ii_inv e2
    exact Or.inl (kv_cg e3 (Nat.le_refl _) (Nat.le_refl _))
  | imul =>
    dsimp only [kv_ex] at e1
    obtain ⟨rfl, e2⟩ := kv_ln_inv e1
    obtain ⟨x, y, r, rfl, e3⟩ := kv_ii_inv e2
    exact Or.inl (kv_cg e3 (Nat.le_refl _) (Nat.le_refl _))
  | iand =>
    dsimp only [kv_ex] at e1
    obtain ⟨rfl, e2⟩ := kv_ln_inv e1
    obtain ⟨x, y, r, rfl, e3⟩ := kv_ii_inv e2
    exact Or.inl (kv_cg e3 (Nat.le_refl _) (Nat.le_refl _))
  | ior =>
    dsimp only [kv_ex] at e1
    obtain ⟨rfl, e2⟩ := kv_ln_inv e1
    obtain ⟨x, y, r, rfl, e3⟩ := kv_ii_inv e2
    exact Or.inl (kv_cg e3 (Nat.le_refl _) (Nat.le_refl _))
  | ixor =>
    dsimp only [kv_ex] at e1
    obtain ⟨rfl, e2⟩ := kv_ln_inv e1
    obtain ⟨x, y, r, rfl, e3⟩ := kv_ii_inv e2
    exact Or.inl (kv_cg e3 (Nat.le_refl _) (Nat.le_refl _))
  | ishl =>
    dsimp only [kv_ex] at e1
    obtain ⟨rfl, e2⟩ := kv_ln_inv e1
    obtain ⟨x, y, r, rfl, e3⟩ := kv_ii_inv e2
    exact Or.inl (kv_cg e3 (Nat.le_refl _) (Nat.le_refl _))
  | ishr =>
    dsimp only [kv_ex] at e1
    obtain ⟨rfl, e2⟩ := kv_ln_inv e1
    obtain ⟨x, y, r, rfl, e3⟩ := kv_ii_inv e2
    exact Or.inl (kv_cg e3 (Nat.le_refl _) (Nat.le_refl _))
  | iushr =>
    dsimp only [kv_ex] at e1
    obtain ⟨rfl, e2⟩ := kv_ln_inv e1
    obtain ⟨x, y, r, rfl, e3⟩ := kv_ii_inv e2
    exact Or.inl (kv_cg e3 (Nat.le_refl _) (Nat.le_refl _))
  | idiv =>
    dsimp only [kv_ex] at e1
    obtain ⟨rfl, e2⟩ := kv_ln_inv e1
    obtain ⟨x, y, r, rfl, e3⟩ := kv_ii_inv e2
    split at e3
    · cases e3
    · rename_i hy
      exact Or.inl (kv_cg e3 (Nat.le_refl _) (Nat.le_refl _))
  | irem =>
    dsimp only [kv_ex] at e1
    obtain ⟨rfl, e2⟩ := kv_ln_inv e1
    obtain ⟨x, y, r, rfl, e3⟩ := kv_ii_inv e2
    split at e3
    · cases e3
    · rename_i hy
      exact Or.inl (kv_cg e3 (Nat.le_refl _) (Nat.le_refl _))
  | ineg =>
    dsimp only [kv_ex] at e1
    obtain ⟨rfl, e2⟩ := kv_ln_inv e1
    obtain ⟨x, r, rfl, e3⟩ := kv_i_inv e2
    exact Or.inl (kv_cg e3 (Nat.le_refl _) (Nat.le_refl _))
  | ladd =>
    dsimp only [kv_ex] at e1
    obtain ⟨rfl, e2⟩ := kv_ln_inv e1
    obtain ⟨x, y, r, rfl, e3⟩ := kv_ll_inv e2
    exact Or.inl (kv_cg e3 (Nat.le_refl _) (Nat.le_refl _))
  | lsub =>
    dsimp only [kv_ex] at e1
    obtain ⟨rfl, e2⟩ := kv_ln_inv e1
    obtain ⟨x, y, r, rfl, e3⟩ := kv_ll_inv e2
    exact Or.inl (kv_cg e3 (Nat.le_refl _) (Nat.le_refl _))
  | lmul =>
    dsimp only [kv_ex] at e1
    obtain ⟨rfl, e2⟩ := kv_ln_inv e1
    obtain ⟨x, y, r, rfl, e3⟩ := kv_ll_inv e2
    exact Or.inl (kv_cg e3 (Nat.le_refl _) (Nat.le_refl _))
  | ldiv =>
    dsimp only [kv_ex] at e1
    obtain ⟨rfl, e2⟩ := kv_ln_inv e1
    obtain ⟨x, y, r, rfl, e3⟩ := kv_ll_inv e2
    split at e3
    · cases e3
    · rename_i hy
      exact Or.inl (kv_cg e3 (Nat.le_refl _) (Nat.le_refl _))
  | lrem =>
    dsimp only [kv_ex] at e1
    obtain ⟨rfl, e2⟩ := kv_ln_inv e1
    obtain ⟨x, y, r, rfl, e3⟩ := kv_ll_inv e2
    split at e3
    · cases e3
    · rename_i hy
      exact Or.inl (kv_cg e3 (Nat.le_refl _) (Nat.le_refl _))
  | lcmp =>
    dsimp only [kv_ex] at e1
    obtain ⟨rfl, e2⟩ := kv_ln_inv e1
    obtain ⟨x, y, r, rfl, e3⟩ := kv_ll_inv e2
    exact Or.inl (kv_cg e3 (Nat.le_refl _) (Nat.le_refl _))
  | lushr =>
    dsimp only [kv_ex] at e1
    obtain ⟨rfl, e2⟩ := kv_ln_inv e1
    obtain ⟨x, y, r, rfl, e3⟩ := kv_li_inv e2
    exact Or.inl (kv_cg e3 (Nat.le_refl _) (Nat.le_refl _))
  | i2l =>
    dsimp only [kv_ex] at e1
    obtain ⟨rfl, e2⟩ := kv_ln_inv e1
    obtain ⟨x, r, rfl, e3⟩ := kv_i_inv e2
    exact Or.inl (kv_cg e3 (Nat.le_refl _) (Nat.le_refl _))
  | i2b =>
    dsimp only [kv_ex] at e1
    obtain ⟨rfl, e2⟩ := kv_ln_inv e1
    obtain ⟨x, r, rfl, e3⟩ := kv_i_inv e2
    exact Or.inl (kv_cg e3 (Nat.le_refl _) (Nat.le_refl _))
  | i2c =>
    dsimp only [kv_ex] at e1
    obtain ⟨rfl, e2⟩ := kv_ln_inv e1
    obtain ⟨x, r, rfl, e3⟩ := kv_i_inv e2
    exact Or.inl (kv_cg e3 (Nat.le_refl _) (Nat.le_refl _))
  | l2i =>
    dsimp only [kv_ex] at e1
    obtain ⟨rfl, e2⟩ := kv_ln_inv e1
    obtain ⟨x, r, rfl, e3⟩ := kv_l_inv e2
    exact Or.inl (kv_cg e3 (Nat.le_refl _) (Nat.le_refl _))
  | ifCond cnd off =>
    cases cnd with
    | eq =>
      dsimp only [kv_ex] at e1
      obtain ⟨rfl, e2⟩ := kv_ln_inv e1
      obtain ⟨x, r, rfl, e3⟩ := kv_i_inv e2
      obtain ⟨t, ht, e4⟩ := kv_tg_inv e3
      split at e4
      · rename_i hc
        exact Or.inl (kv_cg e4 (Nat.le_refl _) (Nat.le_refl _))
      · rename_i hc
        exact Or.inl (kv_cg e4 (Nat.le_refl _) (Nat.le_refl _))
    | ne =>
      dsimp only [kv_ex] at e1
      obtain ⟨rfl, e2⟩ := kv_ln_inv e1
      obtain ⟨x, r, rfl, e3⟩ := kv_i_inv e2
      obtain ⟨t, ht, e4⟩ := kv_tg_inv e3
      split at e4
      · rename_i hc
        exact Or.inl (kv_cg e4 (Nat.le_refl _) (Nat.le_refl _))
      · rename_i hc
        exact Or.inl (kv_cg e4 (Nat.le_refl _) (Nat.le_refl _))
    | lt =>
      dsimp only [kv_ex] at e1
      obtain ⟨rfl, e2⟩ := kv_ln_inv e1
      obtain ⟨x, r, rfl, e3⟩ := kv_i_inv e2
      obtain ⟨t, ht, e4⟩ := kv_tg_inv e3
      split at e4
      · rename_i hc
        exact Or.inl (kv_cg e4 (Nat.le_refl _) (Nat.le_refl _))
      · rename_i hc
        exact Or.inl (kv_cg e4 (Nat.le_refl _) (Nat.le_refl _))
    | ge =>
      dsimp only [kv_ex] at e1
      obtain ⟨rfl, e2⟩ := kv_ln_inv e1
      obtain ⟨x, r, rfl, e3⟩ := kv_i_inv e2
      obtain ⟨t, ht, e4⟩ := kv_tg_inv e3
      split at e4
      · rename_i hc
        exact Or.inl (kv_cg e4 (Nat.le_refl _) (Nat.le_refl _))
      · rename_i hc
        exact Or.inl (kv_cg e4 (Nat.le_refl _) (Nat.le_refl _))
    | gt =>
      dsimp only [kv_ex] at e1
      obtain ⟨rfl, e2⟩ := kv_ln_inv e1
      obtain ⟨x, r, rfl, e3⟩ := kv_i_inv e2
      obtain ⟨t, ht, e4⟩ := kv_tg_inv e3
      split at e4
      · rename_i hc
        exact Or.inl (kv_cg e4 (Nat.le_refl _) (Nat.le_refl _))
      · rename_i hc
        exact Or.inl (kv_cg e4 (Nat.le_refl _) (Nat.le_refl _))
    | le =>
      dsimp only [kv_ex] at e1
      obtain ⟨rfl, e2⟩ := kv_ln_inv e1
      obtain ⟨x, r, rfl, e3⟩ := kv_i_inv e2
      obtain ⟨t, ht, e4⟩ := kv_tg_inv e3
      split at e4
      · rename_i hc
        exact Or.inl (kv_cg e4 (Nat.le_refl _) (Nat.le_refl _))
      · rename_i hc
        exact Or.inl (kv_cg e4 (Nat.le_refl _) (Nat.le_refl _))
  | if_icmp cnd off =>
    cases cnd with
    | eq =>
      dsimp only [kv_ex] at e1
      obtain ⟨rfl, e2⟩ := kv_ln_inv e1
      obtain ⟨x, y, r, rfl, e3⟩ := kv_ii_inv e2
      obtain ⟨t, ht, e4⟩ := kv_tg_inv e3
      split at e4
      · rename_i hc
        exact Or.inl (kv_cg e4 (Nat.le_refl _) (Nat.le_refl _))
      · rename_i hc
        exact Or.inl (kv_cg e4 (Nat.le_refl _) (Nat.le_refl _))
    | ne =>
      dsimp only [kv_ex] at e1
      obtain ⟨rfl, e2⟩ := kv_ln_inv e1
      obtain ⟨x, y, r, rfl, e3⟩ := kv_ii_inv e2
      obtain ⟨t, ht, e4⟩ := kv_tg_inv e3
      split at e4
      · rename_i hc
        exact Or.inl (kv_cg e4 (Nat.le_refl _) (Nat.le_refl _))
      · rename_i hc
        exact Or.inl (kv_cg e4 (Nat.le_refl _) (Nat.le_refl _))
    | lt =>
      dsimp only [kv_ex] at e1
      obtain ⟨rfl, e2⟩ := kv_ln_inv e1
      obtain ⟨x, y, r, rfl, e3⟩ := kv_ii_inv e2
      obtain ⟨t, ht, e4⟩ := kv_tg_inv e3
      split at e4
      · rename_i hc
        exact Or.inl (kv_cg e4 (Nat.le_refl _) (Nat.le_refl _))
      · rename_i hc
        exact Or.inl (kv_cg e4 (Nat.le_refl _) (Nat.le_refl _))
    | ge =>
      dsimp only [kv_ex] at e1
      obtain ⟨rfl, e2⟩ := kv_ln_inv e1
      obtain ⟨x, y, r, rfl, e3⟩ := kv_ii_inv e2
      obtain ⟨t, ht, e4⟩ := kv_tg_inv e3
      split at e4
      · rename_i hc
        exact Or.inl (kv_cg e4 (Nat.le_refl _) (Nat.le_refl _))
      · rename_i hc
        exact Or.inl (kv_cg e4 (Nat.le_refl _) (Nat.le_refl _))
    | gt =>
      dsimp only [kv_ex] at e1
      obtain ⟨rfl, e2⟩ := kv_ln_inv e1
      obtain ⟨x, y, r, rfl, e3⟩ := kv_ii_inv e2
      obtain ⟨t, ht, e4⟩ := kv_tg_inv e3
      split at e4
      · rename_i hc
        exact Or.inl (kv_cg e4 (Nat.le_refl _) (Nat.le_refl _))
      · rename_i hc
        exact Or.inl (kv_cg e4 (Nat.le_refl _) (Nat.le_refl _))
    | le =>
      dsimp only [kv_ex] at e1
      obtain ⟨rfl, e2⟩ := kv_ln_inv e1
      obtain ⟨x, y, r, rfl, e3⟩ := kv_ii_inv e2
      obtain ⟨t, ht, e4⟩ := kv_tg_inv e3
      split at e4
      · rename_i hc
        exact Or.inl (kv_cg e4 (Nat.le_refl _) (Nat.le_refl _))
      · rename_i hc
        exact Or.inl (kv_cg e4 (Nat.le_refl _) (Nat.le_refl _))
  | goto off =>
    dsimp only [kv_ex] at e1
    obtain ⟨rfl, e2⟩ := kv_ln_inv e1
    obtain ⟨t, ht, e3⟩ := kv_tg_inv e2
    exact Or.inl (kv_cg e3 (Nat.le_refl _) (Nat.le_refl _))
  | ifnonnull off =>
    dsimp only [kv_ex] at e1
    obtain ⟨rfl, e2⟩ := kv_ln_inv e1
    split at e2
    · obtain ⟨t, ht, e3⟩ := kv_tg_inv e2
      exact Or.inl (kv_cg e3 (Nat.le_refl _) (Nat.le_refl _))
    · exact Or.inl (kv_cg e2 (Nat.le_refl _) (Nat.le_refl _))
    · cases e2
  | dup =>
    dsimp only [kv_ex] at e1
    obtain ⟨rfl, e2⟩ := kv_ln_inv e1
    split at e2
    · split at e2
      · rename_i v r hv
        exact Or.inl (kv_cg e2 (Nat.le_refl _) (Nat.le_refl _))
      · cases e2
    · cases e2
  | dup2 =>
    dsimp only [kv_ex] at e1
    obtain ⟨rfl, e2⟩ := kv_ln_inv e1
    split at e2
    · split at e2
      · rename_i v w r hv
        exact Or.inl (kv_cg e2 (Nat.le_refl _) (Nat.le_refl _))
      · cases e2
    · cases e2
  | pop =>
    dsimp only [kv_ex] at e1
    obtain ⟨rfl, e2⟩ := kv_ln_inv e1
    split at e2
    · split at e2
      · rename_i v r hv
        exact Or.inl (kv_cg e2 (Nat.le_refl _) (Nat.le_refl _))
      · cases e2
    · cases e2
  | ldc k9 =>
    dsimp only [kv_ex] at e1
    obtain ⟨rfl, e2⟩ := kv_ln_inv e1
    split at e2
    · rename_i v hv
      exact Or.inl (kv_cg e2 (Nat.le_refl _) (Nat.le_refl _))
    · split at e2
      · rename_i v hv
        split at e2
        · exact Or.inl (kv_cg e2 (Nat.le_refl _) (Nat.le_refl _))
        · cases e2
      · cases e2
  | ldc_w k9 =>
    dsimp only [kv_ex] at e1
    obtain ⟨rfl, e2⟩ := kv_ln_inv e1
    split at e2
    · rename_i v hv
      exact Or.inl (kv_cg e2 (Nat.le_refl _) (Nat.le_refl _))
    · cases e2
  | ldc2_w k9 =>
    dsimp only [kv_ex] at e1
    obtain ⟨rfl, e2⟩ := kv_ln_inv e1
    split at e2
    · rename_i v hv
      exact Or.inl (kv_cg e2 (Nat.le_refl _) (Nat.le_refl _))
    · cases e2
  | tableswitch dflt lo hi offs =>
    dsimp only [kv_ex] at e1
    obtain ⟨x, r, rfl, e2⟩ := kv_i_inv e1
    split at e2
    · rename_i hc
      obtain ⟨t, ht, e3⟩ := kv_tg_inv e2
      exact Or.inl (kv_cg e3 (Nat.le_refl _) (Nat.le_refl _))
    · rename_i hc
      split at e2
      · rename_i off ho
        obtain ⟨t, ht, e3⟩ := kv_tg_inv e2
        exact Or.inl (kv_cg e3 (Nat.le_refl _) (Nat.le_refl _))
      · cases e2
  | lookupswitch dflt ps =>
    dsimp only [kv_ex] at e1
    split at e1
    · rename_i hp
      obtain ⟨x, r, rfl, e2⟩ := kv_i_inv e1
      obtain ⟨t, ht, e3⟩ := kv_tg_inv e2
      exact Or.inl (kv_cg e3 (Nat.le_refl _) (Nat.le_refl _))
    · cases e1
  | getstatic k9 =>
    dsimp only [kv_ex] at e1
    obtain ⟨rfl, e2⟩ := kv_ln_inv e1
    split at e2
    · rename_i hv
      exact Or.inl (kv_cg e2 (Nat.le_refl _) (Nat.le_refl _))
    · rename_i w hne9 hv
      split at e2
      · rename_i hw6
        exact Or.inl (kv_cg e2 (Nat.le_refl _) (Nat.le_refl _))
      · cases e2
    · cases e2
  | getfield k9 =>
    dsimp only [kv_ex] at e1
    obtain ⟨rfl, e2⟩ := kv_ln_inv e1
    obtain ⟨a, r, rfl, e3⟩ := kv_r_inv e2
    exact Or.inl (kv_m_get e3)
  | putfield k9 =>
    dsimp only [kv_ex] at e1
    obtain ⟨rfl, e2⟩ := kv_ln_inv e1
    exact Or.inl (kv_m_put e2)
  | iaload =>
    dsimp only [kv_ex] at e1
    obtain ⟨rfl, e2⟩ := kv_ln_inv e1
    obtain ⟨a, i, r, rfl, e3⟩ := kv_ri_inv e2
    split at e3
    · split at e3
      · rename_i n hae
        split at e3
        · cases e3
        · rename_i hi
          exact Or.inl (kv_cg e3 (Nat.le_refl _) (Nat.le_refl _))
      · cases e3
    · split at e3
      · rename_i ha1 ha2
        exact Or.inl (kv_m_ald e3)
      · cases e3
  | baload =>
    dsimp only [kv_ex] at e1
    obtain ⟨rfl, e2⟩ := kv_ln_inv e1
    obtain ⟨a, i, r, rfl, e3⟩ := kv_ri_inv e2
    split at e3
    · rename_i ha2
      exact Or.inl (kv_m_ald e3)
    · cases e3
  | iastore =>
    dsimp only [kv_ex] at e1
    obtain ⟨rfl, e2⟩ := kv_ln_inv e1
    split at e2
    · rename_i v i a r
      split at e2
      · split at e2
        · rename_i n hae
          split at e2
          · cases e2
          · rename_i hi
            exact Or.inl (kv_cg e2 (Nat.le_refl _) (Nat.le_refl _))
        · cases e2
      · cases e2
    · cases e2
  | aaload =>
    dsimp only [kv_ex] at e1
    obtain ⟨rfl, e2⟩ := kv_ln_inv e1
    obtain ⟨a, i, r, rfl, e3⟩ := kv_ri_inv e2
    split at e3
    · split at e3
      · rename_i t l9 hae
        split at e3
        · cases e3
        · rename_i hi
          exact Or.inl (kv_cg e3 (Nat.le_refl _) (Nat.le_refl _))
      · cases e3
    · cases e3
  | aastore =>
    dsimp only [kv_ex] at e1
    obtain ⟨rfl, e2⟩ := kv_ln_inv e1
    exact Or.inl (kv_m_ars e2)
  | arraylength =>
    dsimp only [kv_ex] at e1
    obtain ⟨rfl, e2⟩ := kv_ln_inv e1
    obtain ⟨a, r, rfl, e3⟩ := kv_r_inv e2
    unfold kv_len at e3
    split at e3
    · split at e3
      · exact Or.inl (kv_cg e3 (Nat.le_refl _) (Nat.le_refl _))
      · exact Or.inl (kv_cg e3 (Nat.le_refl _) (Nat.le_refl _))
      · cases e3
    · split at e3
      · exact Or.inl (kv_cg e3 (Nat.le_refl _) (Nat.le_refl _))
      · cases e3
  | newarray ty =>
    cases ty with
    | int =>
      dsimp only [kv_ex] at e1
      obtain ⟨rfl, e2⟩ := kv_ln_inv e1
      obtain ⟨n, r, rfl, e3⟩ := kv_i_inv e2
      split at e3
      · cases e3
      · exact Or.inl (kv_cg e3 (kv_m_push _ _).1 (kv_m_push _ _).2)
    | _ =>
      dsimp only [kv_ex] at e1
      cases e1
  | anewarray k9 =>
    dsimp only [kv_ex] at e1
    obtain ⟨rfl, e2⟩ := kv_ln_inv e1
    split at e2
    · obtain ⟨n, r, rfl, e3⟩ := kv_i_inv e2
      split at e3
      · cases e3
      · exact Or.inl (kv_cg e3 (kv_m_push _ _).1 (kv_m_push _ _).2)
    · cases e2
  | new k9 =>
    dsimp only [kv_ex] at e1
    obtain ⟨rfl, e2⟩ := kv_ln_inv e1
    split at e2
    · split at e2
      · cases e2
      · exact Or.inl (kv_cg e2 (kv_m_push _ _).1 (kv_m_push _ _).2)
    · cases e2
  | invokestatic k9 =>
    dsimp only [kv_ex] at e1
    obtain ⟨rfl, e2⟩ := kv_ln_inv e1
    unfold kv_sta at e2
    split at e2
    · exact Or.inl (kv_m_copy e2)
    · split at e2
      · exact Or.inl (kv_m_math e2)
      · split at e2
        · rename_i hk
          obtain ⟨y, rfl⟩ := kv_call_x e2
          exact Or.inr (Or.inr ⟨y, rfl, rfl, 0, k9, _, _, kv_lk_inv hk, Or.inl ⟨rfl, rfl, e2⟩⟩)
        · cases e2
  | invokespecial k9 =>
    dsimp only [kv_ex] at e1
    obtain ⟨rfl, e2⟩ := kv_ln_inv e1
    unfold kv_spe at e2
    split at e2
    · obtain ⟨a, r, rfl, e3⟩ := kv_r_inv e2
      split at e3
      · exact Or.inl (kv_cg e3 (Nat.le_refl _) (Nat.le_refl _))
      · cases e3
    · split at e2
      · rename_i hk
        obtain ⟨y, rfl⟩ := kv_call_x e2
        exact Or.inr (Or.inr ⟨y, rfl, rfl, 2, k9, _, _, kv_lk_inv hk, Or.inr (Or.inr ⟨rfl, rfl, e2⟩)⟩)
      · cases e2
  | invokevirtual k9 =>
    dsimp only [kv_ex] at e1
    obtain ⟨rfl, e2⟩ := kv_ln_inv e1
    unfold kv_vir at e2
    split at e2
    · rename_i hk
      obtain ⟨y, rfl⟩ := kv_call_x e2
      exact Or.inr (Or.inr ⟨y, rfl, rfl, 1, k9, _, _, kv_lk_inv hk, Or.inr (Or.inl ⟨rfl, rfl, e2⟩)⟩)
    · cases e2
  | ireturn =>
    dsimp only [kv_ex] at e1
    obtain ⟨rfl, e2⟩ := kv_ln_inv e1
    have e3 := e2
    unfold kv_ret at e3
    split at e3
    · split at e3
      · exact Or.inr (Or.inl ⟨_, (Option.some.inj e3).symm, rfl, Or.inl ⟨rfl, e2⟩⟩)
      · cases e3
    · cases e3
  | areturn =>
    dsimp only [kv_ex] at e1
    obtain ⟨rfl, e2⟩ := kv_ln_inv e1
    split at e2
    · rename_i a t ht
      split at e2
      · rename_i hrt
        exact Or.inr (Or.inl ⟨_, (Option.some.inj e2).symm, rfl, Or.inr (Or.inl ⟨rfl, Or.inl ⟨_, rfl, rfl⟩, _, ht, hrt⟩)⟩)
      · cases e2
    · rename_i t ht
      split at e2
      · rename_i hrt
        exact Or.inr (Or.inl ⟨_, (Option.some.inj e2).symm, rfl, Or.inr (Or.inl ⟨rfl, Or.inr ⟨rfl, rfl⟩, _, ht, hrt⟩)⟩)
      · cases e2
    · cases e2
  | return_ =>
    dsimp only [kv_ex] at e1
    obtain ⟨rfl, e2⟩ := kv_ln_inv e1
    split at e2
    · rename_i ht
      exact Or.inr (Or.inl ⟨_, (Option.some.inj e2).symm, rfl, Or.inr (Or.inr ⟨rfl, rfl, rfl, ht⟩)⟩)
    · cases e2
  | _ =>
    dsimp only [kv_ex] at e1
    cases e1
theorem kv_ex_mono {q : kv_M} {i : Instr} {len pc : Nat} {ls : kv_L} {st : List Value} {h : kv_H} {pc' : Nat} {ls' : kv_L} {st' : List Value} {h' : kv_H} (e1 : kv_ex q i len pc ls st h = some (Sum.inr (Sum.inl (pc', ls', st', h')))) : h.1.length ≤ h'.1.length ∧ kv_sl h.1 ≤ kv_sl h'.1 := by
  rcases kv_ex_cases e1 with ⟨a1, a2, a3, a4, z, z1⟩ | ⟨v, z, -⟩ | ⟨y, z, -⟩
  · cases z
    exact z1
  · cases z
  · cases z
theorem kv_ev_grow : ∀ (f d j pc : Nat) (ls : kv_L) (st : List Value) (h : kv_H) (o : Option Value × kv_H), kv_ev f d j pc ls st h = some o → h.1.length ≤ o.2.1.length ∧ kv_sl h.1 ≤ kv_sl o.2.1 := by
  intro f
  induction f with
  | zero => intro d j pc ls st h o e; cases e
  | succ f ih =>
    intro d j pc ls st h o e
    rw [kv_ev] at e
    cases hn : kv_nx j pc ls st h with
    | none => rw [hn] at e; cases e
    | some x =>
      rw [hn] at e
      rcases x with v | ⟨pc', ls', st', h'⟩ | ⟨j', as, pc', ls', rest⟩
      · cases e
        exact ⟨Nat.le_refl _, Nat.le_refl _⟩
      · have h1 := ih _ _ _ _ _ _ _ e
        unfold kv_nx at hn
        split at hn
        · cases hn
        · split at hn
          · have h2 := kv_ex_mono hn
            exact ⟨Nat.le_trans h2.1 h1.1, Nat.le_trans h2.2 h1.2⟩
          · cases hn
      · cases d with
        | zero => cases e
        | succ d =>
          dsimp only at e
          cases hc : kv_ev f d j' 0 (kv_en j' as) [] h with
          | none => rw [hc] at e; cases e
          | some p =>
            rw [hc] at e
            obtain ⟨v, h'⟩ := p
            have h2 := ih _ _ _ _ _ _ _ hc
            have h1 := ih _ _ _ _ _ _ _ e
            exact ⟨Nat.le_trans h2.1 h1.1, Nat.le_trans h2.2 h1.2⟩
