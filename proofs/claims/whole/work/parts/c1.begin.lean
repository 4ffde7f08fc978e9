/-! the relation at the beginning -/
section
theorem kx_z0K (a i : Nat) (h : a ≠ 7) : kv_z0K a i = 0 := if_neg (fun s => h s.1)
theorem kx_z0M (a i : Nat) (h : a ≠ 0) : kv_z0M a i = 0 := if_neg (fun s => h s.1)
theorem kx_z0M0 (i : Nat) (h : i ≠ 27 ∧ i ≠ 28) : kv_z0M 0 i = 0 := if_neg (fun s => s.2.elim h.1 h.2)
theorem kx_R0 : kw_R 0 0 0 kv_z0K kv_z0M := by
  have z0 : Int32.ofNat 0 = (0 : Int32) := rfl
  have row : ∀ k w, kc kv_z0K 36 k w = 0 := by
    intro k w
    unfold kc
    by_cases h : k < 8 ∧ w < 13
    · rw [if_pos h]
      exact kx_z0K _ _ (by omega)
    · exact if_neg h
  refine ⟨⟨⟨0, by omega, kx_z0K _ _ (by omega), kx_z0M0 _ (by omega), fun i hi => absurd hi (Nat.not_lt_zero _)⟩, ⟨0, by omega, kx_z0K _ _ (by omega), kx_z0M0 _ (by omega), fun i hi => absurd hi (Nat.not_lt_zero _)⟩, ⟨⟨kx_z0K _ _ (by omega), kx_z0M0 _ (by omega), by omega⟩, fun j hj => (kx_z0K _ _ (by omega)).trans (kx_z0M _ _ (by omega)).symm, ⟨kx_z0K _ _ (by omega), by omega⟩, ⟨by omega, kx_z0K _ _ (by omega)⟩, ?_, ?_⟩, ⟨fun i hi => kx_z0K _ _ (by omega), 0, by omega, ⟨rfl, kx_z0M0 _ (by omega)⟩, ⟨rfl, Or.inl rfl⟩, ⟨rfl, Or.inl rfl⟩, fun i hi => absurd hi (Nat.not_lt_zero _)⟩⟩, ⟨⟨?_, ?_⟩, ⟨(kx_z0K _ _ (by omega)).trans (kx_z0M0 _ (by omega)).symm, Or.inl (kx_z0K _ _ (by omega))⟩, ⟨0, 0, ⟨by omega, by omega⟩, ⟨kx_z0K _ _ (by omega), kx_z0M0 _ (by omega), kx_z0K _ _ (by omega)⟩, fun i hi => absurd hi (Nat.not_lt_zero _)⟩⟩, ⟨0, by omega, ⟨kx_z0K _ _ (by omega), kx_z0M0 _ (by omega)⟩, fun i hi => absurd hi (Nat.not_lt_zero _)⟩, (kx_z0K _ _ (by omega)).trans (kx_z0M0 _ (by omega)).symm⟩
  · rw [kx_z0K _ _ (by omega)]
    exact ⟨by decide, by decide⟩
  · rw [kx_z0K _ _ (by omega)]
    exact ⟨by decide, by decide⟩
  · refine Prod.ext ?_ (Prod.ext ?_ (Prod.ext ?_ (Prod.ext ?_ ?_)))
    · funext k w
      refine (row k w).trans (Eq.symm ?_)
      show (if k < 8 ∧ w < 13 then kv_z0M 16 (0 + (13 * k + kw_sg w)) else 0) = 0
      by_cases h : k < 8 ∧ w < 13
      · rw [if_pos h]
        exact kx_z0M _ _ (by omega)
      · exact if_neg h
    · funext i
      show (if i < 40 then kv_z0K 38 i else 0) = if i < 40 then kv_z0M 16 (0 + 107 + i) else 0
      by_cases h : i < 40
      · rw [if_pos h, if_pos h, kx_z0K _ _ (by omega), kx_z0M _ _ (by omega)]
      · rw [if_neg h, if_neg h]
    · exact (kx_z0K 36 2 (by omega)).trans (kx_z0M 16 106 (by omega)).symm
    · exact (kx_z0K 36 3 (by omega)).trans (kx_z0M 16 104 (by omega)).symm
    · exact (kx_z0K 36 4 (by omega)).trans (kx_z0M 16 105 (by omega)).symm
  · have row : ∀ k w, (kw_vk kv_z0K 36).1 k w = 0 := row
    refine ⟨⟨fun k => ?_, fun k => ⟨Or.inl (row k 11), fun _ => row k 11⟩⟩, ⟨0, by omega, kx_z0K 36 3 (by omega)⟩, ⟨0, by omega, kx_z0K 36 2 (by omega)⟩, fun k => ⟨Or.inl (row k 12), fun _ => row k 12⟩, fun k hk => absurd (row k 11) hk⟩
    unfold kw_okr
    rw [row k 1, row k 2, row k 3, row k 4, row k 6]
    exact ⟨⟨⟨by decide, by decide⟩, ⟨by decide, by decide⟩⟩, ⟨by decide, by decide⟩, by decide, by decide⟩
end
