/-! what the start gives: the statics, the Strings, the classes -/
section
variable {s : State} {args : Array Value} {A : Nat → Prop}
theorem kz_arrI {ty : FieldType} (ht : ∀ C, ¬ ty = .object C) (h : (Cond.arrayClass ty).before args s = true) : ∃ cA : ClassId, ArrOfT s cA ty ∧ va_RA s cA ty := by
  obtain ⟨c, k, comp, h1, h2, h3⟩ := Cond.arrayClass_spec h
  refine ⟨c, fun n z => ⟨fun k h => (by cases h), k, h2, comp, h3⟩, ?_⟩
  cases ty with
  | object C => exact absurd rfl (ht C)
  | _ => exact h1
theorem kz_arrO {C : String} (h : (Cond.arrayOver (.object C)).before args s = true) : ∃ cA : ClassId, ArrOfT s cA (.object C) ∧ va_RA s cA (.object C) := by
  obtain ⟨comp, c, k, h1, h2, h3, h4, h5⟩ := Cond.arrayOver_spec h
  exact ⟨c, fun n z => ⟨fun k h => (by cases h), k, h3, comp, h4⟩, k, comp, h3, h4, h1, h5⟩
theorem kz_st {C n : String} {l : List Int32} (hN : l.length < 2 ^ 31) (hl : (Cond.laysStatic C n "[I").before args s = true) (hini : (Cond.initialized C).before args s = true) (harr : (Cond.arrayOf (.static C n "[I") .int).before args s = true) (hlen : (Cond.eq (.length (.static C n "[I")) (.int (Int32.ofNat l.length))).before args s = true)
    (hel : ∀ j, j < l.length → (Cond.eq (.elem (.static C n "[I") (.int (Int32.ofNat j))) (.int (l.getD j 0))).before args s = true) (hA : ∀ a : Nat, a < s.heap.size → ¬ A a) : ∃ t : Nat, va_Z C n "[I" (.ref t) A s s.heap ∧ va_T .int t l.length (fun j => .int (l.getD j 0)) A s s.heap := by
  obtain ⟨t, ht, hT⟩ := va_Tof (f := fun j => .int (l.getD j 0)) hN harr (va_eqt hlen) (fun j hj => va_eqt (hel j hj)) hA
  exact ⟨t, va_Zof hl hini ht hA, hT⟩
abbrev kz_G : List Cond := flatC (Jvm.Cond.and given_1 narrow_1)
def kz_Sd (i : Nat) : String × String × String := kv_Sts.getD i ("", "", "")
def kz_w1 (i : Nat) : Cond := .laysStatic (kz_Sd i).1 (kz_Sd i).2.1 (kz_Sd i).2.2
theorem kz_w1_in : ∀ w ∈ (List.range 7).map kz_w1, w ∈ lw_tbl := kv_mem [467, 469, 580, 582, 593, 595, 483] (by decide +kernel)
theorem kz_w2_in : ∀ w ∈ (List.range 7).map (fun i => Cond.initialized (kz_Sd i).1), w ∈ lw_tbl := by decide +kernel
theorem kz_n1 : ∀ i, i < 6 → Cond.arrayOf (.static (kz_Sd i).1 (kz_Sd i).2.1 (kz_Sd i).2.2) .int ∈ kz_G := by decide +kernel
theorem kz_n2 : ∀ i, i < 6 → Cond.eq (.length (.static (kz_Sd i).1 (kz_Sd i).2.1 (kz_Sd i).2.2)) (.int (Int32.ofNat (kv_SA.getD i []).length)) ∈ kz_G := by decide +kernel
theorem kz_n3 : ∀ i, i < 6 → ∀ j, j < (kv_SA.getD i []).length → Cond.eq (.elem (.static (kz_Sd i).1 (kz_Sd i).2.1 (kz_Sd i).2.2) (.int (Int32.ofNat j))) (.int ((kv_SA.getD i []).getD j 0)) ∈ kz_G := by decide +kernel
theorem kz_n4 : ∀ i, i < 6 → (kz_Sd i).2.2 = "[I" ∧ (kv_SA.getD i []).length < 2 ^ 31 := by decide +kernel
theorem kz_n5 : Cond.eq (.static (kz_Sd 6).1 (kz_Sd 6).2.1 (kz_Sd 6).2.2) (.int 1) ∈ kz_G := by decide +kernel
def kz_tm (i : Nat) : Term := .string (if i < 3 then "KiteVote$FieldReader" else "KiteVote$LawReader") ([81, 105, 117, 78].getD i 0)
theorem kz_m1 : ∀ i, i < 4 → Cond.exactly (kz_tm i) "java/lang/String" ∈ kz_G := by decide +kernel
theorem kz_m2 : ∀ i, i < 4 → Cond.eq (.field (kz_tm i) "java/lang/String" "coder" "B") (.int 0) ∈ kz_G := by decide +kernel
theorem kz_m3 : ∀ i, i < 4 → Cond.arrayOf (.field (kz_tm i) "java/lang/String" "value" "[B") .byte ∈ kz_G := by decide +kernel
theorem kz_m4 : ∀ i, i < 4 → Cond.eq (.length (.field (kz_tm i) "java/lang/String" "value" "[B")) (.int (Int32.ofNat ((kv_SB.map List.length).getD i 0))) ∈ kz_G := by decide +kernel
theorem kz_m5 : ∀ i, i < 4 → ∀ j, j < (kv_SB.map List.length).getD i 0 → Cond.eq (.elem (.field (kz_tm i) "java/lang/String" "value" "[B") (.int (Int32.ofNat j))) (.int ((kv_SB.getD i []).getD j 0)) ∈ kz_G := by decide +kernel
theorem kz_m6 : ∀ i, i < 4 → ∀ j, j < 4 → i ≠ j → Cond.not (Cond.eq (kz_tm i) (kz_tm j)) ∈ kz_G ∨ Cond.not (Cond.eq (kz_tm j) (kz_tm i)) ∈ kz_G := by decide +kernel
theorem kz_m7 : ∀ i, i < 4 → (kv_SB.map List.length).getD i 0 < 2 ^ 31 ∧ (kv_SB.map List.length).getD i 0 = (kv_SB.getD i []).length := by decide +kernel
theorem kz_m8 : ∀ q ∈ kv_LS, q.2.2 < 4 ∧ kz_tm q.2.2 = .string (kv_R q.1) q.2.1 := by decide +kernel
theorem kz_m9 : Cond.isRef (.static Bundle.tN "UNASSIGNED_STACK" Bundle.steD) ∈ kz_G ∧ Cond.isRef (.static Bundle.tN "SUPPRESSED_SENTINEL" Bundle.listD) ∈ kz_G := by decide +kernel
theorem kz_m10 : Cond.laysStatic Bundle.tN "UNASSIGNED_STACK" Bundle.steD ∈ lw_tbl ∧ Cond.laysStatic Bundle.tN "SUPPRESSED_SENTINEL" Bundle.listD ∈ lw_tbl ∧ Cond.initialized Bundle.tN ∈ lw_tbl := by decide +kernel
/-- the throw's premises at the start -/
theorem kz_T0 (hts : ∀ w ∈ lw_tbl, w.before args s = true) (hs : ∀ w ∈ kz_G, w.before args s = true) (hA : ∀ a : Nat, a < s.heap.size → ¬ A a) : kz_T A s s.heap :=
  ⟨vx_Zqof (hts _ kz_m10.1) (hts _ kz_m10.2.2) (hs _ kz_m9.1) hA, vx_Zqof (hts _ kz_m10.2.1) (hts _ kz_m10.2.2) (hs _ kz_m9.2) hA, fun w hw => va_Nw.of (kz_thr_tab w hw) (hts w (kz_thr_in w hw))⟩
theorem kz_nestF : ∀ q ∈ kv_LF, ¬ q.2.2.2.2 = 0 → (kv_LFw q).onTables = true := by decide +kernel
theorem kz_nestM : ∀ q ∈ kv_LM, ¬ q.2.2.2.2 = 0 → (kv_LMw q).onTables = true := by decide +kernel
/-- the classes' numbers and slots -/
theorem kz_D0 (hts : ∀ w ∈ lw_tbl, w.before args s = true) : ∃ D : va_G, ∀ (c : Nat) (q : vw_C), kv_cl[c]? = some q → u_Kn s q.1 q.2.1 q.2.2 (D.1 c) (D.2 c) := by
  have h0 : ∀ c : Nat, ∃ x : ClassId × (Nat → Nat), c < 13 → u_Kn s (kv_R c) (kv_T c) (kv_N c) x.1 x.2 := by
    intro c
    by_cases hc : c < 13
    · obtain ⟨cC, iS, h⟩ := u_known (C := kv_R c) (T := kv_T c) (N := kv_N c) (n := kv_N c) hts (fun w hw => kv_ws_lay w (List.mem_flatMap.mpr ⟨c, List.mem_range.mpr hc, hw⟩)) (hts _ (kv_ws_ins _ (List.mem_map_of_mem (f := fun c => Cond.instantiable (kv_R c) (kv_N c)) (List.mem_range.mpr hc))))
      exact ⟨(cC, iS), fun _ => h⟩
    · exact ⟨(0, fun _ => 0), fun h => absurd h hc⟩
  obtain ⟨f, hf⟩ := Classical.axiomOfChoice h0
  refine ⟨(fun c => (f c).1, fun c => (f c).2), fun c q hq => ?_⟩
  have hc : c < 13 := by
    have h1 := (List.getElem?_eq_some_iff.mp hq).1
    rw [show kv_cl.length = 13 by decide +kernel] at h1
    exact h1
  rw [kv_cl_at hc] at hq
  cases hq
  exact hf c hc
theorem kz_one {w : Cond} (h : w ∈ ([.arrayClass .int, .arrayOver (.object "KiteVote$State"), .arrayOver (.object "KiteVote$Law")] : List Cond)) : w ∈ lw_tbl := kv_ws_one w (by
  simp only [List.mem_cons, List.not_mem_nil, or_false] at h
  rcases h with rfl | rfl | rfl <;> simp)
theorem kz_K0 (hts : ∀ w ∈ lw_tbl, w.before args s = true) : ∃ (D : va_G) (k : kv_K), va_K D kv_cl (kv_tys k) s := by
  obtain ⟨D, hD⟩ := kz_D0 hts
  obtain ⟨c1, h1⟩ := kz_arrI (ty := .int) (fun C h => by cases h) (hts _ (kz_one (w := .arrayClass .int) (by simp)))
  obtain ⟨c2, h2⟩ := kz_arrO (hts _ (kz_one (w := .arrayOver (.object "KiteVote$State")) (by simp)))
  obtain ⟨c3, h3⟩ := kz_arrO (hts _ (kz_one (w := .arrayOver (.object "KiteVote$Law")) (by simp)))
  refine ⟨D, (c1, c2, c3), hD, fun i q hq => ?_⟩
  match i, hq with
  | 0, hq => cases hq; exact h1
  | 1, hq => cases hq; exact h2
  | 2, hq => cases hq; exact h3
  | i + 3, hq => simp [kv_tys] at hq
/-- what stands beside the cells, at the start -/
theorem kz_B0 {D : va_G} {k : kv_K} (hts : ∀ w ∈ lw_tbl, w.before args s = true) (hs : ∀ w ∈ kz_G, w.before args s = true) (hA : ∀ a : Nat, a < s.heap.size → ¬ A a) (hK : va_K D kv_cl (kv_tys k) s) : ∃ ad : Nat → Nat, kv_B ad A D k s s.heap := by
  have h0 : ∀ i : Nat, ∃ t : Nat, i < 6 → va_Z (kz_Sd i).1 (kz_Sd i).2.1 (kz_Sd i).2.2 (.ref t) A s s.heap ∧ va_T .int t (kv_SA.getD i []).length (fun j => .int ((kv_SA.getD i []).getD j 0)) A s s.heap := by
    intro i
    by_cases hi : i < 6
    · have e9 := (kz_n4 i hi).1
      have w1 := hts _ (kz_w1_in _ (List.mem_map_of_mem (f := kz_w1) (List.mem_range.mpr (show i < 7 by omega))))
      have n1 := hs _ (kz_n1 i hi)
      have n2 := hs _ (kz_n2 i hi)
      have n3 := fun j hj => hs _ (kz_n3 i hi j hj)
      unfold kz_w1 at w1
      rw [e9] at w1 n1 n2 ⊢
      obtain ⟨t, ht⟩ := kz_st (A := A) (kz_n4 i hi).2 w1 (hts _ (kz_w2_in _ (List.mem_map_of_mem (f := fun i => Cond.initialized (kz_Sd i).1) (List.mem_range.mpr (show i < 7 by omega))))) n1 n2 (fun j hj => by have := n3 j hj; rw [e9] at this; exact this) hA
      exact ⟨t, fun _ => ht⟩
    · exact ⟨0, fun h => absurd h hi⟩
  obtain ⟨t, ht⟩ := Classical.axiomOfChoice h0
  obtain ⟨aS, aV, ⟨hS, -⟩, hE⟩ := vk_Sof (args := args) (s := s) (N := 4) (tm := kz_tm) (len := kv_SB.map List.length) (byt := kv_SB) (A := A) (fun i hi => (kz_m7 i hi).1) (fun i hi => hs _ (kz_m1 i hi)) (fun i hi => hs _ (kz_m2 i hi)) (fun i hi => hs _ (kz_m3 i hi)) (fun i hi => hs _ (kz_m4 i hi)) (fun i hi j hj => hs _ (kz_m5 i hi j hj)) (fun i j hi hj hij => (kz_m6 i hi j hj hij).elim (fun h => Or.inl (hs _ h)) (fun h => Or.inr (hs _ h))) hA
  refine ⟨fun n => if n < 306 then t (n - 300) else if n < 310 then aS (n - 306) else aV (n - 310), hK, fun q hq hn => va_Nw.of (kz_nestF q hq hn) (hts _ (kv_ws_LF _ (List.mem_map_of_mem (f := kv_LFw) hq))), fun q hq hn => va_Nw.of (kz_nestM q hq hn) (hts _ (kv_ws_LM _ (List.mem_map_of_mem (f := kv_LMw) hq))), ⟨va_AO.of (hts _ (kz_one (by simp))), va_AO.of (hts _ (kz_one (by simp)))⟩, fun i hi => ?_, ?_, fun q hq => ?_, fun i hi => ?_⟩
  · dsimp only
    rw [if_pos (by omega), Nat.add_sub_cancel_left]
    exact ht i hi
  · exact va_Zof (hts _ (kz_w1_in _ (List.mem_map_of_mem (f := kz_w1) (List.mem_range.mpr (show 6 < 7 by omega))))) (hts _ (kz_w2_in _ (List.mem_map_of_mem (f := fun i => Cond.initialized (kz_Sd i).1) (List.mem_range.mpr (show 6 < 7 by omega))))) (va_eqi (hs _ kz_n5)) hA
  · obtain ⟨m1, m2⟩ := kz_m8 q hq
    dsimp only
    rw [if_neg (by omega), if_pos (by omega), Nat.add_sub_cancel_left]
    refine vk_R.of (hts _ (kv_ws_LS _ (List.mem_map_of_mem (f := fun q : Nat × Nat × Nat => Cond.stringRef (kv_R q.1) q.2.1 (kv_Str.getD q.2.2 "")) hq))) ?_
    have h9 := hE q.2.2 m1
    rw [m2] at h9
    exact h9
  · dsimp only
    rw [if_neg (by omega), if_pos (by omega), if_neg (by omega), if_neg (by omega), if_neg (by omega), if_neg (by omega), Nat.add_sub_cancel_left, Nat.add_sub_cancel_left, show 306 + i + 4 - 310 = i by omega, ← (kz_m7 i hi).2]
    exact hS i hi
end
