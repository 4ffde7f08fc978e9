/-! what laws are worth: what the reader lets through is good -/
section
variable {L a : Nat} {t : Nat → Int32} {lt : Nat → Int32}
def kx_GD (lt : Nat → Int32) (tr : Bool) (h : Nat) (p : Nat → kx_Q) : Prop := ∀ a, (p a).1 = true → kx_gd lt tr h (p a).2.2
theorem kx_GD_up {tr : Bool} {h h' : Nat} {p : Nat → kx_Q} (g : kx_GD lt tr h p) (hh : h ≤ h') : kx_GD lt tr h' p := fun a q => kx_gd_up (g a q) hh
theorem kx_gd_close {tr : Bool} {h : Nat} {c : Int32} {r : kx_Q} (g : r.1 = true → kx_gd lt tr h r.2.2) (q : (kx_close t L c r).1 = true) : kx_gd lt tr h (kx_close t L c r).2.2 := by
  by_cases q1 : r.1 = true
  · by_cases q2 : kx_sg t L (kw_nx t L r.2.1) = c
    · rw [kx_close_1 q1 q2]
      exact g q1
    · rw [kx_close_2 q1 q2] at q
      exact absurd q (by simp)
  · rw [kx_close_0 q1] at q
    exact absurd q q1
theorem kx_GD_atom (hl : kw_okL lt) {h : Nat} (hh : 1 ≤ h) {br : Option (Nat → kx_Q)} (g : ∀ p, br = some p → kx_GD lt false h p) : kx_GD lt false h (kx_atom t L br) := by
  intro a q
  unfold kx_atom at q ⊢
  by_cases q1 : kw_isd (kx_sg t L (kw_nx t L a))
  · rw [if_pos q1]
    have := kw_nm_v (t := t) (L := L) 4 (kw_nx t L a) 0 1 (by omega)
    exact kx_gd_up (kx_gd_num (by omega)) hh
  · rw [if_neg q1] at q ⊢
    by_cases q2 : ¬ kx_li (kx_sg t L (kw_nx t L a)) = -1
    · rw [if_pos q2]
      obtain ⟨k, hk8, hk⟩ := (kx_li_r (kx_sg t L (kw_nx t L a))).resolve_left q2
      dsimp only
      rw [hk, kv_tn (by omega)]
      exact kx_gd_up (kx_gd_let hl hk8) hh
    · rw [if_neg q2] at q ⊢
      by_cases q3 : kx_sg t L (kw_nx t L a) = 91
      · rw [if_pos q3] at q ⊢
        cases hb : br with
        | none =>
          rw [hb] at q
          exact absurd q (by simp)
        | some p =>
          rw [hb] at q
          exact kx_gd_close (g p hb _) q
      · rw [if_neg q3] at q
        exact absurd q (by simp)
theorem kx_GD_loop {tr : Bool} {h : Nat} {op : Int32 → Nat} {p : Nat → kx_Q} (ho : ∀ c A B, ¬ op c = 0 → kx_gd lt tr (h + 1) A → kx_gd lt tr h B → kx_gd lt tr (h + 1) (A ++ B ++ [(op c, 0)])) (g : kx_GD lt tr h p) : ∀ f a A, kx_gd lt tr (h + 1) A → (kx_loop t L op p f a).1 = true → kx_gd lt tr (h + 1) (A ++ (kx_loop t L op p f a).2.2) := by
  intro f
  induction f with
  | zero =>
    intro a A hA _
    rw [show (kx_loop t L op p 0 a).2.2 = [] from rfl, List.append_nil]
    exact hA
  | succ f ih =>
    intro a A hA q
    by_cases q1 : op (kx_sg t L (kw_nx t L a)) = 0
    · rw [kx_loop_n q1, List.append_nil]
      exact hA
    · by_cases q2 : (p (kw_nx t L a + 1)).1 = true
      · rw [kx_loop_t q1 q2] at q ⊢
        rw [kx_app1]
        exact ih _ _ (ho _ _ _ q1 hA (g _ q2)) q
      · rw [kx_loop_f q1 q2] at q
        exact absurd q (by simp)
theorem kx_gd_seqL {tr : Bool} {h : Nat} {op : Int32 → Nat} {p : Nat → kx_Q} {r : kx_Q} (ho : ∀ c A B, ¬ op c = 0 → kx_gd lt tr (h + 1) A → kx_gd lt tr h B → kx_gd lt tr (h + 1) (A ++ B ++ [(op c, 0)])) (g : kx_GD lt tr h p) (A : List (Nat × Nat)) (hr : r.1 = true → kx_gd lt tr (h + 1) (A ++ r.2.2)) (q : (kx_seq r (kx_loop t L op p 240)).1 = true) : kx_gd lt tr (h + 1) (A ++ (kx_seq r (kx_loop t L op p 240)).2.2) := by
  by_cases q1 : r.1 = true
  · rw [kx_seq_1 q1] at q ⊢
    dsimp only
    rw [← List.append_assoc]
    exact kx_GD_loop ho g 240 _ _ (hr q1) q
  · rw [kx_seq_0 q1] at q
    exact absurd q q1
theorem kx_GD_chain {tr : Bool} {h : Nat} {op : Int32 → Nat} {p : Nat → kx_Q} (ho : ∀ c A B, ¬ op c = 0 → kx_gd lt tr (h + 1) A → kx_gd lt tr h B → kx_gd lt tr (h + 1) (A ++ B ++ [(op c, 0)])) (g : kx_GD lt tr h p) : kx_GD lt tr (h + 1) (kx_chain t L op p) := fun a q => kx_gd_seqL ho g [] (fun q1 => kx_gd_up (g a q1) (Nat.le_succ _)) q
theorem kx_oT_k {c : Int32} (h : ¬ kx_oT c = 0) : kx_oT c = 4 ∨ kx_oT c = 5 := by
  unfold kx_oT at h ⊢
  by_cases c1 : c = 42
  · exact Or.inl (if_pos c1)
  · rw [if_neg c1] at h ⊢
    by_cases c2 : c = 47
    · exact Or.inr (if_pos c2)
    · rw [if_neg c2] at h
      exact absurd rfl h
theorem kx_oS_k {c : Int32} (h : ¬ kx_oS c = 0) : kx_oS c = 2 ∨ kx_oS c = 3 := by
  unfold kx_oS at h ⊢
  by_cases c1 : c = 43
  · exact Or.inl (if_pos c1)
  · rw [if_neg c1] at h ⊢
    by_cases c2 : c = 45
    · exact Or.inr (if_pos c2)
    · rw [if_neg c2] at h
      exact absurd rfl h
theorem kx_oC_k {c : Int32} (h : ¬ kx_oC c = 0) : kx_oC c = 6 ∨ kx_oC c = 7 ∨ kx_oC c = 8 := by
  unfold kx_oC at h ⊢
  by_cases c1 : c = 61
  · exact Or.inl (if_pos c1)
  · rw [if_neg c1] at h ⊢
    by_cases c2 : c = 60
    · exact Or.inr (Or.inl (if_pos c2))
    · rw [if_neg c2] at h ⊢
      by_cases c3 : c = 62
      · exact Or.inr (Or.inr (if_pos c3))
      · rw [if_neg c3] at h
        exact absurd rfl h
theorem kx_oA_k {c : Int32} (h : ¬ kx_oA c = 0) : kx_oA c = 10 := by
  unfold kx_oA at h ⊢
  by_cases c1 : c = 38
  · exact if_pos c1
  · rw [if_neg c1] at h
    exact absurd rfl h
theorem kx_oO_k {c : Int32} (h : ¬ kx_oO c = 0) : kx_oO c = 11 := by
  unfold kx_oO at h ⊢
  by_cases c1 : c = 124
  · exact if_pos c1
  · rw [if_neg c1] at h
    exact absurd rfl h
theorem kx_ho_T {h : Nat} (hh : 1 ≤ h) (c : Int32) (A B : List (Nat × Nat)) (q : ¬ kx_oT c = 0) (gA : kx_gd lt false (h + 1) A) (gB : kx_gd lt false h B) : kx_gd lt false (h + 1) (A ++ B ++ [(kx_oT c, 0)]) := kx_gd_ar (by rcases kx_oT_k q with e | e <;> rw [e] <;> decide) ⟨by omega, Nat.le_refl _, Nat.le_refl _⟩ gA gB
theorem kx_ho_S {h : Nat} (hh : 1 ≤ h) (c : Int32) (A B : List (Nat × Nat)) (q : ¬ kx_oS c = 0) (gA : kx_gd lt false (h + 1) A) (gB : kx_gd lt false h B) : kx_gd lt false (h + 1) (A ++ B ++ [(kx_oS c, 0)]) := kx_gd_ar (by rcases kx_oS_k q with e | e <;> rw [e] <;> decide) ⟨by omega, Nat.le_refl _, Nat.le_refl _⟩ gA gB
theorem kx_ho_A {h : Nat} (hh : 1 ≤ h) (c : Int32) (A B : List (Nat × Nat)) (q : ¬ kx_oA c = 0) (gA : kx_gd lt true (h + 1) A) (gB : kx_gd lt true h B) : kx_gd lt true (h + 1) (A ++ B ++ [(kx_oA c, 0)]) := kx_gd_bo (Or.inl (kx_oA_k q)) ⟨by omega, Nat.le_refl _, Nat.le_refl _⟩ gA gB
theorem kx_ho_O {h : Nat} (hh : 1 ≤ h) (c : Int32) (A B : List (Nat × Nat)) (q : ¬ kx_oO c = 0) (gA : kx_gd lt true (h + 1) A) (gB : kx_gd lt true h B) : kx_gd lt true (h + 1) (A ++ B ++ [(kx_oO c, 0)]) := kx_gd_bo (Or.inr (kx_oO_k q)) ⟨by omega, Nat.le_refl _, Nat.le_refl _⟩ gA gB
theorem kx_GD_S (hl : kw_okL lt) : ∀ r, kx_GD lt false (2 * r + 3) (kx_S t L r) := by
  intro r
  induction r with
  | zero => exact kx_GD_chain (kx_ho_S (by omega)) (kx_GD_chain (kx_ho_T (by omega)) (kx_GD_atom hl (Nat.le_refl _) (fun p hp => by cases hp)))
  | succ r ih => exact kx_GD_chain (h := 2 * r + 4) (kx_ho_S (by omega)) (kx_GD_chain (h := 2 * r + 3) (kx_ho_T (by omega)) (kx_GD_atom hl (by omega) (fun p hp => by cases hp; exact ih)))
theorem kx_gd_cmp {h : Nat} {s : Nat → kx_Q} {A : List (Nat × Nat)} (hh : 1 ≤ h) (gA : kx_gd lt false h A) (g : kx_GD lt false h s) (q : (kx_cmp t L s a).1 = true) : kx_gd lt true (h + 1) (A ++ (kx_cmp t L s a).2.2) := by
  unfold kx_cmp at q ⊢
  by_cases q1 : kx_oC (kx_sg t L (kw_nx t L a)) = 0
  · rw [if_pos q1] at q
    exact absurd q (by simp)
  · rw [if_neg q1] at q ⊢
    dsimp only
    rw [kx_app2]
    exact kx_gd_cp (kx_oC_k q1) ⟨by omega, Nat.le_succ _, Nat.le_refl _⟩ gA (g _ q)
theorem kx_GD_unit {h h' : Nat} (hh : 1 ≤ h ∧ h + 1 ≤ h') {nest : Option ((Nat → kx_Q) × (Nat → kx_Q))} {s : Nat → kx_Q} (g : kx_GD lt false h s) (hn : ∀ n, nest = some n → kx_GD lt true h' n.1 ∧ kx_GD lt true h' n.2) : kx_GD lt true h' (kx_unit t L nest s) := by
  intro a q
  unfold kx_unit at q ⊢
  by_cases q1 : kx_sg t L (kw_nx t L a) = 33
  · rw [if_pos q1] at q ⊢
    cases hb : nest with
    | none =>
      rw [hb] at q
      exact absurd q (by simp)
    | some n =>
      rw [hb] at q
      exact kx_gd_not (by omega) ((hn n hb).1 _ q)
  · rw [if_neg q1] at q ⊢
    by_cases q2 : kx_sg t L (kw_nx t L a) = 40
    · rw [if_pos q2] at q ⊢
      cases hb : nest with
      | none =>
        rw [hb] at q
        exact absurd q (by simp)
      | some n =>
        rw [hb] at q
        exact kx_gd_close ((hn n hb).2 _) q
    · rw [if_neg q2] at q ⊢
      by_cases q3 : (s (kw_nx t L a)).1 = true
      · rw [kx_seq_1 q3] at q ⊢
        exact kx_gd_up (kx_gd_cmp hh.1 (g _ q3) g q) hh.2
      · rw [kx_seq_0 q3] at q
        exact absurd q q3
theorem kx_GD_cd {h : Nat} (hh : 1 ≤ h) {u : Nat → kx_Q} (g : kx_GD lt true h u) : kx_GD lt true (h + 2) (kx_cd t L u) := kx_GD_chain (h := h + 1) (kx_ho_O (by omega)) (kx_GD_chain (kx_ho_A hh) g)
theorem kx_GD_U (hl : kw_okL lt) : ∀ r, kx_GD lt true (2 * r + 4) (kx_U t L r) := by
  intro r
  induction r with
  | zero => exact kx_GD_unit ⟨by decide, Nat.le_refl _⟩ (kx_GD_S hl 0) (fun n hn => by cases hn)
  | succ r ih => exact kx_GD_unit ⟨by omega, by omega⟩ (kx_GD_S hl (r + 1)) (fun n hn => by cases hn; exact ⟨kx_GD_up ih (by omega), kx_GD_up (kx_GD_cd (by omega) ih) (by omega)⟩)
theorem kx_gd_cdB {h : Nat} {s u : Nat → kx_Q} {A : List (Nat × Nat)} (hh : 1 ≤ h) (gA : kx_gd lt false h A) (g : kx_GD lt false h s) (gu : kx_GD lt true (h + 1) u) (q : (kx_cdB t L s u a).1 = true) : kx_gd lt true (h + 3) (A ++ (kx_cdB t L s u a).2.2) :=
  kx_gd_seqL (h := h + 2) (kx_ho_O (by omega)) (kx_GD_chain (h := h + 1) (kx_ho_A (by omega)) gu) A (fun q1 => kx_gd_up (kx_gd_seqL (h := h + 1) (kx_ho_A (by omega)) gu A (fun q2 => kx_gd_up (kx_gd_cmp hh gA g q2) (by omega)) q1) (by omega)) q
/-- a good clause -/
def kx_gc (lt : Nat → Int32) (c : List (Nat × Nat) × List (Nat × Nat)) : Prop := (c.1 = [] ∨ kx_gd lt true 18 c.1) ∧ kx_gd lt false 18 c.2
theorem kx_gc_gate {s : Nat → kx_Q} {r : kx_Q} (g : kx_GD lt false 18 s) (hr : r.1 = true → kx_gd lt true 18 r.2.2) (q : (kx_gate t L s r).1 = true) : kx_gc lt (kx_gate t L s r).2.2 := by
  unfold kx_gate at q ⊢
  by_cases q1 : r.1 = true
  · rw [if_pos q1] at q ⊢
    by_cases q2 : kx_sg t L (kw_nx t L r.2.1) = 63
    · rw [if_pos q2] at q ⊢
      exact ⟨Or.inr (hr q1), g _ q⟩
    · rw [if_neg q2] at q
      exact absurd q (by simp)
  · rw [if_neg q1] at q
    exact absurd q (by simp)
theorem kx_gc_body (hl : kw_okL lt) (q : (kx_body t L (kx_S t L 6) (kx_U t L 6) a).1 = true) : kx_gc lt (kx_body t L (kx_S t L 6) (kx_U t L 6) a).2.2 := by
  have gs := kx_GD_S (t := t) (L := L) hl 6
  have gu := kx_GD_U (t := t) (L := L) hl 6
  by_cases q1 : kx_sg t L a = 33 ∨ kx_sg t L a = 40
  · rw [kx_body_c q1] at q ⊢
    exact kx_gc_gate (kx_GD_up gs (by omega)) (fun s => kx_gd_up (kx_GD_cd (by omega) gu _ s) (by omega)) q
  · by_cases h : (kx_S t L 6 a).1 = true
    · by_cases g : kx_oC (kx_sg t L (kw_nx t L (kx_S t L 6 a).2.1)) = 0
      · rw [kx_body_s q1 h g]
        exact ⟨Or.inl rfl, kx_gd_up (gs a h) (by omega)⟩
      · rw [kx_body_g q1 h g] at q ⊢
        exact kx_gc_gate (kx_GD_up gs (by omega)) (fun s => kx_gd_cdB (h := 15) (by omega) (gs a h) gs gu s) q
    · rw [kx_body_f q1 h] at q
      exact absurd q (by simp)
theorem kx_gc_cls (hl : kw_okL lt) (q : (kx_cls t L (kx_S t L 6) (kx_U t L 6) a).1 = true) : kx_gc lt (kx_cls t L (kx_S t L 6) (kx_U t L 6) a).2.2 := by
  unfold kx_cls at q ⊢
  by_cases q1 : kx_sg t L (kw_nx t L a) = 121
  · rw [if_pos q1] at q ⊢
    by_cases q2 : kx_sg t L (kw_nx t L (kw_nx t L a + 1)) = 58
    · rw [if_pos q2] at q ⊢
      exact kx_gc_body hl q
    · rw [if_neg q2] at q
      exact absurd q (by simp)
  · rw [if_neg q1] at q
    exact absurd q (by simp)
theorem kx_gc_law (hl : kw_okL lt) {c : Nat → kx_QC} (g : ∀ a, (c a).1 = true → kx_gc lt (c a).2.2) : ∀ f a, ∀ x ∈ (kx_law c t L f a).2.2, kx_gc lt x := by
  intro f
  induction f with
  | zero => intro a x hx; cases hx
  | succ f ih =>
    intro a x hx
    by_cases q : (c a).1 = true
    · by_cases q1 : kx_sg t L (kw_nx t L (c a).2.1) = 59
      · rw [kx_law_1 q q1] at hx
        rcases List.mem_cons.mp hx with rfl | hx
        · exact g a q
        · exact ih _ x hx
      · by_cases q2 : kx_sg t L (kw_nx t L (c a).2.1) = -1
        · rw [kx_law_2 q q1 q2] at hx
          rcases List.mem_cons.mp hx with rfl | hx
          · exact g a q
          · cases hx
        · rw [kx_law_3 q q1 q2] at hx
          cases hx
    · rw [kx_law_4 q] at hx
      cases hx
theorem kx_gc_LW (hl : kw_okL lt) : ∀ x ∈ (kx_LW t L).2.2, kx_gc lt x := kx_gc_law hl (fun a q => kx_gc_cls hl q) 240 0
end
