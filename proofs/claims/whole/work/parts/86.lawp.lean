/-! laws as texts: one reader for both, told in numbers -/
section
variable {t : Nat → Int32} {L a : Nat}
/-- well?, where, steps -/
abbrev kx_Q : Type := Bool × Nat × List (Nat × Nat)
noncomputable def kx_close (t : Nat → Int32) (L : Nat) (c : Int32) (r : kx_Q) : kx_Q := if r.1 = true then (if kx_sg t L (kw_nx t L r.2.1) = c then (true, kw_nx t L r.2.1 + 1, r.2.2) else (false, kw_nx t L r.2.1, r.2.2)) else r
noncomputable def kx_atom (t : Nat → Int32) (L : Nat) (br : Option (Nat → kx_Q)) (a : Nat) : kx_Q :=
  @ite _ (kw_isd (kx_sg t L (kw_nx t L a))) (Classical.propDecidable _) (!(@decide (kw_isd (kx_sg t L (kw_nm t L 4 (kw_nx t L a) 0).1)) (Classical.propDecidable _)), (kw_nm t L 4 (kw_nx t L a) 0).1, [(0, (kw_nm t L 4 (kw_nx t L a) 0).2)])
  (if ¬ kx_li (kx_sg t L (kw_nx t L a)) = -1 then (true, kw_nx t L a + 1, [(1, (kx_li (kx_sg t L (kw_nx t L a))).toNatClampNeg)]) else if kx_sg t L (kw_nx t L a) = 91 then (match br with
    | none => (false, kw_nx t L a, [])
    | some p => kx_close t L 93 (p (kw_nx t L a + 1))) else (false, kw_nx t L a, []))
noncomputable def kx_loop (t : Nat → Int32) (L : Nat) (op : Int32 → Nat) (p : Nat → kx_Q) : Nat → Nat → kx_Q
  | 0, a => (true, a, [])
  | f + 1, a => if op (kx_sg t L (kw_nx t L a)) = 0 then (true, kw_nx t L a, []) else if (p (kw_nx t L a + 1)).1 = true then ((kx_loop t L op p f (p (kw_nx t L a + 1)).2.1).1, (kx_loop t L op p f (p (kw_nx t L a + 1)).2.1).2.1, (p (kw_nx t L a + 1)).2.2 ++ (op (kx_sg t L (kw_nx t L a)), 0) :: (kx_loop t L op p f (p (kw_nx t L a + 1)).2.1).2.2) else (false, (p (kw_nx t L a + 1)).2.1, (p (kw_nx t L a + 1)).2.2 ++ [(op (kx_sg t L (kw_nx t L a)), 0)])
def kx_seq (r : kx_Q) (k : Nat → kx_Q) : kx_Q := if r.1 = true then ((k r.2.1).1, (k r.2.1).2.1, r.2.2 ++ (k r.2.1).2.2) else r
def kx_oT (c : Int32) : Nat := if c = 42 then 4 else if c = 47 then 5 else 0
def kx_oS (c : Int32) : Nat := if c = 43 then 2 else if c = 45 then 3 else 0
def kx_oC (c : Int32) : Nat := if c = 61 then 6 else if c = 60 then 7 else if c = 62 then 8 else 0
def kx_oA (c : Int32) : Nat := if c = 38 then 10 else 0
def kx_oO (c : Int32) : Nat := if c = 124 then 11 else 0
noncomputable def kx_chain (t : Nat → Int32) (L : Nat) (op : Int32 → Nat) (p : Nat → kx_Q) (a : Nat) : kx_Q := kx_seq (p a) (kx_loop t L op p 240)
noncomputable def kx_cmp (t : Nat → Int32) (L : Nat) (s : Nat → kx_Q) (a : Nat) : kx_Q := if kx_oC (kx_sg t L (kw_nx t L a)) = 0 then (false, kw_nx t L a, []) else ((s (kw_nx t L a + 1)).1, (s (kw_nx t L a + 1)).2.1, (s (kw_nx t L a + 1)).2.2 ++ [(kx_oC (kx_sg t L (kw_nx t L a)), 0)])
noncomputable def kx_unit (t : Nat → Int32) (L : Nat) (nest : Option ((Nat → kx_Q) × (Nat → kx_Q))) (s : Nat → kx_Q) (a : Nat) : kx_Q :=
  if kx_sg t L (kw_nx t L a) = 33 then (match nest with
    | none => (false, kw_nx t L a, [])
    | some n => ((n.1 (kw_nx t L a + 1)).1, (n.1 (kw_nx t L a + 1)).2.1, (n.1 (kw_nx t L a + 1)).2.2 ++ [(9, 0)]))
  else if kx_sg t L (kw_nx t L a) = 40 then (match nest with
    | none => (false, kw_nx t L a, [])
    | some n => kx_close t L 41 (n.2 (kw_nx t L a + 1)))
  else kx_seq (s (kw_nx t L a)) (kx_cmp t L s)
noncomputable def kx_S (t : Nat → Int32) (L : Nat) : Nat → Nat → kx_Q
  | 0 => kx_chain t L kx_oS (kx_chain t L kx_oT (kx_atom t L none))
  | r + 1 => kx_chain t L kx_oS (kx_chain t L kx_oT (kx_atom t L (some (kx_S t L r))))
noncomputable def kx_tr (t : Nat → Int32) (L : Nat) (u : Nat → kx_Q) : Nat → kx_Q := kx_chain t L kx_oA u
noncomputable def kx_cd (t : Nat → Int32) (L : Nat) (u : Nat → kx_Q) : Nat → kx_Q := kx_chain t L kx_oO (kx_tr t L u)
noncomputable def kx_U (t : Nat → Int32) (L : Nat) : Nat → Nat → kx_Q
  | 0 => kx_unit t L none (kx_S t L 0)
  | r + 1 => kx_unit t L (some (kx_U t L r, kx_cd t L (kx_U t L r))) (kx_S t L (r + 1))
/-- begun: the first sum stands before it -/
noncomputable def kx_trB (t : Nat → Int32) (L : Nat) (s u : Nat → kx_Q) (a : Nat) : kx_Q := kx_seq (kx_cmp t L s a) (kx_loop t L kx_oA u 240)
noncomputable def kx_cdB (t : Nat → Int32) (L : Nat) (s u : Nat → kx_Q) (a : Nat) : kx_Q := kx_seq (kx_trB t L s u a) (kx_loop t L kx_oO (kx_tr t L u) 240)
/-- well?, where, test, sum -/
abbrev kx_QC : Type := Bool × Nat × List (Nat × Nat) × List (Nat × Nat)
noncomputable def kx_gate (t : Nat → Int32) (L : Nat) (s : Nat → kx_Q) (r : kx_Q) : kx_QC := if r.1 = true then (if kx_sg t L (kw_nx t L r.2.1) = 63 then ((s (kw_nx t L r.2.1 + 1)).1, (s (kw_nx t L r.2.1 + 1)).2.1, r.2.2, (s (kw_nx t L r.2.1 + 1)).2.2) else (false, kw_nx t L r.2.1, [], [])) else (false, r.2.1, [], [])
noncomputable def kx_body (t : Nat → Int32) (L : Nat) (s u : Nat → kx_Q) (b : Nat) : kx_QC :=
  if kx_sg t L b = 33 ∨ kx_sg t L b = 40 then kx_gate t L s (kx_cd t L u b)
  else if (s b).1 = true then (if kx_oC (kx_sg t L (kw_nx t L (s b).2.1)) = 0 then (true, kw_nx t L (s b).2.1, [], (s b).2.2) else kx_gate t L s ((kx_cdB t L s u (s b).2.1).1, (kx_cdB t L s u (s b).2.1).2.1, (s b).2.2 ++ (kx_cdB t L s u (s b).2.1).2.2)) else (false, (s b).2.1, [], [])
noncomputable def kx_cls (t : Nat → Int32) (L : Nat) (s u : Nat → kx_Q) (a : Nat) : kx_QC :=
  if kx_sg t L (kw_nx t L a) = 121 then (if kx_sg t L (kw_nx t L (kw_nx t L a + 1)) = 58 then kx_body t L s u (kw_nx t L (kw_nx t L (kw_nx t L a + 1) + 1)) else (false, kw_nx t L (kw_nx t L a + 1), [], [])) else (false, kw_nx t L a, [], [])
/-- well?, where, clauses -/
abbrev kx_QL : Type := Bool × Nat × List (List (Nat × Nat) × List (Nat × Nat))
noncomputable def kx_law (c : Nat → kx_QC) (t : Nat → Int32) (L : Nat) : Nat → Nat → kx_QL
  | 0, a => (true, a, [])
  | f + 1, a => if (c a).1 = true then (if kx_sg t L (kw_nx t L (c a).2.1) = 59 then ((kx_law c t L f (kw_nx t L (c a).2.1 + 1)).1, (kx_law c t L f (kw_nx t L (c a).2.1 + 1)).2.1, (c a).2.2 :: (kx_law c t L f (kw_nx t L (c a).2.1 + 1)).2.2) else if kx_sg t L (kw_nx t L (c a).2.1) = -1 then (true, kw_nx t L (c a).2.1, [(c a).2.2]) else (false, kw_nx t L (c a).2.1, [])) else (false, (c a).2.1, [])
/-- where things come to lie -/
def kx_W (L : Nat) (p : Nat → kx_Q) : Prop := ∀ a, a ≤ L → (a ≤ (p a).2.1 ∧ (p a).2.1 ≤ L) ∧ (p a).2.2.length + a ≤ (p a).2.1
theorem kx_W_close {c : Int32} {r : kx_Q} (hc : ¬ c = -1) (h : (a ≤ r.2.1 ∧ r.2.1 ≤ L) ∧ r.2.2.length + a ≤ r.2.1) : (a ≤ (kx_close t L c r).2.1 ∧ (kx_close t L c r).2.1 ≤ L) ∧ (kx_close t L c r).2.2.length + a ≤ (kx_close t L c r).2.1 := by
  have n1 := kw_nx_le t L r.2.1
  have n2 := kw_nx_L (t := t) h.1.2
  unfold kx_close
  by_cases q : r.1 = true
  · rw [if_pos q]
    by_cases q2 : kx_sg t L (kw_nx t L r.2.1) = c
    · have := kx_sg_ne (t := t) (L := L) (a := kw_nx t L r.2.1) (fun s => hc (q2.symm.trans s))
      rw [if_pos q2]
      dsimp only
      omega
    · rw [if_neg q2]
      dsimp only
      omega
  · rw [if_neg q]
    exact h
theorem kx_W_atom {br : Option (Nat → kx_Q)} (h : ∀ p, br = some p → kx_W L p) : kx_W L (kx_atom t L br) := by
  intro a ha
  have n1 := kw_nx_le t L a
  have n2 := kw_nx_L (t := t) ha
  unfold kx_atom
  by_cases q1 : kw_isd (kx_sg t L (kw_nx t L a))
  · rw [if_pos q1]
    obtain ⟨⟨m1, m2⟩, m3⟩ := kw_nm_p (t := t) (L := L) 3 (kw_nx t L a + 1) (0 * 10 + kw_dgv (kx_sg t L (kw_nx t L a)))
    have := kw_isd_lt q1
    have e4 : kw_nm t L 4 (kw_nx t L a) 0 = kw_nm t L 3 (kw_nx t L a + 1) (0 * 10 + kw_dgv (kx_sg t L (kw_nx t L a))) := kw_nm_1 q1
    have m3 := m3 (by omega)
    rw [e4]
    dsimp only [List.length_cons, List.length_nil]
    omega
  · rw [if_neg q1]
    by_cases q2 : ¬ kx_li (kx_sg t L (kw_nx t L a)) = -1
    · rw [if_pos q2]
      have := kx_sg_ne (t := t) (L := L) (a := kw_nx t L a) (fun s => q2 (by rw [s]; decide))
      dsimp only [List.length_cons, List.length_nil]
      omega
    · rw [if_neg q2]
      by_cases q3 : kx_sg t L (kw_nx t L a) = 91
      · rw [if_pos q3]
        have := kx_sg_ne (t := t) (L := L) (a := kw_nx t L a) (fun s => absurd (q3.symm.trans s) (by decide))
        cases hb : br with
        | none =>
          dsimp only [List.length_nil]
          omega
        | some p =>
          have hp := h p hb (kw_nx t L a + 1) (by omega)
          obtain ⟨⟨c1, c2⟩, c3⟩ := kx_W_close (t := t) (c := 93) (r := p (kw_nx t L a + 1)) (by decide) hp
          dsimp only
          omega
      · rw [if_neg q3]
        dsimp only [List.length_nil]
        omega
theorem kx_W_loop {op : Int32 → Nat} {p : Nat → kx_Q} (ho : op (-1) = 0) (h : kx_W L p) : ∀ f, kx_W L (kx_loop t L op p f) := by
  intro f
  induction f with
  | zero => intro a ha; exact ⟨⟨Nat.le_refl _, ha⟩, by show 0 + a ≤ a; omega⟩
  | succ f ih =>
    intro a ha
    have n1 := kw_nx_le t L a
    have n2 := kw_nx_L (t := t) ha
    unfold kx_loop
    by_cases q : op (kx_sg t L (kw_nx t L a)) = 0
    · rw [if_pos q]
      dsimp only [List.length_nil]
      omega
    · rw [if_neg q]
      have := kx_sg_ne (t := t) (L := L) (a := kw_nx t L a) (fun s => q (by rw [s]; exact ho))
      obtain ⟨⟨p1, p2⟩, p3⟩ := h (kw_nx t L a + 1) (by omega)
      by_cases q2 : (p (kw_nx t L a + 1)).1 = true
      · rw [if_pos q2]
        obtain ⟨⟨i1, i2⟩, i3⟩ := ih _ p2
        dsimp only
        rw [List.length_append, List.length_cons]
        omega
      · rw [if_neg q2]
        dsimp only
        rw [List.length_append, List.length_cons, List.length_nil]
        omega
theorem kx_W_seq {r : kx_Q} {k : Nat → kx_Q} (hr : (a ≤ r.2.1 ∧ r.2.1 ≤ L) ∧ r.2.2.length + a ≤ r.2.1) (hk : kx_W L k) : (a ≤ (kx_seq r k).2.1 ∧ (kx_seq r k).2.1 ≤ L) ∧ (kx_seq r k).2.2.length + a ≤ (kx_seq r k).2.1 := by
  unfold kx_seq
  by_cases q : r.1 = true
  · rw [if_pos q]
    obtain ⟨⟨i1, i2⟩, i3⟩ := hk _ hr.1.2
    dsimp only
    rw [List.length_append]
    omega
  · rw [if_neg q]
    exact hr
theorem kx_W_chain {op : Int32 → Nat} {p : Nat → kx_Q} (ho : op (-1) = 0) (h : kx_W L p) : kx_W L (kx_chain t L op p) := fun a ha => kx_W_seq (h a ha) (kx_W_loop ho h 240)
theorem kx_W_cmp {s : Nat → kx_Q} (h : kx_W L s) : kx_W L (kx_cmp t L s) := by
  intro a ha
  have n1 := kw_nx_le t L a
  have n2 := kw_nx_L (t := t) ha
  unfold kx_cmp
  by_cases q : kx_oC (kx_sg t L (kw_nx t L a)) = 0
  · rw [if_pos q]
    dsimp only [List.length_nil]
    omega
  · rw [if_neg q]
    have := kx_sg_ne (t := t) (L := L) (a := kw_nx t L a) (fun s => q (by rw [s]; rfl))
    obtain ⟨⟨p1, p2⟩, p3⟩ := h (kw_nx t L a + 1) (by omega)
    dsimp only
    rw [List.length_append, List.length_cons, List.length_nil]
    omega
theorem kx_W_unit {nest : Option ((Nat → kx_Q) × (Nat → kx_Q))} {s : Nat → kx_Q} (hn : ∀ n, nest = some n → kx_W L n.1 ∧ kx_W L n.2) (h : kx_W L s) : kx_W L (kx_unit t L nest s) := by
  intro a ha
  have n1 := kw_nx_le t L a
  have n2 := kw_nx_L (t := t) ha
  unfold kx_unit
  by_cases q : kx_sg t L (kw_nx t L a) = 33
  · rw [if_pos q]
    have := kx_sg_ne (t := t) (L := L) (a := kw_nx t L a) (fun s => absurd (q.symm.trans s) (by decide))
    cases hb : nest with
    | none =>
      dsimp only [List.length_nil]
      omega
    | some n =>
      obtain ⟨⟨p1, p2⟩, p3⟩ := (hn n hb).1 (kw_nx t L a + 1) (by omega)
      dsimp only
      rw [List.length_append, List.length_cons, List.length_nil]
      omega
  · rw [if_neg q]
    by_cases q2 : kx_sg t L (kw_nx t L a) = 40
    · rw [if_pos q2]
      have := kx_sg_ne (t := t) (L := L) (a := kw_nx t L a) (fun s => absurd (q2.symm.trans s) (by decide))
      cases hb : nest with
      | none =>
        dsimp only [List.length_nil]
        omega
      | some n =>
        have hp := (hn n hb).2 (kw_nx t L a + 1) (by omega)
        obtain ⟨⟨c1, c2⟩, c3⟩ := kx_W_close (t := t) (c := 41) (r := n.2 (kw_nx t L a + 1)) (by decide) hp
        dsimp only
        omega
    · rw [if_neg q2]
      obtain ⟨⟨c1, c2⟩, c3⟩ := kx_W_seq (h (kw_nx t L a) n2) (kx_W_cmp (t := t) h)
      omega
theorem kx_W_S : ∀ r, kx_W L (kx_S t L r) := by
  intro r
  induction r with
  | zero => exact kx_W_chain rfl (kx_W_chain rfl (kx_W_atom (fun p hp => by cases hp)))
  | succ r ih => exact kx_W_chain rfl (kx_W_chain rfl (kx_W_atom (fun p hp => by cases hp; exact ih)))
theorem kx_W_tr {u : Nat → kx_Q} (h : kx_W L u) : kx_W L (kx_tr t L u) := kx_W_chain rfl h
theorem kx_W_cd {u : Nat → kx_Q} (h : kx_W L u) : kx_W L (kx_cd t L u) := kx_W_chain rfl (kx_W_tr h)
theorem kx_W_U : ∀ r, kx_W L (kx_U t L r) := by
  intro r
  induction r with
  | zero => exact kx_W_unit (fun n hn => by cases hn) (kx_W_S 0)
  | succ r ih => exact kx_W_unit (fun n hn => by cases hn; exact ⟨ih, kx_W_cd ih⟩) (kx_W_S (r + 1))
theorem kx_W_trB {s u : Nat → kx_Q} (hs : kx_W L s) (hu : kx_W L u) : kx_W L (kx_trB t L s u) := fun a ha => kx_W_seq (kx_W_cmp hs a ha) (kx_W_loop rfl hu 240)
theorem kx_W_cdB {s u : Nat → kx_Q} (hs : kx_W L s) (hu : kx_W L u) : kx_W L (kx_cdB t L s u) := fun a ha => kx_W_seq (kx_W_trB hs hu a ha) (kx_W_loop rfl (kx_W_tr hu) 240)
end
