/-! laws as texts: the class's clauses, the whole reader -/
section
variable {d L a : Nat} {e : List kv_E} {t : Nat → Int32} {z z' : Nat → Nat → Int32} {zl : Nat → Nat → Int64}
def kx_NE (p : Nat → kx_Q) : Prop := ∀ a, (p a).1 = true → ¬ (p a).2.2 = []
theorem kx_NE_cmp (s : Nat → kx_Q) : kx_NE (kx_cmp t L s) := by
  intro a h
  unfold kx_cmp at h ⊢
  by_cases q : kx_oC (kx_sg t L (kw_nx t L a)) = 0
  · rw [if_pos q] at h
    exact absurd h (by simp)
  · rw [if_neg q]
    exact List.append_ne_nil_of_right_ne_nil _ (by simp)
theorem kx_NE_seq1 {r : kx_Q} {k : Nat → kx_Q} (hr : r.1 = true → ¬ r.2.2 = []) (h : (kx_seq r k).1 = true) : ¬ (kx_seq r k).2.2 = [] := by
  by_cases q : r.1 = true
  · rw [kx_seq_1 q]
    exact List.append_ne_nil_of_left_ne_nil (hr q) _
  · rw [kx_seq_0 q] at h
    exact absurd h q
theorem kx_NE_seq2 {r : kx_Q} {k : Nat → kx_Q} (hk : kx_NE k) (h : (kx_seq r k).1 = true) : ¬ (kx_seq r k).2.2 = [] := by
  by_cases q : r.1 = true
  · rw [kx_seq_1 q] at h ⊢
    exact List.append_ne_nil_of_right_ne_nil _ (hk _ h)
  · rw [kx_seq_0 q] at h
    exact absurd h q
theorem kx_NE_close {c : Int32} {r : kx_Q} (hr : r.1 = true → ¬ r.2.2 = []) (h : (kx_close t L c r).1 = true) : ¬ (kx_close t L c r).2.2 = [] := by
  by_cases q : r.1 = true
  · by_cases q2 : kx_sg t L (kw_nx t L r.2.1) = c
    · rw [kx_close_1 q q2]
      exact hr q
    · rw [kx_close_2 q q2] at h
      exact absurd h (by simp)
  · rw [kx_close_0 q] at h
    exact absurd h q
theorem kx_NE_unit {nest : Option ((Nat → kx_Q) × (Nat → kx_Q))} {s : Nat → kx_Q} (hn : ∀ n, nest = some n → kx_NE n.2) : kx_NE (kx_unit t L nest s) := by
  intro a h
  unfold kx_unit at h ⊢
  by_cases q : kx_sg t L (kw_nx t L a) = 33
  · rw [if_pos q] at h ⊢
    cases hb : nest with
    | none =>
      rw [hb] at h
      exact absurd h (by simp)
    | some n => exact List.append_ne_nil_of_right_ne_nil _ (by simp)
  · rw [if_neg q] at h ⊢
    by_cases q2 : kx_sg t L (kw_nx t L a) = 40
    · rw [if_pos q2] at h ⊢
      cases hb : nest with
      | none =>
        rw [hb] at h
        exact absurd h (by simp)
      | some n =>
        rw [hb] at h
        exact kx_NE_close (hn n hb _) h
    · rw [if_neg q2] at h ⊢
      exact kx_NE_seq2 (kx_NE_cmp s) h
theorem kx_NE_cd {u : Nat → kx_Q} (h : kx_NE u) : kx_NE (kx_cd t L u) := fun a g => kx_NE_seq1 (fun q => kx_NE_seq1 (h a) q) g
theorem kx_NE_U : ∀ r, kx_NE (kx_U t L r) := by
  intro r
  induction r with
  | zero => exact kx_NE_unit (fun n hn => by cases hn)
  | succ r ih => exact kx_NE_unit (fun n hn => by cases hn; exact kx_NE_cd ih)
theorem kx_NE_cdB (s u : Nat → kx_Q) : kx_NE (kx_cdB t L s u) := fun a g => kx_NE_seq1 (fun q => kx_NE_seq1 (kx_NE_cmp s a) q) g
/-- a clause's steps from n on -/
def kx_cg (n : Nat) (c : List (Nat × Nat) × List (Nat × Nat)) : List Int32 := if c.1 = [] then c.2.map kx_pk ++ [kx_p2 13 0] else c.1.map kx_pk ++ (kx_p2 12 (Int32.ofNat (n + c.1.length + 1 + c.2.length + 1)) :: (c.2.map kx_pk ++ [kx_p2 13 0]))
def kx_pg (n : Nat) : List (List (Nat × Nat) × List (Nat × Nat)) → List Int32
  | [] => []
  | c :: cs => kx_cg n c ++ kx_pg (n + (kx_cg n c).length) cs
/-- a step told anew -/
theorem kx_pr_set {A B : List Int32} {x y : Int32} (h : kx_pr (A ++ x :: B) z) : kx_pr (A ++ y :: B) (kv_z z 32 (upd (z 32) A.length y)) := by
  refine ⟨?_, fun i hi => ?_⟩
  · rw [kv_zne _ _ (by omega), h.1, List.length_append, List.length_append, List.length_cons, List.length_cons]
  · rw [kv_zs]
    unfold upd
    by_cases q : i = A.length
    · rw [if_pos q, q, List.getD_eq_getElem?_getD, List.getElem?_append_right (Nat.le_refl _), Nat.sub_self]
      rfl
    · rw [List.length_append, List.length_cons] at hi
      rw [if_neg q, h.2 i (by rw [List.length_append, List.length_cons]; exact hi), List.getD_eq_getElem?_getD, List.getD_eq_getElem?_getD]
      by_cases r : i < A.length
      · rw [List.getElem?_append_left r, List.getElem?_append_left r]
      · rw [List.getElem?_append_right (by omega), List.getElem?_append_right (by omega), show i - A.length = (i - A.length - 1) + 1 from by omega]
        rfl
theorem kx_aimHere {A B : List Int32} {x : Int32} (h : kx_pr (A ++ x :: B) z) (hl : A.length < 256) : kv_Rn d 34 0 [some (.ref 31), some (.int (Int32.ofNat A.length))] [] (kv_h e z zl) = some (none, kv_h e (kv_z z 32 (upd (z 32) A.length (kx_p2 12 (Int32.ofNat (A ++ x :: B).length)))) zl) := by
  have hn : A.length < 2147483648 := by omega
  have l256 : ((256 : Int32) ≤ Int32.ofNat A.length) = False := kv_ln_ (m := 256) hl (by omega)
  have hL : kv_aw (kv_shK ++ e) 32 = 256 := kv_aw_k e rfl (by decide)
  have e12 : (786432 : Int32) ||| Int32.ofNat (A ++ x :: B).length = kx_p2 12 (Int32.ofNat (A ++ x :: B).length) := by
    unfold kx_p2
    rw [show (12 : Int32) <<< ((16 : Int32) &&& 31) = 786432 from by decide]
  simp only [kv_e34_0, kv_e34_1, kv_e34_4, kv_e34_5, kv_e34_8, kv_e34_11, kv_e34_12, kv_e34_15, kv_e34_16, kv_e34_18, kv_e34_19, kv_e34_22, kv_e34_23, kv_e34_24, kv_o10, not_false_eq_true, not_true, if_true, if_false, kv_then_s, kv_then_v, kv_then_n, List.cons_append, List.nil_append, kv_Ci, kv_Cr, kv_Cn, kv_Cu, kv_C0, kv_catc, kv_gCi, kv_gCl, kv_gCr, kv_nb0, kv_nb1, kv_nbi, kv_nb01, Nat.reduceAdd, Nat.reduceLeDiff, kw_n0 hn, l256, kv_isL31 e, h.1, hL, kv_tn hn, kv_lN hl, or_self, e12]
theorem kx_pr_a {ps : List Int32} {b : Nat} (h : kx_pr ps z) : kx_pr ps (kw_aK z b) := kx_pr_1 h
theorem kx_gateK (ht : ∀ i, i < L → kw_rg (t i) 1 255) (hd : 80 ≤ d) {r : kx_Q} {ps : List Int32} {u1 : Int32} {u2 : Int32} (hr : r.1 = true) (hne : ¬ r.2.2 = []) (ha : r.2.1 ≤ L) (hc : kw_ctK t L r.2.1 z) (hp : kx_pr (ps ++ r.2.2.map kx_pk) z) (hl : ps.length + r.2.2.length + 2 ≤ r.2.1) (u3 : Option Value) : ∃ z', kv_Rn (d + 1) 40 99 [some (.ref 30), some (.int u1), some (.int u2), u3] [] (kv_h e z zl) = some (some (.int (if (kx_gate t L (kx_S t L 6) r).1 = true then 1 else 0)), kv_h e z' zl) ∧ kx_frK z z' ∧ kw_ctK t L (kx_gate t L (kx_S t L 6) r).2.1 z' ∧ ((kx_gate t L (kx_S t L 6) r).1 = true → kx_pr (ps ++ kx_cg ps.length (kx_gate t L (kx_S t L 6) r).2.2) z' ∧ (kx_cg ps.length (kx_gate t L (kx_S t L 6) r).2.2).length + ps.length ≤ (kx_gate t L (kx_S t L 6) r).2.1) ∧ (kx_gate t L (kx_S t L 6) r).2.1 ≤ L ∧ r.2.1 ≤ (kx_gate t L (kx_S t L 6) r).2.1 := by
  have hL := hc.1.2
  have n1 := kw_nx_le t L r.2.1
  have n2 := kw_nx_L (t := t) ha
  obtain ⟨d', rfl⟩ : ∃ d', d = d' + 1 := ⟨d - 1, by omega⟩
  have tk := kw_takeK (d := d') (e := e) (zl := zl) 63 (show r.2.1 ≤ 100000 by omega) hc
  unfold kx_gate
  rw [if_pos hr]
  by_cases q : kx_sg t L (kw_nx t L r.2.1) = 63
  · rw [if_pos q] at tk ⊢
    have hlt := kx_sg_ne (t := t) (L := L) (a := kw_nx t L r.2.1) (fun s => absurd (q.symm.trans s) (by decide))
    obtain ⟨z2, r2, f2, p2⟩ := kx_addK (d := d' + 1) (e := e) (zl := zl) 12 0 (kx_pr_a (b := kw_nx t L r.2.1 + 1) hp) (by rw [List.length_append, List.length_map]; omega)
    have c1 := kw_ctK_a (b := kw_nx t L r.2.1 + 1) hc
    have c2 := kx_ct_fr c1 (f2 1 (by omega) (by omega)) (f2 2 (by omega) (by omega))
    have ws := kx_W_S (t := t) (L := L) 6 (kw_nx t L r.2.1 + 1) (by omega)
    obtain ⟨⟨w1, w2⟩, w3⟩ := ws
    obtain ⟨z3, r3, f3, c3, p3⟩ := kx_SumK (e := e) (zl := zl) ht 6 (d' + 1) (by omega) (by omega) (kw_nx t L r.2.1 + 1) (ps ++ r.2.2.map kx_pk ++ [kx_p2 12 0]) z2 (by omega) c2 p2 (by rw [List.length_append, List.length_append, List.length_map, List.length_cons, List.length_nil]; omega)
    rw [show Int32.ofNat (6 - 6) = (0 : Int32) from rfl] at r3
    have eg : kw_aK z (kw_nx t L r.2.1 + 1) 31 1 = Int32.ofNat (ps ++ r.2.2.map kx_pk).length := by rw [kw_aK_fr _ _ (by omega)]; exact hp.1
    by_cases qo : (kx_S t L 6 (kw_nx t L r.2.1 + 1)).1 = true
    · obtain ⟨z4, r4, f4, p4⟩ := kx_addK (d := d' + 1) (e := e) (zl := zl) 13 0 (p3 qo) (by rw [List.length_append, List.length_append, List.length_append, List.length_map, List.length_map, List.length_cons, List.length_nil]; omega)
      have el : ps ++ r.2.2.map kx_pk ++ [kx_p2 12 0] ++ (kx_S t L 6 (kw_nx t L r.2.1 + 1)).2.2.map kx_pk ++ [kx_p2 13 0] = (ps ++ r.2.2.map kx_pk) ++ kx_p2 12 0 :: ((kx_S t L 6 (kw_nx t L r.2.1 + 1)).2.2.map kx_pk ++ [kx_p2 13 0]) := by
        rw [List.append_assoc (ps ++ r.2.2.map kx_pk) [kx_p2 12 0], List.append_assoc (ps ++ r.2.2.map kx_pk)]
        rfl
      rw [el] at p4
      have am := kx_aimHere (d := d' + 1) (e := e) (zl := zl) p4 (by rw [List.length_append, List.length_map]; omega)
      have p5 := kx_pr_set (y := kx_p2 12 (Int32.ofNat ((ps ++ r.2.2.map kx_pk) ++ kx_p2 12 0 :: ((kx_S t L 6 (kw_nx t L r.2.1 + 1)).2.2.map kx_pk ++ [kx_p2 13 0])).length)) p4
      have el2 : ((ps ++ r.2.2.map kx_pk) ++ kx_p2 12 0 :: ((kx_S t L 6 (kw_nx t L r.2.1 + 1)).2.2.map kx_pk ++ [kx_p2 13 0])).length = ps.length + r.2.2.length + 1 + (kx_S t L 6 (kw_nx t L r.2.1 + 1)).2.2.length + 1 := by
        simp only [List.length_append, List.length_cons, List.length_map, List.length_nil]
        omega
      rw [el2] at am p5
      have f5 : ∀ c, c ≠ 32 → kv_z z4 32 (upd (z4 32) (ps ++ r.2.2.map kx_pk).length (kx_p2 12 (Int32.ofNat (ps.length + r.2.2.length + 1 + (kx_S t L 6 (kw_nx t L r.2.1 + 1)).2.2.length + 1)))) c = z4 c := fun c h => kv_zne _ _ h
      generalize kv_z z4 32 (upd (z4 32) (ps ++ r.2.2.map kx_pk).length (kx_p2 12 (Int32.ofNat (ps.length + r.2.2.length + 1 + (kx_S t L 6 (kw_nx t L r.2.1 + 1)).2.2.length + 1)))) = z5 at am p5 f5
      refine ⟨z5, ?_, kx_frK_tr kx_frK_1 (kx_frK_tr (fun c a1 a2 a3 => f2 c a2 a3) (kx_frK_tr f3 (kx_frK_tr (fun c a1 a2 a3 => f4 c a2 a3) (fun c a1 a2 a3 => f5 c a3)))), kx_ct_fr c3 ((f5 1 (by omega)).trans (f4 1 (by omega) (by omega))) ((f5 2 (by omega)).trans (f4 2 (by omega) (by omega))), fun _ => ⟨?_, ?_⟩, w2, by dsimp only; omega⟩
      · simp only [kv_e40_99, kv_e40_100, kv_e40_103, kv_e40_105, kv_e40_108, kv_e40_113, kv_e40_114, kv_e40_117, kv_e40_120, kv_e40_121, kv_e40_122, kv_e40_125, kv_e40_127, kv_e40_128, kv_e40_131, kv_e40_132, kv_e40_133, kv_e40_136, kv_e40_141, kv_e40_142, kv_e40_145, kv_e40_147, kv_e40_148, kv_e40_151, kv_e40_152, kv_e40_155, kv_e40_156, kv_e40_159, kv_e40_160, kv_o10, not_false_eq_true, not_true, if_true, if_false, kv_then_s, kv_then_v, kv_then_n, List.cons_append, List.nil_append, kv_Ci, kv_Cr, kv_Cn, kv_Cu, kv_C0, kv_catc, kv_gCi, kv_gCl, kv_gCr, kv_nb0, kv_nb1, kv_nbi, kv_nb01, Nat.reduceAdd, Nat.reduceLeDiff, tk, kv_isL31, eg, r2, r3, qo, r4, am]
      · dsimp only
        unfold kx_cg
        rw [if_neg hne, ← List.append_assoc]
        exact p5
      · dsimp only
        unfold kx_cg
        rw [if_neg hne]
        simp only [List.length_append, List.length_cons, List.length_map, List.length_nil]
        omega
    · refine ⟨z3, ?_, kx_frK_tr kx_frK_1 (kx_frK_tr (fun c a1 a2 a3 => f2 c a2 a3) f3), c3, fun s => absurd s qo, w2, by dsimp only; omega⟩
      simp only [kv_e40_99, kv_e40_100, kv_e40_103, kv_e40_105, kv_e40_108, kv_e40_113, kv_e40_114, kv_e40_117, kv_e40_120, kv_e40_121, kv_e40_122, kv_e40_125, kv_e40_127, kv_e40_128, kv_e40_131, kv_e40_132, kv_e40_133, kv_e40_136, kv_e40_139, kv_e40_140, kv_o10, not_false_eq_true, not_true, if_true, if_false, kv_then_s, kv_then_v, kv_then_n, List.cons_append, List.nil_append, kv_Ci, kv_Cr, kv_Cn, kv_Cu, kv_C0, kv_catc, kv_gCi, kv_gCl, kv_gCr, kv_nb0, kv_nb1, kv_nbi, kv_nb01, Nat.reduceAdd, Nat.reduceLeDiff, tk, kv_isL31, eg, r2, r3, qo, Bool.false_eq_true, eq_self]
  · rw [if_neg q] at tk ⊢
    refine ⟨kw_aK z (kw_nx t L r.2.1), ?_, kx_frK_1, kw_ctK_a hc, fun s => absurd s (by simp), n2, n1⟩
    simp only [kv_e40_99, kv_e40_100, kv_e40_103, kv_e40_105, kv_e40_108, kv_e40_111, kv_e40_112, kv_o10, not_false_eq_true, not_true, if_true, if_false, kv_then_s, kv_then_v, kv_then_n, List.cons_append, List.nil_append, kv_Ci, kv_Cr, kv_Cn, kv_Cu, kv_C0, kv_catc, kv_gCi, kv_gCl, kv_gCr, kv_nb0, kv_nb1, kv_nbi, kv_nb01, Nat.reduceAdd, Nat.reduceLeDiff, tk, Bool.false_eq_true, eq_self]
theorem kx_body_c {s u : Nat → kx_Q} {b : Nat} (q : kx_sg t L b = 33 ∨ kx_sg t L b = 40) : kx_body t L s u b = kx_gate t L s (kx_cd t L u b) := if_pos q
theorem kx_body_f {s u : Nat → kx_Q} {b : Nat} (q : ¬ (kx_sg t L b = 33 ∨ kx_sg t L b = 40)) (h : ¬ (s b).1 = true) : kx_body t L s u b = (false, (s b).2.1, [], []) := (if_neg q).trans (if_neg h)
theorem kx_body_s {s u : Nat → kx_Q} {b : Nat} (q : ¬ (kx_sg t L b = 33 ∨ kx_sg t L b = 40)) (h : (s b).1 = true) (g : kx_oC (kx_sg t L (kw_nx t L (s b).2.1)) = 0) : kx_body t L s u b = (true, kw_nx t L (s b).2.1, [], (s b).2.2) := (if_neg q).trans ((if_pos h).trans (if_pos g))
theorem kx_body_g {s u : Nat → kx_Q} {b : Nat} (q : ¬ (kx_sg t L b = 33 ∨ kx_sg t L b = 40)) (h : (s b).1 = true) (g : ¬ kx_oC (kx_sg t L (kw_nx t L (s b).2.1)) = 0) : kx_body t L s u b = kx_gate t L s ((kx_cdB t L s u (s b).2.1).1, (kx_cdB t L s u (s b).2.1).2.1, (s b).2.2 ++ (kx_cdB t L s u (s b).2.1).2.2) := (if_neg q).trans ((if_pos h).trans (if_neg g))
/-- what a clause does -/
def kx_CLK (t : Nat → Int32) (L : Nat) (e : List kv_E) (zl : Nat → Nat → Int64) (D pc : Nat) (ls : kv_L) (p : Nat → kx_QC) (k : Nat) : Prop := ∀ (a : Nat) (ps : List Int32) (z : Nat → Nat → Int32), a ≤ L → kw_ctK t L a z → kx_pr ps z → ps.length + k ≤ a → ∃ z', kv_Rn D 40 pc ls [] (kv_h e z zl) = some (some (.int (if (p a).1 = true then 1 else 0)), kv_h e z' zl) ∧ kx_frK z z' ∧ kw_ctK t L (p a).2.1 z' ∧ ((p a).1 = true → kx_pr (ps ++ kx_cg ps.length (p a).2.2) z' ∧ (kx_cg ps.length (p a).2.2).length + ps.length ≤ (p a).2.1) ∧ (p a).2.1 ≤ L ∧ a ≤ (p a).2.1
theorem kx_bodyK (ht : ∀ i, i < L → kw_rg (t i) 1 255) (hd : 80 ≤ d) (a : Nat) (ps : List Int32) (ha : a ≤ L) (hc : kw_ctK t L a z) (hp : kx_pr ps z) (hl : ps.length + 2 ≤ a) : ∃ z', kv_Rn (d + 1) 40 26 [some (.ref 30), none, none, none] [] (kv_h e z zl) = some (some (.int (if (kx_body t L (kx_S t L 6) (kx_U t L 6) (kw_nx t L a)).1 = true then 1 else 0)), kv_h e z' zl) ∧ kx_frK z z' ∧ kw_ctK t L (kx_body t L (kx_S t L 6) (kx_U t L 6) (kw_nx t L a)).2.1 z' ∧ ((kx_body t L (kx_S t L 6) (kx_U t L 6) (kw_nx t L a)).1 = true → kx_pr (ps ++ kx_cg ps.length (kx_body t L (kx_S t L 6) (kx_U t L 6) (kw_nx t L a)).2.2) z' ∧ (kx_cg ps.length (kx_body t L (kx_S t L 6) (kx_U t L 6) (kw_nx t L a)).2.2).length + ps.length ≤ (kx_body t L (kx_S t L 6) (kx_U t L 6) (kw_nx t L a)).2.1) ∧ (kx_body t L (kx_S t L 6) (kx_U t L 6) (kw_nx t L a)).2.1 ≤ L ∧ a ≤ (kx_body t L (kx_S t L 6) (kx_U t L 6) (kw_nx t L a)).2.1 := by
  have hL := hc.1.2
  have n1 := kw_nx_le t L a
  have n2 := kw_nx_L (t := t) ha
  have c1 := kw_ctK_a (b := kw_nx t L a) hc
  have p1 : kx_pr ps (kw_aK z (kw_nx t L a)) := kx_pr_1 hp
  obtain ⟨d', rfl⟩ : ∃ d', d = d' + 1 := ⟨d - 1, by omega⟩
  have sg := kw_signK (d := d' + 1) (e := e) (zl := zl) (show a ≤ 100000 by omega) hc
  generalize kw_nx t L a = b at *
  by_cases q : kx_sg t L b = 33 ∨ kx_sg t L b = 40
  · rw [kx_body_c q]
    obtain ⟨z2, r2, f2, c2, p2⟩ := kx_CondK (e := e) (zl := zl) ht (D := d' + 1) (by omega) b ps (kw_aK z b) n2 c1 p1 (by omega)
    obtain ⟨⟨w1, w2⟩, w3⟩ := kx_W_cd (t := t) (kx_W_U (t := t) (L := L) 6) b n2
    have road : kv_Rn (d' + 1 + 1) 40 26 [some (.ref 30), none, none, none] [] (kv_h e z zl) = kv_Rn (d' + 1 + 1) 40 96 [some (.ref 30), some (.int (kx_sg t L b)), some (.int 0), none] [.int (if (kx_cd t L (kx_U t L 6) b).1 = true then 1 else 0)] (kv_h e z2 zl) := by
      rcases q with q | q
      · simp only [kv_e40_26, kv_e40_27, kv_e40_30, kv_e40_33, kv_e40_34, kv_e40_35, kv_e40_37, kv_e40_50, kv_e40_51, kv_e40_52, kv_e40_53, kv_e40_66, kv_e40_67, kv_e40_90, kv_e40_91, kv_e40_92, kv_e40_93, kv_o10, not_false_eq_true, not_true, if_true, if_false, kv_then_s, kv_then_v, kv_then_n, List.cons_append, List.nil_append, kv_Ci, kv_Cr, kv_Cn, kv_Cu, kv_C0, kv_catc, kv_gCi, kv_gCl, kv_gCr, kv_nb0, kv_nb1, kv_nbi, kv_nb01, Nat.reduceAdd, Nat.reduceLeDiff, sg, q, eq_self, r2]
      · simp only [kv_e40_26, kv_e40_27, kv_e40_30, kv_e40_33, kv_e40_34, kv_e40_35, kv_e40_37, kv_e40_40, kv_e40_41, kv_e40_43, kv_e40_50, kv_e40_51, kv_e40_52, kv_e40_53, kv_e40_66, kv_e40_67, kv_e40_90, kv_e40_91, kv_e40_92, kv_e40_93, kv_o10, not_false_eq_true, not_true, if_true, if_false, kv_then_s, kv_then_v, kv_then_n, List.cons_append, List.nil_append, kv_Ci, kv_Cr, kv_Cn, kv_Cu, kv_C0, kv_catc, kv_gCi, kv_gCl, kv_gCr, kv_nb0, kv_nb1, kv_nbi, kv_nb01, Nat.reduceAdd, Nat.reduceLeDiff, sg, q, show ((40 : Int32) = 33) = False from by decide, eq_self, r2]
    rw [road]
    by_cases qo : (kx_cd t L (kx_U t L 6) b).1 = true
    · obtain ⟨z3, r3, f3, c3, p3, g1, g2⟩ := kx_gateK (d := d' + 1) (e := e) (zl := zl) ht hd (u1 := kx_sg t L b) (u2 := 0) qo (kx_NE_cd (kx_NE_U 6) b qo) w2 c2 (p2 qo) (by omega) none
      refine ⟨z3, ?_, kx_frK_tr kx_frK_1 (kx_frK_tr f2 f3), c3, p3, g1, by omega⟩
      rw [← r3]
      simp only [kv_e40_96, kv_o10, not_false_eq_true, not_true, if_true, if_false, kv_then_s, kv_then_v, kv_then_n, List.cons_append, List.nil_append, kv_Ci, kv_Cr, kv_Cn, kv_Cu, kv_C0, kv_catc, kv_gCi, kv_gCl, kv_gCr, kv_nb0, kv_nb1, kv_nbi, kv_nb01, Nat.reduceAdd, Nat.reduceLeDiff, qo]
    · have eg : kx_gate t L (kx_S t L 6) (kx_cd t L (kx_U t L 6) b) = (false, (kx_cd t L (kx_U t L 6) b).2.1, [], []) := if_neg qo
      rw [eg]
      refine ⟨z2, ?_, kx_frK_tr kx_frK_1 f2, c2, fun s => absurd s (by simp), w2, by dsimp only; omega⟩
      simp only [kv_e40_96, kv_e40_111, kv_e40_112, kv_o10, not_false_eq_true, not_true, if_true, if_false, kv_then_s, kv_then_v, kv_then_n, List.cons_append, List.nil_append, kv_Ci, kv_Cr, kv_Cn, kv_Cu, kv_C0, kv_catc, kv_gCi, kv_gCl, kv_gCr, kv_nb0, kv_nb1, kv_nbi, kv_nb01, Nat.reduceAdd, Nat.reduceLeDiff, qo, Bool.false_eq_true, eq_self]
  · have q1 : ¬ kx_sg t L b = 33 := fun s => q (Or.inl s)
    have q2 : ¬ kx_sg t L b = 40 := fun s => q (Or.inr s)
    obtain ⟨z2, r2, f2, c2, p2⟩ := kx_SumK (e := e) (zl := zl) ht 6 (d' + 1) (by omega) (by omega) b ps (kw_aK z b) n2 c1 p1 (by omega)
    rw [show Int32.ofNat (6 - 6) = (0 : Int32) from rfl] at r2
    obtain ⟨⟨w1, w2⟩, w3⟩ := kx_W_S (t := t) (L := L) 6 b n2
    have road : kv_Rn (d' + 1 + 1) 40 26 [some (.ref 30), none, none, none] [] (kv_h e z zl) = kv_Rn (d' + 1 + 1) 40 61 [some (.ref 30), some (.int (kx_sg t L b)), some (.int 1), none] [.int (if (kx_S t L 6 b).1 = true then 1 else 0)] (kv_h e z2 zl) := by
      simp only [kv_e40_26, kv_e40_27, kv_e40_30, kv_e40_33, kv_e40_34, kv_e40_35, kv_e40_37, kv_e40_40, kv_e40_41, kv_e40_43, kv_e40_46, kv_e40_47, kv_e40_51, kv_e40_52, kv_e40_53, kv_e40_56, kv_e40_57, kv_e40_58, kv_o10, not_false_eq_true, not_true, if_true, if_false, kv_then_s, kv_then_v, kv_then_n, List.cons_append, List.nil_append, kv_Ci, kv_Cr, kv_Cn, kv_Cu, kv_C0, kv_catc, kv_gCi, kv_gCl, kv_gCr, kv_nb0, kv_nb1, kv_nbi, kv_nb01, Nat.reduceAdd, Nat.reduceLeDiff, sg, q1, q2, r2]
    rw [road]
    by_cases qo : (kx_S t L 6 b).1 = true
    · have cp := kx_comparison (d := d') (e := e) (zl := zl) (show (kx_S t L 6 b).2.1 ≤ 100000 by omega) c2
      have m1 := kw_nx_le t L (kx_S t L 6 b).2.1
      have m2 := kw_nx_L (t := t) w2
      by_cases qc : kx_oC (kx_sg t L (kw_nx t L (kx_S t L 6 b).2.1)) = 0
      · rw [kx_body_s q qo qc]
        have cv : kx_cv (kx_sg t L (kw_nx t L (kx_S t L 6 b).2.1)) = -1 := if_pos qc
        rw [cv] at cp
        obtain ⟨z3, r3, f3, p3⟩ := kx_addK (d := d' + 1) (e := e) (zl := zl) 13 0 (kx_pr_a (b := kw_nx t L (kx_S t L 6 b).2.1) (p2 qo)) (by rw [List.length_append, List.length_map]; omega)
        refine ⟨z3, ?_, kx_frK_tr kx_frK_1 (kx_frK_tr f2 (kx_frK_tr kx_frK_1 (fun c a1 a2 a3 => f3 c a2 a3))), kx_ct_fr (kw_ctK_a (b := kw_nx t L (kx_S t L 6 b).2.1) c2) (f3 1 (by omega) (by omega)) (f3 2 (by omega) (by omega)), fun _ => ⟨?_, ?_⟩, m2, by dsimp only; omega⟩
        · simp only [kv_e40_61, kv_e40_66, kv_e40_67, kv_e40_70, kv_e40_71, kv_e40_74, kv_e40_75, kv_e40_78, kv_e40_79, kv_e40_82, kv_e40_84, kv_e40_85, kv_e40_88, kv_e40_89, kv_o10, not_false_eq_true, not_true, if_true, if_false, kv_then_s, kv_then_v, kv_then_n, List.cons_append, List.nil_append, kv_Ci, kv_Cr, kv_Cn, kv_Cu, kv_C0, kv_catc, kv_gCi, kv_gCl, kv_gCr, kv_nb0, kv_nb1, kv_nbi, kv_nb01, Nat.reduceAdd, Nat.reduceLeDiff, qo, cp, kv_isL31, r3]
        · dsimp only
          unfold kx_cg
          rw [if_pos rfl, ← List.append_assoc]
          exact p3
        · dsimp only
          unfold kx_cg
          rw [if_pos rfl]
          simp only [List.length_append, List.length_cons, List.length_map, List.length_nil]
          omega
      · rw [kx_body_g q qo qc]
        have cv : kx_cv (kx_sg t L (kw_nx t L (kx_S t L 6 b).2.1)) = Int32.ofNat (kx_oC (kx_sg t L (kw_nx t L (kx_S t L 6 b).2.1))) := if_neg qc
        rw [cv] at cp
        have c8 := kx_oC_lt (kx_sg t L (kw_nx t L (kx_S t L 6 b).2.1))
        obtain ⟨z3, r3, f3, c3, p3⟩ := kx_CondBK (e := e) (zl := zl) ht (D := d' + 1) (by omega) (kw_nx t L (kx_S t L 6 b).2.1) (ps ++ (kx_S t L 6 b).2.2.map kx_pk) (kw_aK z2 (kw_nx t L (kx_S t L 6 b).2.1)) m2 (kw_ctK_a c2) (kx_pr_1 (p2 qo)) (by rw [List.length_append, List.length_map]; omega)
        have en : kx_cdB t L (kx_S t L 6) (kx_U t L 6) (kw_nx t L (kx_S t L 6 b).2.1) = kx_cdB t L (kx_S t L 6) (kx_U t L 6) (kx_S t L 6 b).2.1 := by
          unfold kx_cdB kx_trB
          rw [kx_cmp_nx]
        rw [en] at r3 c3 p3
        obtain ⟨⟨v1, v2⟩, v3⟩ := kx_W_cdB (t := t) (kx_W_S (t := t) (L := L) 6) (kx_W_U (t := t) (L := L) 6) (kx_S t L 6 b).2.1 w2
        generalize hR : kx_cdB t L (kx_S t L 6) (kx_U t L 6) (kx_S t L 6 b).2.1 = R at r3 c3 p3 v1 v2 v3
        have ne : R.1 = true → ¬ R.2.2 = [] := by rw [← hR]; exact kx_NE_cdB _ _ _
        have road2 : kv_Rn (d' + 1 + 1) 40 61 [some (.ref 30), some (.int (kx_sg t L b)), some (.int 1), none] [.int (if (kx_S t L 6 b).1 = true then 1 else 0)] (kv_h e z2 zl) = kv_Rn (d' + 1 + 1) 40 96 [some (.ref 30), some (.int (kx_sg t L b)), some (.int 1), none] [.int (if R.1 = true then 1 else 0)] (kv_h e z3 zl) := by
          simp only [kv_e40_61, kv_e40_66, kv_e40_67, kv_e40_70, kv_e40_71, kv_e40_74, kv_e40_75, kv_e40_90, kv_e40_91, kv_e40_92, kv_e40_93, kv_o10, not_false_eq_true, not_true, if_true, if_false, kv_then_s, kv_then_v, kv_then_n, List.cons_append, List.nil_append, kv_Ci, kv_Cr, kv_Cn, kv_Cu, kv_C0, kv_catc, kv_gCi, kv_gCl, kv_gCr, kv_nb0, kv_nb1, kv_nbi, kv_nb01, Nat.reduceAdd, Nat.reduceLeDiff, qo, cp, kw_of_m1 (show kx_oC (kx_sg t L (kw_nx t L (kx_S t L 6 b).2.1)) < 2147483648 by omega), r3]
        rw [road2]
        by_cases qr : R.1 = true
        · have p3 := p3 qr
          rw [List.append_assoc, ← List.map_append] at p3
          obtain ⟨z4, r4, f4, c4, p4, g1, g2⟩ := kx_gateK (d := d' + 1) (e := e) (zl := zl) ht hd (r := (R.1, R.2.1, (kx_S t L 6 b).2.2 ++ R.2.2)) (u1 := kx_sg t L b) (u2 := 1) qr (List.append_ne_nil_of_right_ne_nil _ (ne qr)) v2 c3 p3 (by dsimp only; rw [List.length_append]; omega) none
          refine ⟨z4, ?_, kx_frK_tr kx_frK_1 (kx_frK_tr f2 (kx_frK_tr kx_frK_1 (kx_frK_tr f3 f4))), c4, p4, g1, by have : R.2.1 ≤ _ := g2; omega⟩
          rw [← r4]
          simp only [kv_e40_96, kv_o10, not_false_eq_true, not_true, if_true, if_false, kv_then_s, kv_then_v, kv_then_n, List.cons_append, List.nil_append, kv_Ci, kv_Cr, kv_Cn, kv_Cu, kv_C0, kv_catc, kv_gCi, kv_gCl, kv_gCr, kv_nb0, kv_nb1, kv_nbi, kv_nb01, Nat.reduceAdd, Nat.reduceLeDiff, qr]
        · have eg : kx_gate t L (kx_S t L 6) (R.1, R.2.1, (kx_S t L 6 b).2.2 ++ R.2.2) = (false, R.2.1, [], []) := if_neg qr
          rw [eg]
          refine ⟨z3, ?_, kx_frK_tr kx_frK_1 (kx_frK_tr f2 (kx_frK_tr kx_frK_1 f3)), c3, fun s => absurd s (by simp), v2, by dsimp only; omega⟩
          simp only [kv_e40_96, kv_e40_111, kv_e40_112, kv_o10, not_false_eq_true, not_true, if_true, if_false, kv_then_s, kv_then_v, kv_then_n, List.cons_append, List.nil_append, kv_Ci, kv_Cr, kv_Cn, kv_Cu, kv_C0, kv_catc, kv_gCi, kv_gCl, kv_gCr, kv_nb0, kv_nb1, kv_nbi, kv_nb01, Nat.reduceAdd, Nat.reduceLeDiff, qr, Bool.false_eq_true, eq_self]
    · rw [kx_body_f q qo]
      refine ⟨z2, ?_, kx_frK_tr kx_frK_1 f2, c2, fun s => absurd s (by simp), w2, by dsimp only; omega⟩
      simp only [kv_e40_61, kv_e40_64, kv_e40_65, kv_o10, not_false_eq_true, not_true, if_true, if_false, kv_then_s, kv_then_v, kv_then_n, List.cons_append, List.nil_append, kv_Ci, kv_Cr, kv_Cn, kv_Cu, kv_C0, kv_catc, kv_gCi, kv_gCl, kv_gCr, kv_nb0, kv_nb1, kv_nbi, kv_nb01, Nat.reduceAdd, Nat.reduceLeDiff, qo, Bool.false_eq_true, eq_self]
theorem kx_clauseK (ht : ∀ i, i < L → kw_rg (t i) 1 255) (hd : 80 ≤ d) : kx_CLK t L e zl (d + 1) 0 [some (.ref 30), none, none, none] (kx_cls t L (kx_S t L 6) (kx_U t L 6)) 0 := by
  intro a ps z ha hc hp hl
  have hL := hc.1.2
  have n1 := kw_nx_le t L a
  have n2 := kw_nx_L (t := t) ha
  obtain ⟨d', rfl⟩ : ∃ d', d = d' + 1 := ⟨d - 1, by omega⟩
  have tk := kw_takeK (d := d') (e := e) (zl := zl) 121 (show a ≤ 100000 by omega) hc
  unfold kx_cls
  by_cases q : kx_sg t L (kw_nx t L a) = 121
  · rw [if_pos q] at tk ⊢
    have hlt := kx_sg_ne (t := t) (L := L) (a := kw_nx t L a) (fun s => absurd (q.symm.trans s) (by decide))
    have c1 := kw_ctK_a (b := kw_nx t L a + 1) hc
    have tk2 := kw_takeK (d := d') (e := e) (zl := zl) 58 (show kw_nx t L a + 1 ≤ 100000 by omega) c1
    have m1 := kw_nx_le t L (kw_nx t L a + 1)
    have m2 := kw_nx_L (t := t) (show kw_nx t L a + 1 ≤ L by omega)
    by_cases q2 : kx_sg t L (kw_nx t L (kw_nx t L a + 1)) = 58
    · rw [if_pos q2] at tk2 ⊢
      have hlt2 := kx_sg_ne (t := t) (L := L) (a := kw_nx t L (kw_nx t L a + 1)) (fun s => absurd (q2.symm.trans s) (by decide))
      have c2 := kw_ctK_a (b := kw_nx t L (kw_nx t L a + 1) + 1) c1
      obtain ⟨z2, r2, f2, c3, p2, g1, g2⟩ := kx_bodyK (d := d' + 1) (e := e) (zl := zl) ht hd (kw_nx t L (kw_nx t L a + 1) + 1) ps (by omega) c2 (kx_pr_1 (kx_pr_1 hp)) (by omega)
      refine ⟨z2, ?_, kx_frK_tr kx_frK_1 (kx_frK_tr kx_frK_1 f2), c3, p2, g1, by omega⟩
      rw [← r2]
      simp only [kv_e40_0, kv_e40_1, kv_e40_4, kv_e40_6, kv_e40_9, kv_e40_12, kv_e40_13, kv_e40_16, kv_e40_18, kv_e40_21, kv_o10, not_false_eq_true, not_true, if_true, if_false, kv_then_s, kv_then_v, kv_then_n, List.cons_append, List.nil_append, kv_Ci, kv_Cr, kv_Cn, kv_Cu, kv_C0, kv_catc, kv_gCi, kv_gCl, kv_gCr, kv_nb0, kv_nb1, kv_nbi, kv_nb01, Nat.reduceAdd, Nat.reduceLeDiff, tk, tk2]
    · rw [if_neg q2] at tk2 ⊢
      refine ⟨kw_aK (kw_aK z (kw_nx t L a + 1)) (kw_nx t L (kw_nx t L a + 1)), ?_, kx_frK_tr kx_frK_1 kx_frK_1, kw_ctK_a c1, fun s => absurd s (by simp), m2, by dsimp only; omega⟩
      simp only [kv_e40_0, kv_e40_1, kv_e40_4, kv_e40_6, kv_e40_9, kv_e40_12, kv_e40_13, kv_e40_16, kv_e40_18, kv_e40_21, kv_e40_24, kv_e40_25, kv_o10, not_false_eq_true, not_true, if_true, if_false, kv_then_s, kv_then_v, kv_then_n, List.cons_append, List.nil_append, kv_Ci, kv_Cr, kv_Cn, kv_Cu, kv_C0, kv_catc, kv_gCi, kv_gCl, kv_gCr, kv_nb0, kv_nb1, kv_nbi, kv_nb01, Nat.reduceAdd, Nat.reduceLeDiff, tk, tk2, Bool.false_eq_true, eq_self]
  · rw [if_neg q] at tk ⊢
    refine ⟨kw_aK z (kw_nx t L a), ?_, kx_frK_1, kw_ctK_a hc, fun s => absurd s (by simp), n2, n1⟩
    simp only [kv_e40_0, kv_e40_1, kv_e40_4, kv_e40_6, kv_e40_9, kv_e40_24, kv_e40_25, kv_o10, not_false_eq_true, not_true, if_true, if_false, kv_then_s, kv_then_v, kv_then_n, List.cons_append, List.nil_append, kv_Ci, kv_Cr, kv_Cn, kv_Cu, kv_C0, kv_catc, kv_gCi, kv_gCl, kv_gCr, kv_nb0, kv_nb1, kv_nbi, kv_nb01, Nat.reduceAdd, Nat.reduceLeDiff, tk, Bool.false_eq_true, eq_self]
theorem kx_law_l {c : Nat → kx_QC} (hC : kx_CLK t L e zl (d + 2) 0 [some (.ref 30), none, none, none] c 0) : ∀ f i a ps z, i + f = 240 → i ≤ a → a ≤ L → kw_ctK t L a z → kx_pr ps z → ps.length ≤ a → ∃ z', kv_Rn (d + 3) 39 20 [some (.ref 30), some (.int 1), some (.int (Int32.ofNat i))] [] (kv_h e z zl) = some (some (.int (if (kx_law c t L f a).1 = true then 1 else 0)), kv_h e z' zl) ∧ kx_frK z z' ∧ kw_ctK t L (kx_law c t L f a).2.1 z' ∧ ((kx_law c t L f a).1 = true → kx_pr (ps ++ kx_pg ps.length (kx_law c t L f a).2.2) z') := by
  intro f
  induction f with
  | zero =>
    intro i a ps z hi hia ha hc hp hl
    have hL := hc.1.2
    have el : L ≤ a := by omega
    have nn : kw_nx t L a = a := kw_nx_0 (fun s => by have := kx_sg_32 s; omega)
    have sg := kw_signK (d := d + 2) (e := e) (zl := zl) (show a ≤ 100000 by omega) hc
    rw [nn, kx_sg_ge el, kw_aK_id hc.2.1] at sg
    refine ⟨z, ?_, kx_frK_rf z, hc, fun _ => by rw [show (kx_law c t L 0 a).2.2 = [] from rfl]; unfold kx_pg; rw [List.append_nil]; exact hp⟩
    rw [show i = 240 from by omega, kv_e39_20]
    simp only [kv_e39_21, kv_e39_24, kv_e39_25, kv_e39_28, kv_e39_56, kv_e39_57, kv_e39_60, kv_e39_63, kv_e39_64, kv_e39_67, kv_e39_68, kv_e39_72, kv_o10, not_false_eq_true, not_true, if_true, if_false, kv_then_s, kv_then_v, kv_then_n, List.cons_append, List.nil_append, kv_Ci, kv_Cr, kv_Cn, kv_Cu, kv_C0, kv_catc, kv_gCi, kv_gCl, kv_gCr, kv_nb0, kv_nb1, kv_nbi, kv_nb01, Nat.reduceAdd, Nat.reduceLeDiff, show ((240 : Int32) ≤ Int32.ofNat 240) = True from by decide, sg]
    rfl
  | succ f ih =>
    intro i a ps z hi hia ha hc hp hl
    have hL := hc.1.2
    obtain ⟨z1, r1, f1, c1, p1, w2, w1⟩ := hC a ps z ha hc hp (by omega)
    have g240 := kx_ge240 (i := i) (by omega)
    unfold kx_law
    by_cases qo : (c a).1 = true
    · rw [if_pos qo]
      have tk := kw_takeK (d := d + 1) (e := e) (zl := zl) 59 (show (c a).2.1 ≤ 100000 by omega) c1
      have m1 := kw_nx_le t L (c a).2.1
      have m2 := kw_nx_L (t := t) w2
      obtain ⟨p1a, p1b⟩ := p1 qo
      by_cases q : kx_sg t L (kw_nx t L (c a).2.1) = 59
      · rw [if_pos q] at tk ⊢
        have hlt := kx_sg_ne (t := t) (L := L) (a := kw_nx t L (c a).2.1) (fun s => absurd (q.symm.trans s) (by decide))
        obtain ⟨z2, r2, f2, c2, p2⟩ := ih (i + 1) (kw_nx t L (c a).2.1 + 1) (ps ++ kx_cg ps.length (c a).2.2) (kw_aK z1 (kw_nx t L (c a).2.1 + 1)) (by omega) (by omega) (by omega) (kw_ctK_a c1) (kx_pr_1 p1a) (by rw [List.length_append]; omega)
        refine ⟨z2, ?_, kx_frK_tr f1 (kx_frK_tr kx_frK_1 f2), c2, fun s => ?_⟩
        · rw [← r2, kv_e39_20]
          simp only [kv_e39_21, kv_e39_24, kv_e39_25, kv_e39_28, kv_e39_31, kv_e39_32, kv_e39_35, kv_e39_40, kv_e39_41, kv_e39_44, kv_e39_46, kv_e39_49, kv_e39_50, kv_e39_53, kv_o10, not_false_eq_true, not_true, if_true, if_false, kv_then_s, kv_then_v, kv_then_n, List.cons_append, List.nil_append, kv_Ci, kv_Cr, kv_Cn, kv_Cu, kv_C0, kv_catc, kv_gCi, kv_gCl, kv_gCr, kv_nb0, kv_nb1, kv_nbi, kv_nb01, Nat.reduceAdd, Nat.reduceLeDiff, g240, r1, qo, tk, kv_suc]
        · have := p2 s
          rw [List.length_append, List.append_assoc] at this
          exact this
      · rw [if_neg q] at tk ⊢
        have c2 := kw_ctK_a (b := kw_nx t L (c a).2.1) c1
        have sg := kw_signK (d := d + 2) (e := e) (zl := zl) (show kw_nx t L (c a).2.1 ≤ 100000 by omega) c2
        rw [kw_nx_nx, kw_aK_aK] at sg
        have road : kv_Rn (d + 3) 39 20 [some (.ref 30), some (.int 1), some (.int (Int32.ofNat i))] [] (kv_h e z zl) = kv_Rn (d + 3) 39 63 [some (.ref 30), some (.int 0), some (.int (Int32.ofNat (i + 1)))] [.int (kx_sg t L (kw_nx t L (c a).2.1))] (kv_h e (kw_aK z1 (kw_nx t L (c a).2.1)) zl) := by
          rw [kv_e39_20]
          simp only [kv_e39_21, kv_e39_24, kv_e39_25, kv_e39_28, kv_e39_31, kv_e39_32, kv_e39_35, kv_e39_40, kv_e39_41, kv_e39_44, kv_e39_46, kv_e39_49, kv_e39_50, kv_e39_53, kv_o10, not_false_eq_true, not_true, if_true, if_false, kv_then_s, kv_then_v, kv_then_n, List.cons_append, List.nil_append, kv_Ci, kv_Cr, kv_Cn, kv_Cu, kv_C0, kv_catc, kv_gCi, kv_gCl, kv_gCr, kv_nb0, kv_nb1, kv_nbi, kv_nb01, Nat.reduceAdd, Nat.reduceLeDiff, g240, r1, qo, tk, kv_suc]
          rw [kv_e39_20]
          simp only [kv_e39_21, kv_e39_56, kv_e39_57, kv_e39_60, kv_o10, not_false_eq_true, not_true, if_true, if_false, kv_then_s, kv_then_v, kv_then_n, List.cons_append, List.nil_append, kv_Ci, kv_Cr, kv_Cn, kv_Cu, kv_C0, kv_catc, kv_gCi, kv_gCl, kv_gCr, kv_nb0, kv_nb1, kv_nbi, kv_nb01, Nat.reduceAdd, Nat.reduceLeDiff, eq_self, sg]
        rw [road]
        by_cases q2 : kx_sg t L (kw_nx t L (c a).2.1) = -1
        · rw [if_pos q2]
          refine ⟨kw_aK z1 (kw_nx t L (c a).2.1), ?_, kx_frK_tr f1 kx_frK_1, c2, fun _ => ?_⟩
          · simp only [kv_e39_63, kv_e39_64, kv_e39_67, kv_e39_68, kv_e39_72, kv_o10, not_false_eq_true, not_true, if_true, if_false, kv_then_s, kv_then_v, kv_then_n, List.cons_append, List.nil_append, kv_Ci, kv_Cr, kv_Cn, kv_Cu, kv_C0, kv_catc, kv_gCi, kv_gCl, kv_gCr, kv_nb0, kv_nb1, kv_nbi, kv_nb01, Nat.reduceAdd, Nat.reduceLeDiff, q2]
          · show kx_pr (ps ++ (kx_cg ps.length (c a).2.2 ++ [])) _
            rw [List.append_nil]
            exact kx_pr_1 p1a
        · rw [if_neg q2]
          refine ⟨kw_aK z1 (kw_nx t L (c a).2.1), ?_, kx_frK_tr f1 kx_frK_1, c2, fun s => absurd s (by simp)⟩
          simp only [kv_e39_63, kv_e39_64, kv_e39_71, kv_e39_72, kv_o10, not_false_eq_true, not_true, if_true, if_false, kv_then_s, kv_then_v, kv_then_n, List.cons_append, List.nil_append, kv_Ci, kv_Cr, kv_Cn, kv_Cu, kv_C0, kv_catc, kv_gCi, kv_gCl, kv_gCr, kv_nb0, kv_nb1, kv_nbi, kv_nb01, Nat.reduceAdd, Nat.reduceLeDiff, q2, Bool.false_eq_true]
    · rw [if_neg qo]
      refine ⟨z1, ?_, f1, c1, fun s => absurd s (by simp)⟩
      rw [kv_e39_20]
      simp only [kv_e39_21, kv_e39_24, kv_e39_25, kv_e39_28, kv_e39_31, kv_e39_32, kv_e39_35, kv_e39_38, kv_e39_39, kv_o10, not_false_eq_true, not_true, if_true, if_false, kv_then_s, kv_then_v, kv_then_n, List.cons_append, List.nil_append, kv_Ci, kv_Cr, kv_Cn, kv_Cu, kv_C0, kv_catc, kv_gCi, kv_gCl, kv_gCr, kv_nb0, kv_nb1, kv_nbi, kv_nb01, Nat.reduceAdd, Nat.reduceLeDiff, g240, r1, qo, Bool.false_eq_true, eq_self]
noncomputable def kx_LW (t : Nat → Int32) (L : Nat) : kx_QL := kx_law (kx_cls t L (kx_S t L 6) (kx_U t L 6)) t L 240 0
theorem kx_readLawK (ht : ∀ i, i < L → kw_rg (t i) 1 255) (hd : 80 ≤ d) (hc : kw_ctK t L a z) : ∃ z', kv_Rn (d + 3) 39 0 [some (.ref 30), none, none] [] (kv_h e z zl) = some (some (.int (if (kx_LW t L).1 = true then 1 else 0)), kv_h e z' zl) ∧ kx_frK z z' ∧ kw_ctK t L (kx_LW t L).2.1 z' ∧ ((kx_LW t L).1 = true → kx_pr (kx_pg 0 (kx_LW t L).2.2) z') := by
  have c0 : kw_ctK t L 0 (kv_z (kw_aK z 0) 31 (upd (z 31) 1 0)) := kx_ct_fr (kw_ctK_a (b := 0) hc) (kv_zne _ _ (by omega)) (kv_zne _ _ (by omega))
  have p0 : kx_pr [] (kv_z (kw_aK z 0) 31 (upd (z 31) 1 0)) := ⟨by rw [kv_zs]; rfl, fun i hi => by cases hi⟩
  obtain ⟨z', r, f, c, p⟩ := kx_law_l (d := d) (kx_clauseK (d := d + 1) (e := e) (zl := zl) ht (by omega)) 240 0 0 [] _ (by omega) (by omega) (by omega) c0 p0 (Nat.zero_le _)
  refine ⟨z', ?_, kx_frK_tr (fun c a1 a2 a3 => (kv_zne _ _ a2).trans (kv_zne _ _ a1)) f, c, p⟩
  unfold kx_LW
  rw [← r]
  have e31 : kw_aK z 0 31 = z 31 := kw_aK_fr _ _ (by omega)
  have e1 : kv_z z 1 (upd (z 1) 2 0) = kw_aK z 0 := rfl
  simp only [kv_e39_0, kv_e39_1, kv_e39_4, kv_e39_5, kv_e39_8, kv_e39_9, kv_e39_12, kv_e39_13, kv_e39_16, kv_e39_17, kv_e39_18, kv_e39_19, kv_o10, not_false_eq_true, not_true, if_true, if_false, kv_then_s, kv_then_v, kv_then_n, List.cons_append, List.nil_append, kv_Ci, kv_Cr, kv_Cn, kv_Cu, kv_C0, kv_catc, kv_gCi, kv_gCl, kv_gCr, kv_nb0, kv_nb1, kv_nbi, kv_nb01, Nat.reduceAdd, Nat.reduceLeDiff, kv_isL31, e1, e31]
  rfl
end
