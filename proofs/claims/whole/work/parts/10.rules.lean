/-! a rule an instruction over kv_Rn; the two worlds' cells -/
theorem kv_nx_of {j pc : Nat} {ls : kv_L} {st : List Value} {h : kv_H} {q : kv_M} {i : Instr} {len : Nat} (hq : kv_Ms[j]? = some q) (hd : decode q.2.2.2.1 pc = .ok (i, len)) : kv_nx j pc ls st h = kv_ex q i len pc ls st h := by
  unfold kv_nx
  rw [hq]
  dsimp only
  rw [hd]
theorem kv_go_of {d j pc : Nat} {ls : kv_L} {st : List Value} {h : kv_H} {q : kv_M} {i : Instr} {len pc' : Nat} {ls' : kv_L} {st' : List Value} {h' : kv_H} (hq : kv_Ms[j]? = some q) (hd : decode q.2.2.2.1 pc = .ok (i, len)) (e : kv_ex q i len pc ls st h = kv_go pc' ls' st' h') : kv_Rn d j pc ls st h = kv_Rn d j pc' ls' st' h' :=
  kv_Rn_go ((kv_nx_of hq hd).trans e)
theorem kv_no_of {d j pc : Nat} {ls : kv_L} {st : List Value} {h : kv_H} {q : kv_M} {i : Instr} {len : Nat} (hq : kv_Ms[j]? = some q) (hd : decode q.2.2.2.1 pc = .ok (i, len)) (e : kv_ex q i len pc ls st h = none) : kv_Rn d j pc ls st h = none :=
  kv_Rn_none ((kv_nx_of hq hd).trans e)
theorem kv_re_of {d j pc : Nat} {ls : kv_L} {st : List Value} {h : kv_H} {q : kv_M} {i : Instr} {len : Nat} {v : Option Value} (hq : kv_Ms[j]? = some q) (hd : decode q.2.2.2.1 pc = .ok (i, len)) (e : kv_ex q i len pc ls st h = some (.inl v)) : kv_Rn d j pc ls st h = some (v, h) :=
  kv_Rn_ret ((kv_nx_of hq hd).trans e)
/-- what follows a call -/
def kv_then (o : Option (Option Value × kv_H)) (k : List Value → kv_H → Option (Option Value × kv_H)) : Option (Option Value × kv_H) := o.bind (fun o => k o.1.toList o.2)
theorem kv_then_s (v : Value) (h : kv_H) (k : List Value → kv_H → Option (Option Value × kv_H)) : kv_then (some (some v, h)) k = k [v] h := rfl
theorem kv_then_v (h : kv_H) (k : List Value → kv_H → Option (Option Value × kv_H)) : kv_then (some (none, h)) k = k [] h := rfl
theorem kv_then_n (k : List Value → kv_H → Option (Option Value × kv_H)) : kv_then none k = none := rfl
theorem kv_then_i {c : Prop} {dc : Decidable c} (a b : Option (Option Value × kv_H)) (k : List Value → kv_H → Option (Option Value × kv_H)) : kv_then (@ite _ c dc a b) k = @ite _ c dc (kv_then a k) (kv_then b k) := by
  cases dc <;> rfl
theorem kv_ca_of {d j pc : Nat} {ls : kv_L} {st : List Value} {h : kv_H} {q : kv_M} {i : Instr} {len : Nat} {j' pc' : Nat} {as rest : List Value} {ls' ls2 : kv_L} (hq : kv_Ms[j]? = some q) (hd : decode q.2.2.2.1 pc = .ok (i, len)) (e : kv_ex q i len pc ls st h = some (.inr (.inr (j', as, pc', ls', rest)))) (hn : kv_en j' as = ls2) :
    kv_Rn (d + 1) j pc ls st h = kv_then (kv_Rn d j' 0 ls2 [] h) (fun r h => kv_Rn (d + 1) j pc' ls' (r ++ rest) h) := by
  rw [← hn]
  exact kv_Rn_call (d := d + 1) (by omega) ((kv_nx_of hq hd).trans e)
theorem kv_if_of {d j pc : Nat} {ls : kv_L} {st : List Value} {h : kv_H} {q : kv_M} {i : Instr} {len : Nat} {c : Prop} {dc : Decidable c} {p1 p2 : Nat} {ls1 ls2 : kv_L} {st1 st2 : List Value} {h1 h2 : kv_H} (hq : kv_Ms[j]? = some q) (hd : decode q.2.2.2.1 pc = .ok (i, len)) (e : kv_ex q i len pc ls st h = @ite _ c dc (kv_go p1 ls1 st1 h1) (kv_go p2 ls2 st2 h2)) :
    kv_Rn d j pc ls st h = @ite _ c dc (kv_Rn d j p1 ls1 st1 h1) (kv_Rn d j p2 ls2 st2 h2) := by
  cases dc with
  | isTrue hc => exact kv_go_of hq hd e
  | isFalse hc => exact kv_go_of hq hd e
theorem kv_in_of {d j pc : Nat} {ls : kv_L} {st : List Value} {h : kv_H} {q : kv_M} {i : Instr} {len : Nat} {c : Prop} {dc : Decidable c} {p2 : Nat} {ls2 : kv_L} {st2 : List Value} {h2 : kv_H} (hq : kv_Ms[j]? = some q) (hd : decode q.2.2.2.1 pc = .ok (i, len)) (e : kv_ex q i len pc ls st h = @ite _ c dc none (kv_go p2 ls2 st2 h2)) :
    kv_Rn d j pc ls st h = @ite _ c dc none (kv_Rn d j p2 ls2 st2 h2) := by
  cases dc with
  | isTrue hc => exact kv_no_of hq hd e
  | isFalse hc => exact kv_go_of hq hd e
theorem kv_ic_of {d j pc : Nat} {ls : kv_L} {st : List Value} {h : kv_H} {q : kv_M} {i : Instr} {len : Nat} {c : Prop} {dc : Decidable c} {p2 : Nat} {ls2 : kv_L} {st2 : List Value} {h2 : kv_H} (hq : kv_Ms[j]? = some q) (hd : decode q.2.2.2.1 pc = .ok (i, len)) (e : kv_ex q i len pc ls st h = @ite _ c dc (kv_go p2 ls2 st2 h2) none) :
    kv_Rn d j pc ls st h = @ite _ c dc (kv_Rn d j p2 ls2 st2 h2) none := by
  cases dc with
  | isTrue hc => exact kv_go_of hq hd e
  | isFalse hc => exact kv_no_of hq hd e
theorem kv_tg_of {pc t : Nat} {off : Int} {k : Nat → Option kv_X} (ht : (pc : Int) + off = (t : Int)) : kv_tg pc off k = k t := by
  unfold kv_tg
  rw [ht, if_pos (by omega), Int.toNat_natCast]
def kv_mx (x y : Int32) : Int32 := if x < y then y else x
def kv_mn (x y : Int32) : Int32 := if y < x then y else x
def kv_ab (x : Int32) : Int32 := if 0 ≤ x then x else 0 - x
def kv_lmx (x y : Int64) : Int64 := if y < x then x else y
def kv_lmn (x y : Int64) : Int64 := if y < x then y else x
def kv_sr (x y : Int32) : Int32 := (x.toUInt32 >>> (y.toUInt32 &&& Int32.toUInt32 31)).toInt32
def kv_nb (v : Int32) : Prop := narrow .boolean (.int v) = .int v
theorem kv_nb0 : kv_nb 0 := by unfold kv_nb; decide
theorem kv_nb1 : kv_nb 1 := by unfold kv_nb; decide
theorem kv_nbi {c : Prop} {dc : Decidable c} : kv_nb (@ite _ c dc 1 0) := by cases dc <;> first | exact kv_nb0 | exact kv_nb1
theorem kv_c2i (x : Int32) : kv_c2 (some (.int x)) = false := rfl
theorem kv_c2r (x : Nat) : kv_c2 (some (.ref x)) = false := rfl
theorem kv_c2n : kv_c2 none = false := rfl
theorem kv_c2u : kv_c2 (some .null) = false := rfl
theorem kv_cat0 : kv_cat [] = 0 := rfl
theorem kv_catc (v : Value) (r : List Value) : kv_cat (v :: r) = v.category + kv_cat r := by simp [kv_cat]
theorem kv_cgi (x : Int32) : (Value.int x).category = 1 := rfl
theorem kv_cgl (x : Int64) : (Value.long x).category = 2 := rfl
theorem kv_cgr (x : Nat) : (Value.ref x).category = 1 := rfl
/-- a row's length, and its cell -/
def kv_aw (sh : List kv_E) (a : Nat) : Nat := if a < 300 then (match sh[a]? with
  | some (.inl n) => n
  | _ => 0) else 0
def kv_ar (sh : List kv_E) (a : Nat) : Nat := if a < 300 then kv_aw sh a else if a < 306 then (kv_SA.getD (a - 300) []).length else 0
def kv_rd (z : Nat → Nat → Int32) (a n : Nat) : Int32 := if a < 300 then z a n else (kv_SA.getD (a - 300) []).getD n 0
def kv_ia (sh : List kv_E) (a : Nat) : Prop := a < 300 ∧ ∃ n, sh[a]? = some (Sum.inl n)
theorem kv_rd_lt {z : Nat → Nat → Int32} {a n : Nat} (h : a < 300) : kv_rd z a n = z a n := if_pos h
theorem kv_ar_lt {sh : List kv_E} {a : Nat} (h : a < 300) : kv_ar sh a = kv_aw sh a := if_pos h
/-- the class's cells: those that the constructor made, and what came behind them -/
def kv_h (e : List kv_E) (z : Nat → Nat → Int32) (zl : Nat → Nat → Int64) : kv_H := (kv_shK ++ e, z, zl)
def kv_m (z : Nat → Nat → Int32) (zl : Nat → Nat → Int64) : kv_H := (kv_shM, z, zl)
theorem kv_k_get (e : List kv_E) {i : Nat} {x : kv_E} (h : kv_shK[i]? = some x) : (kv_shK ++ e)[i]? = some x := by
  obtain ⟨hi, -⟩ := List.getElem?_eq_some_iff.mp h
  rw [List.getElem?_append_left hi]
  exact h
theorem kv_k_len : kv_shK.length = 172 := by decide +kernel
def kv_isS (e : List kv_E) (a : Nat) : Prop := ((kv_shK ++ e)[a]? = some (.inr (.inr (9, [some (some (a + 1)), some (some (a + 2)), none, none, none]))) ∧ (kv_shK ++ e)[a + 1]? = some (.inl 104) ∧ (kv_shK ++ e)[a + 2]? = some (.inl 40)) ∧ a + 2 < 300
def kv_isF (e : List kv_E) (a : Nat) : Prop := ((kv_shK ++ e)[a]? = some (.inr (.inr (2, [none, none, none, none, none, none, some (some (a + 1)), some (some (a + 2)), some (some (a + 3))]))) ∧ (kv_shK ++ e)[a + 1]? = some (.inl 6) ∧ (kv_shK ++ e)[a + 2]? = some (.inl 6) ∧ (kv_shK ++ e)[a + 3]? = some (.inl 6)) ∧ a + 3 < 300
def kv_isL (e : List kv_E) (a : Nat) : Prop := ((kv_shK ++ e)[a]? = some (.inr (.inr (5, [some (some (a + 1)), none]))) ∧ (kv_shK ++ e)[a + 1]? = some (.inl 256)) ∧ a + 1 < 300
def kv_isD (e : List kv_E) (a : Nat) : Prop := (kv_shK ++ e)[a]? = some (.inr (.inr (1, [none]))) ∧ a < 300
theorem kv_aw_of {sh : List kv_E} {a n : Nat} (h : sh[a]? = some (Sum.inl n)) (ha : a < 300) : kv_aw sh a = n := by
  unfold kv_aw
  rw [if_pos ha, h]
theorem kv_aw_k (e : List kv_E) {a n : Nat} (h : kv_shK[a]? = some (Sum.inl n)) (ha : a < 300) : kv_aw (kv_shK ++ e) a = n := kv_aw_of (kv_k_get e h) ha
theorem kv_isS_aw {e : List kv_E} {a : Nat} (h : kv_isS e a) : kv_aw (kv_shK ++ e) (a + 1) = 104 ∧ kv_aw (kv_shK ++ e) (a + 2) = 40 := ⟨kv_aw_of h.1.2.1 (by have := h.2; omega), kv_aw_of h.1.2.2 h.2⟩
theorem kv_isF_aw {e : List kv_E} {a : Nat} (h : kv_isF e a) : kv_aw (kv_shK ++ e) (a + 1) = 6 ∧ kv_aw (kv_shK ++ e) (a + 2) = 6 ∧ kv_aw (kv_shK ++ e) (a + 3) = 6 := ⟨kv_aw_of h.1.2.1 (by have := h.2; omega), kv_aw_of h.1.2.2.1 (by have := h.2; omega), kv_aw_of h.1.2.2.2 h.2⟩
theorem kv_isL_aw {e : List kv_E} {a : Nat} (h : kv_isL e a) : kv_aw (kv_shK ++ e) (a + 1) = 256 := kv_aw_of h.1.2 h.2
theorem kv_gi {d j pc : Nat} {ls : kv_L} {r : List Value} {sh : List kv_E} {z : Nat → Nat → Int32} {zl : Nat → Nat → Int64} {q : kv_M} {idx a k ci ne : Nat} {fl : List (Option (Option Nat))} (hq : kv_Ms[j]? = some q) (hd : decode q.2.2.2.1 pc = .ok (.getfield idx, 3)) (hl : kv_lk kv_LF q.1 idx = some (ci, k, ne)) (ha : a < 300) (hs : sh[a]? = some (.inr (.inr (ci, fl)))) (hf : fl[k]? = some none) (ht : decide (kv_Ty ci k = .long) = false) :
    kv_Rn d j pc ls (.ref a :: r) (sh, z, zl) = kv_Rn d j (pc + 3) ls (.int (z a k) :: r) (sh, z, zl) := by
  refine kv_go_of hq hd ?_
  show kv_gf q.1 idx pc ls (sh, z, zl) a r = _
  unfold kv_gf
  rw [if_pos ha, hl]
  dsimp only
  rw [hs]
  dsimp only
  rw [if_pos rfl, hf]
  dsimp only
  rw [if_neg (of_decide_eq_false ht)]
theorem kv_gl {d j pc : Nat} {ls : kv_L} {r : List Value} {sh : List kv_E} {z : Nat → Nat → Int32} {zl : Nat → Nat → Int64} {q : kv_M} {idx a k ci ne : Nat} {fl : List (Option (Option Nat))} (hq : kv_Ms[j]? = some q) (hd : decode q.2.2.2.1 pc = .ok (.getfield idx, 3)) (hl : kv_lk kv_LF q.1 idx = some (ci, k, ne)) (ha : a < 300) (hs : sh[a]? = some (.inr (.inr (ci, fl)))) (hf : fl[k]? = some none) (ht : decide (kv_Ty ci k = .long) = true) :
    kv_Rn d j pc ls (.ref a :: r) (sh, z, zl) = kv_Rn d j (pc + 3) ls (.long (zl a k) :: r) (sh, z, zl) := by
  refine kv_go_of hq hd ?_
  show kv_gf q.1 idx pc ls (sh, z, zl) a r = _
  unfold kv_gf
  rw [if_pos ha, hl]
  dsimp only
  rw [hs]
  dsimp only
  rw [if_pos rfl, hf]
  dsimp only
  rw [if_pos (of_decide_eq_true ht)]
theorem kv_gr {d j pc : Nat} {ls : kv_L} {r : List Value} {sh : List kv_E} {z : Nat → Nat → Int32} {zl : Nat → Nat → Int64} {q : kv_M} {idx a b k ci ne : Nat} {fl : List (Option (Option Nat))} (hq : kv_Ms[j]? = some q) (hd : decode q.2.2.2.1 pc = .ok (.getfield idx, 3)) (hl : kv_lk kv_LF q.1 idx = some (ci, k, ne)) (ha : a < 300) (hs : sh[a]? = some (.inr (.inr (ci, fl)))) (hf : fl[k]? = some (some (some b))) :
    kv_Rn d j pc ls (.ref a :: r) (sh, z, zl) = kv_Rn d j (pc + 3) ls (.ref b :: r) (sh, z, zl) := by
  refine kv_go_of hq hd ?_
  show kv_gf q.1 idx pc ls (sh, z, zl) a r = _
  unfold kv_gf
  rw [if_pos ha, hl]
  dsimp only
  rw [hs]
  dsimp only
  rw [if_pos rfl, hf]
  rfl
theorem kv_pi {d j pc : Nat} {ls : kv_L} {r : List Value} {sh : List kv_E} {z : Nat → Nat → Int32} {zl : Nat → Nat → Int64} {q : kv_M} {idx a k ci ne : Nat} {x : Int32} {fl : List (Option (Option Nat))} (hq : kv_Ms[j]? = some q) (hd : decode q.2.2.2.1 pc = .ok (.putfield idx, 3)) (hl : kv_lk kv_LF q.1 idx = some (ci, k, ne)) (ha : a < 300) (hs : sh[a]? = some (.inr (.inr (ci, fl)))) (hf : fl[k]? = some none) (ht : narrow (kv_Ty ci k) (.int x) = .int x ∧ fits (kv_Ty ci k) (.int x) = true ∧ kv_Ty ci k ≠ .long ∧ (kv_T ci k).2.2.2 = false) :
    kv_Rn d j pc ls (.int x :: .ref a :: r) (sh, z, zl) = kv_Rn d j (pc + 3) ls r (sh, kv_z z a (upd (z a) k x), zl) := by
  refine kv_go_of hq hd ?_
  show kv_pf q.1 q.2.1 idx pc ls (.int x :: .ref a :: r) (sh, z, zl) = _
  unfold kv_pf
  dsimp only
  rw [if_pos ha, hl]
  dsimp only
  rw [hs]
  dsimp only
  rw [if_pos rfl, hf]
  dsimp only
  rw [if_pos ht]
theorem kv_pl {d j pc : Nat} {ls : kv_L} {r : List Value} {sh : List kv_E} {z : Nat → Nat → Int32} {zl : Nat → Nat → Int64} {q : kv_M} {idx a k ci ne : Nat} {x : Int64} {fl : List (Option (Option Nat))} (hq : kv_Ms[j]? = some q) (hd : decode q.2.2.2.1 pc = .ok (.putfield idx, 3)) (hl : kv_lk kv_LF q.1 idx = some (ci, k, ne)) (ha : a < 300) (hs : sh[a]? = some (.inr (.inr (ci, fl)))) (hf : fl[k]? = some none) (ht : kv_Ty ci k = .long ∧ (kv_T ci k).2.2.2 = false) :
    kv_Rn d j pc ls (.long x :: .ref a :: r) (sh, z, zl) = kv_Rn d j (pc + 3) ls r (sh, z, kv_z zl a (vp_updL (zl a) k x)) := by
  refine kv_go_of hq hd ?_
  show kv_pf q.1 q.2.1 idx pc ls (.long x :: .ref a :: r) (sh, z, zl) = _
  unfold kv_pf
  dsimp only
  rw [if_pos ha, hl]
  dsimp only
  rw [hs]
  dsimp only
  rw [if_pos rfl, hf]
  dsimp only
  rw [if_pos ht]
theorem kv_al {d j pc : Nat} {ls : kv_L} {r : List Value} {sh : List kv_E} {z : Nat → Nat → Int32} {zl : Nat → Nat → Int64} {q : kv_M} {a : Nat} {i : Int32} (hq : kv_Ms[j]? = some q) (hd : decode q.2.2.2.1 pc = .ok (.iaload, 1)) :
    kv_Rn d j pc ls (.int i :: .ref a :: r) (sh, z, zl) = if i < 0 ∨ kv_ar sh a ≤ i.toNatClampNeg then none else kv_Rn d j (pc + 1) ls (.int (kv_rd z a i.toNatClampNeg) :: r) (sh, z, zl) := by
  refine kv_in_of hq hd ?_
  show (if a < 300 then (match sh[a]? with
      | some (.inl n) => if i < 0 ∨ n ≤ i.toNatClampNeg then none else kv_go (pc + 1) ls (.int (z a i.toNatClampNeg) :: r) (sh, z, zl)
      | _ => none) else if a < 306 then kv_ald kv_SA 300 pc ls (sh, z, zl) a i r else none) = _
  by_cases ha : a < 300
  · rw [if_pos ha, kv_ar_lt ha, kv_rd_lt ha]
    unfold kv_aw
    rw [if_pos ha]
    split
    · rfl
    · exact (if_pos (Or.inr (Nat.zero_le _))).symm
  · rw [if_neg ha]
    unfold kv_ar kv_rd
    rw [if_neg ha, if_neg ha]
    by_cases hb : a < 306
    · rw [if_pos hb, if_pos hb]
      unfold kv_ald
      have h6 : a - 300 < kv_SA.length := by show a - 300 < 6; omega
      rw [List.getElem?_eq_getElem h6, List.getD_eq_getElem?_getD, List.getElem?_eq_getElem h6]
      rfl
    · rw [if_neg hb, if_neg hb]
      exact (if_pos (Or.inr (Nat.zero_le _))).symm
theorem kv_as {d j pc : Nat} {ls : kv_L} {r : List Value} {sh : List kv_E} {z : Nat → Nat → Int32} {zl : Nat → Nat → Int64} {q : kv_M} {a : Nat} {i v : Int32} (hq : kv_Ms[j]? = some q) (hd : decode q.2.2.2.1 pc = .ok (.iastore, 1)) :
    kv_Rn d j pc ls (.int v :: .int i :: .ref a :: r) (sh, z, zl) = if i < 0 ∨ kv_aw sh a ≤ i.toNatClampNeg then none else kv_Rn d j (pc + 1) ls r (sh, kv_z z a (upd (z a) i.toNatClampNeg v), zl) := by
  refine kv_in_of hq hd ?_
  show (if a < 300 then (match sh[a]? with
      | some (.inl n) => if i < 0 ∨ n ≤ i.toNatClampNeg then none else kv_go (pc + 1) ls r (sh, kv_z z a (upd (z a) i.toNatClampNeg v), zl)
      | _ => none) else none) = _
  unfold kv_aw
  by_cases ha : a < 300
  · rw [if_pos ha, if_pos ha]
    split
    · rfl
    · exact (if_pos (Or.inr (Nat.zero_le _))).symm
  · rw [if_neg ha, if_neg ha]
    exact (if_pos (Or.inr (Nat.zero_le _))).symm
theorem kv_an {d j pc : Nat} {ls : kv_L} {r : List Value} {sh : List kv_E} {z : Nat → Nat → Int32} {zl : Nat → Nat → Int64} {q : kv_M} {a : Nat} (hq : kv_Ms[j]? = some q) (hd : decode q.2.2.2.1 pc = .ok (.arraylength, 1)) (ha : kv_ia sh a ∨ (300 ≤ a ∧ a < 306)) :
    kv_Rn d j pc ls (.ref a :: r) (sh, z, zl) = kv_Rn d j (pc + 1) ls (.int (Int32.ofNat (kv_ar sh a)) :: r) (sh, z, zl) := by
  refine kv_go_of hq hd ?_
  show kv_len pc ls (sh, z, zl) a r = _
  unfold kv_len
  rcases ha with ⟨ha, n, hn⟩ | ⟨h0, h6⟩
  · rw [if_pos ha, kv_ar_lt ha, kv_aw_of hn ha, hn]
  · have ha : ¬ a < 300 := by omega
    have h7 : a - 300 < kv_SA.length := by show a - 300 < 6; omega
    unfold kv_ar
    rw [if_neg ha, if_neg ha, if_pos h6, if_pos h6, List.getElem?_eq_getElem h7, List.getD_eq_getElem?_getD, List.getElem?_eq_getElem h7]
    rfl
theorem kv_anq {d j pc : Nat} {ls : kv_L} {r : List Value} {sh : List kv_E} {z : Nat → Nat → Int32} {zl : Nat → Nat → Int64} {q : kv_M} {a t n : Nat} {l : List (Option Nat)} (hq : kv_Ms[j]? = some q) (hd : decode q.2.2.2.1 pc = .ok (.arraylength, 1)) (ha : a < 300) (hs : sh[a]? = some (.inr (.inl (t, l)))) (hn : l.length = n) :
    kv_Rn d j pc ls (.ref a :: r) (sh, z, zl) = kv_Rn d j (pc + 1) ls (.int (Int32.ofNat n) :: r) (sh, z, zl) := by
  subst hn
  refine kv_go_of hq hd ?_
  show kv_len pc ls (sh, z, zl) a r = _
  unfold kv_len
  rw [if_pos ha, hs]
theorem kv_aq {d j pc : Nat} {ls : kv_L} {r : List Value} {sh : List kv_E} {z : Nat → Nat → Int32} {zl : Nat → Nat → Int64} {q : kv_M} {a t n : Nat} {i : Int32} {f : Nat → Nat} (hq : kv_Ms[j]? = some q) (hd : decode q.2.2.2.1 pc = .ok (.aaload, 1)) (ha : a < 300) (hs : sh[a]? = some (.inr (.inl (t, (List.range n).map (fun i => some (f i)))))) :
    kv_Rn d j pc ls (.int i :: .ref a :: r) (sh, z, zl) = if i < 0 ∨ n ≤ i.toNatClampNeg then none else kv_Rn d j (pc + 1) ls (.ref (f i.toNatClampNeg) :: r) (sh, z, zl) := by
  refine kv_in_of hq hd ?_
  show (if a < 300 then (match sh[a]? with
      | some (.inr (.inl (_, l))) => if i < 0 ∨ l.length ≤ i.toNatClampNeg then none else kv_go (pc + 1) ls (va_rf (l.getD i.toNatClampNeg none) :: r) (sh, z, zl)
      | _ => none) else none) = _
  rw [if_pos ha, hs]
  dsimp only
  rw [List.length_map, List.length_range]
  by_cases hc : i < 0 ∨ n ≤ i.toNatClampNeg
  · rw [if_pos hc, if_pos hc]
  · rw [if_neg hc, if_neg hc]
    have h9 : i.toNatClampNeg < n := by
      rcases Nat.lt_or_ge i.toNatClampNeg n with h | h
      · exact h
      · exact absurd (Or.inr h) hc
    simp [List.getD_eq_getElem?_getD, List.getElem?_map, List.getElem?_range, h9, va_rf]
theorem kv_cp {d j pc : Nat} {ls : kv_L} {r : List Value} {sh : List kv_E} {z : Nat → Nat → Int32} {zl : Nat → Nat → Int64} {q : kv_M} {a b idx : Nat} {n dp sp : Int32} (hq : kv_Ms[j]? = some q) (hd : decode q.2.2.2.1 pc = .ok (.invokestatic idx, 3)) (hl : kv_lk2 kv_LK q.1 idx = true) (ha : kv_ia sh a) (hb : kv_ia sh b)
    (hc : (¬ sp < 0 ∧ ¬ dp < 0 ∧ ¬ n < 0) ∧ sp.toNatClampNeg + n.toNatClampNeg ≤ kv_aw sh a ∧ dp.toNatClampNeg + n.toNatClampNeg ≤ kv_aw sh b ∧ kv_cat r ≤ 8) :
    kv_Rn d j pc ls (.int n :: .int dp :: .ref b :: .int sp :: .ref a :: r) (sh, z, zl) = kv_Rn d j (pc + 3) ls r (sh, kv_z z b (va_cpy (z a) (z b) sp.toNatClampNeg dp.toNatClampNeg n.toNatClampNeg), zl) := by
  refine kv_go_of hq hd ?_
  show kv_sta q.1 idx pc ls _ (sh, z, zl) = _
  unfold kv_sta
  rw [if_pos hl]
  obtain ⟨ha1, na, ha2⟩ := ha
  obtain ⟨hb1, nb, hb2⟩ := hb
  rw [kv_aw_of ha2 ha1, kv_aw_of hb2 hb1] at hc
  unfold kv_copy
  dsimp only
  rw [if_pos ⟨ha1, hb1⟩, ha2, hb2]
  dsimp only
  rw [if_pos hc]
theorem kv_xm {d j pc : Nat} {ls : kv_L} {st r : List Value} {h : kv_H} {q : kv_M} {idx w : Nat} {v : Value} (hq : kv_Ms[j]? = some q) (hd : decode q.2.2.2.1 pc = .ok (.invokestatic idx, 3)) (hl : kv_lk2 kv_LK q.1 idx = false) (hx : kv_lk kv_LX q.1 idx = some w) (e : kv_math w pc ls st h = if kv_cat r ≤ 8 then kv_go (pc + 3) ls (v :: r) h else none) (hc : kv_cat r ≤ 8) :
    kv_Rn d j pc ls st h = kv_Rn d j (pc + 3) ls (v :: r) h := by
  refine kv_go_of hq hd ?_
  show kv_sta q.1 idx pc ls _ h = _
  unfold kv_sta
  rw [if_neg (by rw [hl]; decide), hx]
  dsimp only
  rw [e, if_pos hc]
/-- a call's own conditions -/
theorem kv_call_ok {j pc n : Nat} {sh : List kv_E} {ls : kv_L} {st as rest : List Value} {dyn : Bool} {q : kv_M} (hj : kv_Ms[j]? = some q) (h1 : n ≤ st.length) (h2 : (st.take n).reverse = as) (h3 : st.drop n = rest) (h4 : kv_cat rest ≤ 8) (h5 : (kv_lv as).length ≤ q.2.2.2.2.1) (h6 : q.2.2.2.2.2.2.2 = !dyn) (h7 : if dyn then n = q.2.2.2.2.2.2.1 + 1 else n = q.2.2.2.2.2.2.1) (h8 : dyn = true → (match (generalizing := false) as with
      | .ref b :: _ => kv_is sh b q.1
      | _ => false) = true) : kv_call j pc n sh ls st dyn = some (.inr (.inr (j, as, pc + 3, ls, rest))) := by
  subst h2 h3
  unfold kv_call
  rw [hj]
  dsimp only
  rw [if_pos ⟨h1, h4, h5, h6, h7, h8⟩]
theorem kv_cs {d j pc : Nat} {ls ls2 : kv_L} {st as rest : List Value} {h : kv_H} {q q' : kv_M} {idx j' x n : Nat} (hq : kv_Ms[j]? = some q) (hd : decode q.2.2.2.1 pc = .ok (.invokestatic idx, 3)) (hl : (kv_lk2 kv_LK q.1 idx = false ∧ kv_lk kv_LX q.1 idx = none) ∧ kv_lk kv_LM q.1 idx = some (j', 0, x)) (hj : kv_Ms[j']? = some q') (hn : q'.2.2.2.2.2.2.1 = n) (h1 : n ≤ st.length) (h2 : (st.take n).reverse = as) (h3 : st.drop n = rest) (h5 : (kv_lv as).length ≤ q'.2.2.2.2.1) (h6 : q'.2.2.2.2.2.2.2 = true) (hen : kv_pad as q'.2.2.2.2.1 = ls2) (h4 : kv_cat rest ≤ 8) :
    kv_Rn (d + 1) j pc ls st h = kv_then (kv_Rn d j' 0 ls2 [] h) (fun r h => kv_Rn (d + 1) j (pc + 3) ls (r ++ rest) h) := by
  have hg : kv_Ms.getD j' kv_dM = q' := by rw [List.getD_eq_getElem?_getD, hj]; rfl
  refine kv_ca_of hq hd (as := as) ?_ (by unfold kv_en; rw [hg]; exact hen)
  show kv_sta q.1 idx pc ls st h = _
  unfold kv_sta
  rw [if_neg (by rw [hl.1.1]; decide), hl.1.2]
  try dsimp only
  rw [hl.2]
  show kv_call j' pc (kv_Ms.getD j' kv_dM).2.2.2.2.2.2.1 h.1 ls st false = _
  rw [hg, hn]
  exact kv_call_ok hj h1 h2 h3 h4 h5 h6 (by simpa using hn.symm) (fun e => by cases e)
theorem kv_cv {d j pc : Nat} {ls ls2 : kv_L} {st as rest : List Value} {h : kv_H} {q q' : kv_M} {idx j' x n b : Nat} (hq : kv_Ms[j]? = some q) (hd : decode q.2.2.2.1 pc = .ok (.invokevirtual idx, 3)) (hl : kv_lk kv_LM q.1 idx = some (j', 1, x)) (hj : kv_Ms[j']? = some q') (hn : q'.2.2.2.2.2.2.1 + 1 = n) (h1 : n ≤ st.length) (h2 : (st.take n).reverse = .ref b :: as) (h3 : st.drop n = rest) (h5 : (kv_lv (.ref b :: as)).length ≤ q'.2.2.2.2.1) (h6 : q'.2.2.2.2.2.2.2 = false) (hen : kv_pad (.ref b :: as) q'.2.2.2.2.1 = ls2) (h4 : kv_cat rest ≤ 8) (h8 : kv_is h.1 b q'.1 = true) :
    kv_Rn (d + 1) j pc ls st h = kv_then (kv_Rn d j' 0 ls2 [] h) (fun r h => kv_Rn (d + 1) j (pc + 3) ls (r ++ rest) h) := by
  have hg : kv_Ms.getD j' kv_dM = q' := by rw [List.getD_eq_getElem?_getD, hj]; rfl
  refine kv_ca_of hq hd (as := .ref b :: as) ?_ (by unfold kv_en; rw [hg]; exact hen)
  show kv_vir q.1 idx pc ls st h = _
  unfold kv_vir
  rw [hl]
  show kv_call j' pc ((kv_Ms.getD j' kv_dM).2.2.2.2.2.2.1 + 1) h.1 ls st true = _
  rw [hg, hn]
  exact kv_call_ok hj h1 h2 h3 h4 h5 h6 (by simpa using hn.symm) (fun _ => h8)
theorem kv_cp_ {d j pc : Nat} {ls ls2 : kv_L} {st as rest : List Value} {h : kv_H} {q q' : kv_M} {idx j' x n b : Nat} (hq : kv_Ms[j]? = some q) (hd : decode q.2.2.2.1 pc = .ok (.invokespecial idx, 3)) (ho : kv_lk2 kv_LO q.1 idx = false) (hl : kv_lk kv_LM q.1 idx = some (j', 2, x)) (hj : kv_Ms[j']? = some q') (hn : q'.2.2.2.2.2.2.1 + 1 = n) (h1 : n ≤ st.length) (h2 : (st.take n).reverse = .ref b :: as) (h3 : st.drop n = rest) (h5 : (kv_lv (.ref b :: as)).length ≤ q'.2.2.2.2.1) (h6 : q'.2.2.2.2.2.2.2 = false) (hen : kv_pad (.ref b :: as) q'.2.2.2.2.1 = ls2) (h4 : kv_cat rest ≤ 8) (h8 : kv_is h.1 b q'.1 = true) :
    kv_Rn (d + 1) j pc ls st h = kv_then (kv_Rn d j' 0 ls2 [] h) (fun r h => kv_Rn (d + 1) j (pc + 3) ls (r ++ rest) h) := by
  have hg : kv_Ms.getD j' kv_dM = q' := by rw [List.getD_eq_getElem?_getD, hj]; rfl
  refine kv_ca_of hq hd (as := .ref b :: as) ?_ (by unfold kv_en; rw [hg]; exact hen)
  show kv_spe q.1 idx pc ls st h = _
  unfold kv_spe
  rw [if_neg (by rw [ho]; decide), hl]
  show kv_call j' pc ((kv_Ms.getD j' kv_dM).2.2.2.2.2.2.1 + 1) h.1 ls st true = _
  rw [hg, hn]
  exact kv_call_ok hj h1 h2 h3 h4 h5 h6 (by simpa using hn.symm) (fun _ => h8)
theorem kv_is_of {sh : List kv_E} {b c : Nat} {fl : List (Option (Option Nat))} (h : sh[b]? = some (.inr (.inr (c, fl)))) (hb : b < 300) : kv_is sh b c = true := by
  unfold kv_is
  rw [if_pos hb, h]
  exact beq_self_eq_true c
