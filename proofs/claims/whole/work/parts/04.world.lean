/-! where the numbered cells lie in the machine's heap -/
abbrev kv_K : Type := ClassId × ClassId × ClassId
def kv_vr (ad : Nat → Nat) (v : Value) : Value := match v with
  | .ref a => .ref (ad a)
  | v => v
def kv_tys (k : kv_K) : List (ClassId × FieldType) := [(k.1, .int), (k.2.1, .object "KiteVote$State"), (k.2.2, .object "KiteVote$Law")]
def kv_kc (k : kv_K) (t : Nat) : ClassId := if t = 9 then k.2.1 else k.2.2
def kv_fv (ad : Nat → Nat) (h : kv_H) (a ci : Nat) (fl : List (Option (Option Nat))) (j : Nat) : Value := match fl.getD j none with
  | none => if kv_Ty ci j = .long then .long (h.2.2 a j) else .int (h.2.1 a j)
  | some o => va_rf (o.map ad)
def kv_c (ad : Nat → Nat) (k : kv_K) (h : kv_H) (a : Nat) (e : kv_E) : va_E := match e with
  | .inl n => .inl (k.1, n, .inl (h.2.1 a))
  | .inr (.inl (t, l)) => .inl (kv_kc k t, l.length, .inr (.inr (.inr (.inr (fun j => (l.getD j none).map ad)))))
  | .inr (.inr (ci, fl)) => .inr (ci, (List.range fl.length).map (kv_fv ad h a ci fl))
def kv_w (ad : Nat → Nat) (k : kv_K) (h : kv_H) : va_W := (List.range h.1.length).map (fun a => (ad a, kv_c ad k h a (h.1.getD a (.inl 0))))
def kv_ok (h : kv_H) : Prop := (∀ a, h.1.length ≤ a → (∀ i, h.2.1 a i = 0) ∧ (∀ i, h.2.2 a i = 0)) ∧ (∀ (a t : Nat) (l : List (Option Nat)), h.1[a]? = some (Sum.inr (Sum.inl (t, l))) → (t = 9 ∨ t = 5)) ∧ (∀ (a ci : Nat) (fl : List (Option (Option Nat))), h.1[a]? = some (Sum.inr (Sum.inr (ci, fl))) → ci < 13 ∧ fl.length = kv_N ci)
def kv_W (ad : Nat → Nat) (A : Nat → Prop) (D : va_G) (k : kv_K) (h : kv_H) (H : Heap) : Prop := va_P D kv_cl (kv_w ad k h) H ∧ va_D A (kv_w ad k h) ∧ H.size = ad h.1.length ∧ kv_ok h
theorem kv_w_len (ad : Nat → Nat) (k : kv_K) (h : kv_H) : (kv_w ad k h).length = h.1.length := by simp [kv_w]
theorem kv_w_get {ad : Nat → Nat} {k : kv_K} {h : kv_H} {a : Nat} {e : kv_E} (he : h.1[a]? = some e) : (kv_w ad k h)[a]? = some (ad a, kv_c ad k h a e) := by
  have hlt : a < h.1.length := (List.getElem?_eq_some_iff.mp he).1
  unfold kv_w
  rw [List.getElem?_map, List.getElem?_range hlt]
  simp [List.getD_eq_getElem?_getD, he]
theorem kv_w_none {ad : Nat → Nat} {k : kv_K} {h : kv_H} {a : Nat} (hl : h.1.length ≤ a) : (kv_w ad k h)[a]? = none := by
  rw [List.getElem?_eq_none]
  rw [kv_w_len]; exact hl
/-- one cell changes, the others hold what they held -/
theorem kv_w_set {ad : Nat → Nat} {k : kv_K} {h h' : kv_H} {a : Nat} {e' : kv_E} (hl : h'.1.length = h.1.length) (ha : h'.1[a]? = some e') (hs : ∀ b e, b ≠ a → h.1[b]? = some e → h'.1[b]? = some e ∧ kv_c ad k h' b e = kv_c ad k h b e) :
    (kv_w ad k h).set a (ad a, kv_c ad k h' a e') = kv_w ad k h' := by
  apply List.ext_getElem?
  intro b
  rw [List.getElem?_set]
  by_cases hb : a = b
  · subst hb
    have hlt : a < h'.1.length := (List.getElem?_eq_some_iff.mp ha).1
    rw [if_pos rfl, if_pos (by rw [kv_w_len, ← hl]; exact hlt), kv_w_get ha]
  · rw [if_neg hb]
    by_cases hlt : b < h.1.length
    · obtain ⟨h1, h2⟩ := hs b _ (Ne.symm hb) (List.getElem?_eq_getElem hlt)
      rw [kv_w_get (List.getElem?_eq_getElem hlt), kv_w_get h1, h2]
    · rw [kv_w_none (by omega), kv_w_none (by omega)]
theorem kv_w_push {ad : Nat → Nat} {k : kv_K} {h : kv_H} (e : kv_E) : kv_w ad k (h.1 ++ [e], h.2) = kv_w ad k h ++ [(ad h.1.length, kv_c ad k h h.1.length e)] := by
  apply List.ext_getElem?
  intro b
  rcases Nat.lt_trichotomy b h.1.length with hb | hb | hb
  · rw [List.getElem?_append_left (by rw [kv_w_len]; exact hb), kv_w_get (List.getElem?_eq_getElem hb)]
    exact kv_w_get (h := (h.1 ++ [e], h.2)) (by show (h.1 ++ [e])[b]? = _; rw [List.getElem?_append_left hb, List.getElem?_eq_getElem hb])
  · subst hb
    rw [List.getElem?_append_right (by rw [kv_w_len]; exact Nat.le_refl _), kv_w_len, Nat.sub_self]
    exact kv_w_get (h := (h.1 ++ [e], h.2)) (by show (h.1 ++ [e])[_]? = _; rw [List.getElem?_append_right (Nat.le_refl _), Nat.sub_self]; rfl)
  · rw [kv_w_none (by show (h.1 ++ [e]).length ≤ b; simp; omega), List.getElem?_append_right (by rw [kv_w_len]; omega), kv_w_len]
    rw [List.getElem?_eq_none]
    simp
    omega
theorem kv_own : ∀ c, c < 13 → ∀ k, k < kv_N c → (kv_T c k).1 = kv_R c := by decide +kernel
theorem kv_dflt : ∀ c, c < 13 → ∀ k, k < kv_N c → defaultValue (kv_Ty c k) = (if kv_rT (kv_Ty c k) then .null else if kv_Ty c k = .long then .long 0 else .int 0) := by decide +kernel
theorem kv_fl_len : ∀ c, c < 13 → (kv_fl c).length = kv_N c := by decide +kernel
theorem kv_fl_at : ∀ c, c < 13 → ∀ k, k < kv_N c → (kv_fl c).getD k none = (if kv_rT (kv_Ty c k) then some none else none) := by decide +kernel
theorem kv_cl_at {c : Nat} (h : c < 13) : kv_cl[c]? = some (kv_R c, kv_T c, kv_N c) := by
  unfold kv_cl
  rw [List.getElem?_map, List.getElem?_range h]
  rfl
def kv_gW : List Cond := lw_tbl.filter goodWord
theorem kv_g {w : Cond} (h : w ∈ lw_tbl) (hg : goodWord w = true) : w ∈ kv_gW := List.mem_filter.mpr ⟨h, hg⟩
theorem kv_g_lay (c : Nat) (h : c < 13) : ∀ w ∈ u_ws (kv_R c) (kv_T c) (kv_N c), w ∈ kv_gW := by
  intro w hw
  refine kv_g (kv_ws_lay w (List.mem_flatMap.mpr ⟨c, List.mem_range.mpr h, hw⟩)) ?_
  obtain ⟨k, -, rfl⟩ := List.mem_map.mp hw
  unfold u_lay
  split <;> rfl
def kv_szE (e : kv_E) : Nat := match e with
  | .inl n => n
  | .inr (.inl (_, l)) => l.length
  | .inr (.inr (_, fl)) => fl.length
def kv_sl (sh : List kv_E) : Nat := (sh.map kv_szE).sum
theorem kv_sl_push (sh : List kv_E) (e : kv_E) : kv_sl (sh ++ [e]) = kv_sl sh + kv_szE e := by simp [kv_sl]
theorem kv_sl_set {sh : List kv_E} {a : Nat} {e e' : kv_E} (h : sh[a]? = some e) (hz : kv_szE e' = kv_szE e) : kv_sl (sh.set a e') = kv_sl sh := by
  induction sh generalizing a with
  | nil => rfl
  | cons x l ih =>
    cases a with
    | zero =>
      have hx : x = e := by simpa using h
      subst hx
      simp [kv_sl, hz]
    | succ a =>
      have h' : l[a]? = some e := by simpa using h
      have := ih h'
      simp only [kv_sl, List.set_cons_succ, List.map_cons, List.sum_cons] at this ⊢
      omega
/-- the ints or longs of one cell change -/
theorem kv_W_z {ad : Nat → Nat} {A : Nat → Prop} {D : va_G} {k : kv_K} {h : kv_H} {H H1 : Heap} {a : Nat} {e : kv_E} {z : Nat → Nat → Int32} {zl : Nat → Nat → Int64} (hW : kv_W ad A D k h H) (he : h.1[a]? = some e)
    (hz : ∀ b, b ≠ a → z b = h.2.1 b ∧ zl b = h.2.2 b) (hsz : H1.size = H.size)
    (hP : va_P D kv_cl ((kv_w ad k h).set a (ad a, kv_c ad k (h.1, z, zl) a e)) H1) (hD : va_D A ((kv_w ad k h).set a (ad a, kv_c ad k (h.1, z, zl) a e))) : kv_W ad A D k (h.1, z, zl) H1 := by
  have hlt : a < h.1.length := (List.getElem?_eq_some_iff.mp he).1
  have hs := kv_w_set (ad := ad) (k := k) (h := h) (h' := (h.1, z, zl)) rfl he (fun b x hb hx => ⟨hx, by
    obtain ⟨q1, q2⟩ := hz b hb
    rcases x with n | ⟨t, l⟩ | ⟨ci, fl⟩
    · simp only [kv_c, q1]
    · rfl
    · simp only [kv_c]
      congr 3
      funext j
      simp only [kv_fv, q1, q2]⟩)
  rw [hs] at hP hD
  obtain ⟨-, -, h3, h4, h5, h6⟩ := hW
  refine ⟨hP, hD, hsz.trans h3, fun b hb => ?_, h5, h6⟩
  have hne : b ≠ a := fun q => by subst q; exact absurd hb (by show ¬ h.1.length ≤ b; omega)
  obtain ⟨q1, q2⟩ := hz b hne
  exact ⟨fun i => by show z b i = 0; rw [q1]; exact (h4 b hb).1 i, fun i => by show zl b i = 0; rw [q2]; exact (h4 b hb).2 i⟩
/-- one shape changes -/
theorem kv_W_s {ad : Nat → Nat} {A : Nat → Prop} {D : va_G} {k : kv_K} {h : kv_H} {H H1 : Heap} {a : Nat} {e' : kv_E} (hW : kv_W ad A D k h H) (hlt : a < h.1.length) (hsz : H1.size = H.size)
    (ht : ∀ t l, e' = .inr (.inl (t, l)) → (t = 9 ∨ t = 5)) (hc : ∀ ci fl, e' = .inr (.inr (ci, fl)) → ci < 13 ∧ fl.length = kv_N ci)
    (hP : va_P D kv_cl ((kv_w ad k h).set a (ad a, kv_c ad k h a e')) H1) (hD : va_D A ((kv_w ad k h).set a (ad a, kv_c ad k h a e'))) : kv_W ad A D k (h.1.set a e', h.2) H1 := by
  have hs := kv_w_set (ad := ad) (k := k) (h := h) (h' := (h.1.set a e', h.2)) (a := a) (e' := e') (by simp) (by show (h.1.set a e')[a]? = _; simp [hlt]) (fun b x hb hx => ⟨by show (h.1.set a e')[b]? = _; rw [List.getElem?_set_ne (Ne.symm hb)]; exact hx, rfl⟩)
  have hs' : (kv_w ad k h).set a (ad a, kv_c ad k h a e') = kv_w ad k (h.1.set a e', h.2) := hs
  rw [hs'] at hP hD
  obtain ⟨-, -, h3, h4, h5, h6⟩ := hW
  refine ⟨hP, hD, by rw [hsz, h3]; simp, fun b hb => h4 b (by simpa using hb), fun b t l hb => ?_, fun b ci fl hb => ?_⟩
  · rw [List.getElem?_set] at hb
    by_cases q : a = b
    · rw [if_pos q] at hb
      split at hb
      · exact ht t l (Option.some.inj hb)
      · exact absurd hlt ‹_›
    · rw [if_neg q] at hb
      exact h5 b t l hb
  · rw [List.getElem?_set] at hb
    by_cases q : a = b
    · rw [if_pos q] at hb
      split at hb
      · exact hc ci fl (Option.some.inj hb)
      · exact absurd hlt ‹_›
    · rw [if_neg q] at hb
      exact h6 b ci fl hb
/-- a cell comes -/
theorem kv_W_push {ad : Nat → Nat} {A : Nat → Prop} {D : va_G} {k : kv_K} {h : kv_H} {H H1 : Heap} {e : kv_E} (hW : kv_W ad A D k h H) (hA : A (ad h.1.length)) (had : ad (h.1.length + 1) = ad h.1.length + 1) (hsz : H1.size = H.size + 1) (hk : ∀ q, q < H.size → H1[q]? = H[q]?)
    (ht : ∀ t l, e = .inr (.inl (t, l)) → (t = 9 ∨ t = 5)) (hc : ∀ ci fl, e = .inr (.inr (ci, fl)) → ci < 13 ∧ fl.length = kv_N ci)
    (he : va_at D kv_cl (ad h.1.length, kv_c ad k h h.1.length e) H1) : kv_W ad A D k (h.1 ++ [e], h.2) H1 := by
  obtain ⟨hP, hD, h3, h4, h5, h6⟩ := hW
  have hk' : ∀ (j : Nat) (x : Nat × va_E), (kv_w ad k h)[j]? = some x → H1[x.1]? = H[x.1]? := fun j x hx => hk x.1 ((hP j x hx).lt)
  refine ⟨?_, ?_, by show H1.size = ad (h.1 ++ [e]).length; rw [hsz, h3]; simp [had], fun b hb => h4 b (by have : (h.1 ++ [e]).length ≤ b := hb; simp at this; omega), fun b t l hb => ?_, fun b ci fl hb => ?_⟩
  · rw [kv_w_push]
    refine (hP.kept hk').app (fun j x hx => ?_)
    have hz : j < 1 := (List.getElem?_eq_some_iff.mp hx).1
    rw [show j = 0 by omega] at hx
    cases hx
    exact he
  · rw [kv_w_push]
    refine hD.push hP ?_ hA
    first | exact h3.symm | exact h3 | rfl
  · have hb : (h.1 ++ [e])[b]? = some (.inr (.inl (t, l))) := hb
    by_cases q : b < h.1.length
    · rw [List.getElem?_append_left q] at hb; exact h5 b t l hb
    · rw [List.getElem?_append_right (by omega)] at hb
      have hz : b - h.1.length < 1 := (List.getElem?_eq_some_iff.mp hb).1
      rw [show b - h.1.length = 0 by omega] at hb
      exact ht t l (Option.some.inj hb)
  · have hb : (h.1 ++ [e])[b]? = some (.inr (.inr (ci, fl))) := hb
    by_cases q : b < h.1.length
    · rw [List.getElem?_append_left q] at hb; exact h6 b ci fl hb
    · rw [List.getElem?_append_right (by omega)] at hb
      have hz : b - h.1.length < 1 := (List.getElem?_eq_some_iff.mp hb).1
      rw [show b - h.1.length = 0 by omega] at hb
      exact hc ci fl (Option.some.inj hb)
/-- what stands beside the cells -/
def kv_B (ad : Nat → Nat) (A : Nat → Prop) (D : va_G) (k : kv_K) (U : State) (H : Heap) : Prop :=
  va_K D kv_cl (kv_tys k) U ∧ (∀ q ∈ kv_LF, ¬ q.2.2.2.2 = 0 → va_Nw (kv_LFw q) U) ∧ (∀ q ∈ kv_LM, ¬ q.2.2.2.2 = 0 → va_Nw (kv_LMw q) U) ∧ (va_AO "KiteVote$State" U ∧ va_AO "KiteVote$Law" U) ∧
  (∀ i, i < 6 → va_Z (kv_Sts.getD i ("", "", "")).1 (kv_Sts.getD i ("", "", "")).2.1 (kv_Sts.getD i ("", "", "")).2.2 (.ref (ad (300 + i))) A U H ∧ va_T .int (ad (300 + i)) (kv_SA.getD i []).length (fun j => .int ((kv_SA.getD i []).getD j 0)) A U H) ∧
  va_Z (kv_Sts.getD 6 ("", "", "")).1 (kv_Sts.getD 6 ("", "", "")).2.1 (kv_Sts.getD 6 ("", "", "")).2.2 (.int 1) A U H ∧
  (∀ q ∈ kv_LS, vk_R (kv_R q.1) q.2.1 (kv_Str.getD q.2.2 "") (ad (306 + q.2.2)) U) ∧
  (∀ i, i < 4 → va_O "java/lang/String" (ad (306 + i)) A U H ∧ va_OF "java/lang/String" "coder" "B" (.int 0) (ad (306 + i)) A U H ∧ va_OF "java/lang/String" "value" "[B" (.ref (ad (306 + i + 4))) (ad (306 + i)) A U H ∧ va_T .byte (ad (310 + i)) (kv_SB.getD i []).length (fun j => .int ((kv_SB.getD i []).getD j 0)) A U H)
theorem kv_B.kept {ad : Nat → Nat} {A : Nat → Prop} {D : va_G} {k : kv_K} {U : State} {H H1 : Heap} (h : kv_B ad A D k U H) (hq : ∀ a : Nat, a < H.size → ¬ A a → H1[a]? = H[a]?) : kv_B ad A D k U H1 := by
  obtain ⟨h1, h2, h3, h4, h5, h6, h7, h8⟩ := h
  exact ⟨h1, h2, h3, h4, fun i hi => ⟨(h5 i hi).1.kept hq, (h5 i hi).2.kept hq⟩, h6.kept hq, h7, fun i hi => ⟨(h8 i hi).1.kept hq, (h8 i hi).2.1.kept hq, (h8 i hi).2.2.1.kept hq, (h8 i hi).2.2.2.kept hq⟩⟩
theorem kv_B.warm {ad : Nat → Nat} {A : Nat → Prop} {D : va_G} {k : kv_K} {s U : State} {H : Heap} (hW : s.WarmedH U.vm) (h : kv_B ad A D k s H) : kv_B ad A D k U H := by
  obtain ⟨h1, h2, h3, ⟨h4, h4'⟩, h5, h6, h7, h8⟩ := h
  have hv := hW.alike
  refine ⟨va_K.moved hv h1, fun q hq hn => ?_, fun q hq hn => ?_, ⟨h4.moved hv, h4'.moved hv⟩, fun i hi => ⟨va_Z.moved hv (h5 i hi).1, va_T.moved hv (h5 i hi).2⟩, va_Z.moved hv h6, fun q hq => vk_R.warm hW (h7 q hq), fun i hi => ⟨va_O.moved hv (h8 i hi).1, va_OF.moved hv (h8 i hi).2.1, va_OF.moved hv (h8 i hi).2.2.1, va_T.moved hv (h8 i hi).2.2.2⟩⟩
  · have := h2 q hq hn
    unfold kv_LFw at this ⊢
    rw [if_neg hn] at this ⊢
    exact va_Nw.warmF hW this
  · have := h3 q hq hn
    unfold kv_LMw at this ⊢
    rw [if_neg hn] at this ⊢
    exact va_Nw.warmM hW this
theorem kv_B.same {ad : Nat → Nat} {A : Nat → Prop} {D : va_G} {k : kv_K} {u U : State} {H : Heap} (hv : u.vm = U.vm) (h : kv_B ad A D k u H) : kv_B ad A D k U H := by
  obtain ⟨h1, h2, h3, ⟨h4, h4'⟩, h5, h6, h7, h8⟩ := h
  have ha : u.vm.Alike U.vm := by rw [hv]; exact Vm.Alike.refl _
  refine ⟨va_K.moved ha h1, fun q hq hn => ?_, fun q hq hn => ?_, ⟨h4.moved ha, h4'.moved ha⟩, fun i hi => ⟨va_Z.moved ha (h5 i hi).1, va_T.moved ha (h5 i hi).2⟩, va_Z.moved ha h6, fun q hq => vk_R.same hv.symm (h7 q hq), fun i hi => ⟨va_O.moved ha (h8 i hi).1, va_OF.moved ha (h8 i hi).2.1, va_OF.moved ha (h8 i hi).2.2.1, va_T.moved ha (h8 i hi).2.2.2⟩⟩
  · have := h2 q hq hn
    unfold kv_LFw at this ⊢
    rw [if_neg hn] at this ⊢
    exact va_Nw.same rfl hv this
  · have := h3 q hq hn
    unfold kv_LMw at this ⊢
    rw [if_neg hn] at this ⊢
    exact va_Nw.same rfl hv this
/-- the held locals, with their places -/
def kv_ps (ad : Nat → Nat) (ls : kv_L) : List (Nat × Value) := (List.range ls.length).filterMap (fun i => (ls.getD i none).map (fun v => (i, kv_vr ad v)))
theorem kv_ps_mem {ad : Nat → Nat} {ls : kv_L} {q : Nat × Value} : q ∈ kv_ps ad ls ↔ ∃ v, ls[q.1]? = some (some v) ∧ q.2 = kv_vr ad v := by
  unfold kv_ps
  rw [List.mem_filterMap]
  constructor
  · rintro ⟨i, hi, h⟩
    obtain ⟨v, hv, rfl⟩ := Option.map_eq_some_iff.mp h
    have hi := List.mem_range.mp hi
    refine ⟨v, ?_, rfl⟩
    show ls[i]? = some (some v)
    rw [List.getElem?_eq_getElem hi]
    rw [List.getD_eq_getElem?_getD, List.getElem?_eq_getElem hi] at hv
    exact congrArg some hv
  · rintro ⟨v, h, e⟩
    refine ⟨q.1, List.mem_range.mpr (List.getElem?_eq_some_iff.mp h).1, ?_⟩
    rw [List.getD_eq_getElem?_getD, h]
    show some (q.1, kv_vr ad v) = some q
    rw [← e]
theorem kv_sub {LS : Array Slot} {n : Nat} {l l' : List (Nat × Value)} (h : lv_has LS n l) (hs : ∀ q ∈ l', q ∈ l) : lv_has LS n l' := ⟨h.1, h.2.1, fun q hq => h.2.2 q (hs q hq)⟩
theorem kv_vr_cat (ad : Nat → Nat) (v : Value) : (kv_vr ad v).category = v.category := by cases v <;> rfl
theorem kv_ps_set {ad : Nat → Nat} {ls : kv_L} {i : Nat} {v : Value} (hg : kv_lg ls i = false) : ∀ q ∈ kv_ps ad (ls.set i (some v)), q ∈ (i, kv_vr ad v) :: (kv_ps ad ls).filter (fun q => !(q.1 == i) && !(q.1 + 1 == i && q.2.category == 2)) := by
  intro q hq
  obtain ⟨w, h, e⟩ := kv_ps_mem.mp hq
  obtain ⟨k, x⟩ := q
  dsimp only at h e
  subst e
  rw [List.getElem?_set] at h
  by_cases hk : i = k
  · subst hk
    rw [if_pos rfl] at h
    split at h
    · cases h
      exact List.mem_cons_self
    · cases h
  · rw [if_neg hk] at h
    refine List.mem_cons_of_mem _ (List.mem_filter.mpr ⟨kv_ps_mem.mpr ⟨w, h, rfl⟩, ?_⟩)
    have h1 : (k == i) = false := by simp; omega
    by_cases h2 : k + 1 = i
    · subst h2
      have h3 : kv_lg ls (k + 1) = decide (w.category = 2) := by
        show kv_c2 (ls.getD k none) = _
        rw [List.getD_eq_getElem?_getD, h]
        rfl
      rw [h3] at hg
      have h4 : ¬ w.category = 2 := by simpa using hg
      simp [kv_vr_cat, h4]
    · have h2' : (k + 1 == i) = false := by simp; omega
      simp [h1, h2']
theorem kv_ps_set2 {ad : Nat → Nat} {ls : kv_L} {i : Nat} {x : Int64} (hg : kv_lg ls i = false) : ∀ q ∈ kv_ps ad ((ls.set i (some (.long x))).set (i + 1) none), q ∈ (i, Value.long x) :: (kv_ps ad ls).filter (fun q => !(q.1 == i) && (!(q.1 == i + 1) && !(q.1 + 1 == i && q.2.category == 2))) := by
  intro q hq
  obtain ⟨w, h, e⟩ := kv_ps_mem.mp hq
  obtain ⟨k, y⟩ := q
  dsimp only at h e
  subst e
  rw [List.getElem?_set] at h
  by_cases hk1 : i + 1 = k
  · rw [if_pos hk1] at h
    split at h
    · cases h
    · cases h
  · rw [if_neg hk1] at h
    have hq' : (k, kv_vr ad w) ∈ kv_ps ad (ls.set i (some (.long x))) := kv_ps_mem.mpr ⟨w, h, rfl⟩
    rcases List.mem_cons.mp (kv_ps_set (v := .long x) hg _ hq') with q | q
    · rw [q]; exact List.mem_cons_self
    · obtain ⟨q1, q2⟩ := List.mem_filter.mp q
      refine List.mem_cons_of_mem _ (List.mem_filter.mpr ⟨q1, ?_⟩)
      have h1 : (k == i + 1) = false := by simp; omega
      dsimp only at q2 ⊢
      rw [h1]
      simpa using q2
theorem kv_cat_map (ad : Nat → Nat) (r : List Value) : ((r.map (kv_vr ad)).map fun v => v.category).sum = kv_cat r := by
  unfold kv_cat
  rw [List.map_map]
  congr 1
  refine List.map_congr_left fun v _ => ?_
  exact kv_vr_cat ad v
