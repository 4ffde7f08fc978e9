/-! a run of the function is a run of the machine -/
def kv_rm (d mc ms : Nat) : Room := { frames := d + 1, cells := mc, slots := ms, locals := 40 * d + 60 }
def kv_wsj (q : kv_M) : List Jvm.Cond := kv_cw q :: kv_gW
def kv_Pc (ad : Nat → Nat) (A : Nat → Prop) (D : va_G) (k : kv_K) (sz : Nat) (as : List Value) (h : kv_H) : Array Value → State → Prop := fun v U => v = (as.map (kv_vr ad)).toArray ∧ kv_W ad A D k h U.heap ∧ kv_B ad A D k U U.heap ∧ sz ≤ U.heap.size
def kv_Qc (ad : Nat → Nat) (A : Nat → Prop) (D : va_G) (k : kv_K) (r : Option Value) (h : kv_H) : Array Value → State → Outcome → State → Prop := fun _ st o t => o = .returned (r.map (kv_vr ad)) ∧ kv_W ad A D k h t.heap ∧ va_F A st t
theorem kv_blind (ad : Nat → Nat) (A : Nat → Prop) (D : va_G) (k : kv_K) (sz : Nat) (as : List Value) (h : kv_H) : FrameBlind (kv_Pc ad A D k sz as h) := fun a U g mk ⟨q1, q2, q3, q4⟩ => ⟨q1, q2, kv_B.same (U := U.calling g mk a) (rfl : U.vm = (U.calling g mk a).vm) q3, q4⟩
theorem kv_M_lt : ∀ q ∈ kv_Ms, q.1 < 16 ∧ q.2.2.2.2.1 ≤ 21 := by decide +kernel
theorem kv_good {q : kv_M} (hq : q ∈ kv_Ms) : GoodIn kv_gW (kv_wsj q) := by
  intro w hw
  rcases List.mem_cons.mp hw with rfl | hw
  · exact ⟨kv_g (kv_ws_code q hq) rfl, good_of_word rfl⟩
  · exact ⟨hw, good_of_word (List.mem_filter.mp hw).2⟩
theorem kv_sl_len (ad : Nat → Nat) (as : List Value) : (lg_sl (as.map (kv_vr ad))).length = (kv_lv as).length := by
  induction as with
  | nil => rfl
  | cons v vs ih =>
    simp only [List.map_cons, lg_sl, List.flatMap_cons, List.length_append] at ih ⊢
    rw [ih, kv_vr_cat, kv_lv]
    by_cases h : v.category = 2
    · simp [h]; omega
    · simp [h]; omega
theorem kv_lv_args (ad : Nat → Nat) : ∀ (as : List Value) (o i : Nat) (v : Value), (kv_lv as)[i]? = some (some v) → (o + i, kv_vr ad v) ∈ lv_args o (as.map (kv_vr ad)) := by
  intro as
  induction as with
  | nil => intro o i v h; simp [kv_lv] at h
  | cons w vs ih =>
    intro o i v h
    rw [kv_lv] at h
    rw [List.map_cons, lv_args, kv_vr_cat]
    by_cases hc : w.category = 2
    · rw [if_pos hc] at h ⊢
      match i, h with
      | 0, h =>
        have : w = v := by simpa using h
        subst this
        exact List.mem_cons_self
      | 1, h => simp at h
      | i + 2, h =>
        have h' : (kv_lv vs)[i]? = some (some v) := by simpa using h
        have := ih (o + 2) i v h'
        rw [show o + 2 + i = o + (i + 2) by omega] at this
        exact List.mem_cons_of_mem _ this
    · rw [if_neg hc] at h ⊢
      match i, h with
      | 0, h =>
        have : w = v := by simpa using h
        subst this
        exact List.mem_cons_self
      | i + 1, h =>
        have h' : (kv_lv vs)[i]? = some (some v) := by simpa using h
        have := ih (o + 1) i v h'
        rw [show o + 1 + i = o + (i + 1) by omega] at this
        exact List.mem_cons_of_mem _ this
theorem kv_en_args (ad : Nat → Nat) (as : List Value) (n : Nat) : ∀ q ∈ kv_ps ad (kv_pad as n), q ∈ lv_args 0 (as.map (kv_vr ad)) := by
  intro q hq
  obtain ⟨v, h, e⟩ := kv_ps_mem.mp hq
  obtain ⟨i, y⟩ := q
  dsimp only at h e
  subst e
  unfold kv_pad at h
  by_cases hi : i < (kv_lv as).length
  · rw [List.getElem?_append_left hi] at h
    have := kv_lv_args ad as 0 i v h
    rwa [Nat.zero_add] at this
  · rw [List.getElem?_append_right (by omega), List.getElem?_replicate] at h
    split at h
    · cases h
    · cases h
theorem kv_en_len {j : Nat} {as : List Value} {q : kv_M} (hq : kv_Ms[j]? = some q) (h : (kv_lv as).length ≤ q.2.2.2.2.1) : (kv_en j as).length = q.2.2.2.2.1 := by
  unfold kv_en kv_pad
  rw [List.getD_eq_getElem?_getD, hq]
  simp only [Option.getD_some, List.length_append, List.length_replicate]
  omega
theorem kv_call_inv {j pc n : Nat} {sh : List kv_E} {ls : kv_L} {st : List Value} {dyn : Bool} {j' pc' : Nat} {as rest : List Value} {ls' : kv_L} (e : kv_call j pc n sh ls st dyn = some (Sum.inr (Sum.inr (j', as, pc', ls', rest)))) :
    ∃ q, kv_Ms[j]? = some q ∧ j' = j ∧ pc' = pc + 3 ∧ ls' = ls ∧ st = as.reverse ++ rest ∧ as.length = n ∧ kv_cat rest ≤ 8 ∧ (kv_lv as).length ≤ q.2.2.2.2.1 ∧ q.2.2.2.2.2.2.2 = !dyn ∧ (if dyn then n = q.2.2.2.2.2.2.1 + 1 else n = q.2.2.2.2.2.2.1) ∧ (dyn = true → ∃ b as', as = .ref b :: as' ∧ kv_is sh b q.1 = true) := by
  unfold kv_call at e
  split at e
  · rename_i q hq
    obtain ⟨⟨h1, h2, h3, h4, h5, h6⟩, e⟩ := kv_if_inv e
    cases e
    refine ⟨q, hq, rfl, rfl, rfl, by rw [List.reverse_reverse, List.take_append_drop], by simp; omega, h2, h3, h4, h5, fun hd => ?_⟩
    have h7 := h6 hd
    split at h7
    · rename_i b as' hb
      exact ⟨b, as', hb, h7⟩
    · cases h7
  · cases e
theorem kv_kinds_all : ∀ x ∈ kv_LM, (x.2.2.2.1 = 1 → ¬ (kv_Ms.getD x.2.2.1 kv_dM).2.1 = "<init>") ∧ (x.2.2.2.1 = 2 → (kv_Ms.getD x.2.2.1 kv_dM).2.1 = "<init>" ∧ (kv_Ms.getD x.2.2.1 kv_dM).2.2.2.2.2.1 = none) := by decide +kernel
theorem kv_kinds (x : Nat × Nat × Nat × Nat × Nat) (hx : x ∈ kv_LM) (q : kv_M) (hq : kv_Ms[x.2.2.1]? = some q) (h : x.2.2.2.1 = 1) : ¬ q.2.1 = "<init>" := by
  have := (kv_kinds_all x hx).1 h
  rw [List.getD_eq_getElem?_getD, hq] at this
  exact this
theorem kv_kinds2 (x : Nat × Nat × Nat × Nat × Nat) (hx : x ∈ kv_LM) (q : kv_M) (hq : kv_Ms[x.2.2.1]? = some q) (h : x.2.2.2.1 = 2) : (kv_y q).name = "<init>" ∧ q.2.2.2.2.2.1 = none := by
  have := (kv_kinds_all x hx).2 h
  rw [List.getD_eq_getElem?_getD, hq] at this
  exact this
section SND
variable {l : Launch} {ad : Nat → Nat} {A : Nat → Prop} {D : va_G} {k : kv_K} {ng sz : Nat}
def kv_P (l : Launch) (ad : Nat → Nat) (A : Nat → Prop) (D : va_G) (k : kv_K) (ng sz f : Nat) : Prop :=
  ∀ (d j pc : Nat) (ls : kv_L) (st : List Value) (h : kv_H) (r : Option Value) (hF : kv_H), kv_ev f d j pc ls st h = some (r, hF) → ∀ (q : kv_M), kv_Ms[j]? = some q →
    ∀ (p : Program) (e : Env) (s : State) (m : MethodId) (args : Array Value) (below : List Frame) (meth : Method) (c : Code) (H : Heap) (locs : List Loc) (LS : Array Slot) (n0 s0 mc ms : Nat), mc = hF.1.length - n0 → ms = kv_sl hF.1 - s0 →
      kv_At p s m args meth c ad A D k n0 q → ls.length = q.2.2.2.2.1 → n0 ≤ h.1.length → s0 ≤ kv_sl h.1 → kv_W ad A D k h H → va_S A s.heap H locs → lv_has LS q.2.2.2.2.1 (kv_ps ad ls) → sz ≤ s.heap.size → ng ≤ n0 →
      W p l e (kv_rm d mc ms) s m args below meth c H locs (h.1.length - n0) (kv_sl h.1 - s0) (MQ below (kv_Qc ad A D k r hF) args s mc ms A) (F0 m pc LS (st.map (kv_vr ad)))
theorem kv_met_of {f : Nat} (hP : kv_P l ad A D k ng sz f) (hA : ∀ z, sz ≤ z → A z) (had : ∀ n, n ≤ 290 → ng ≤ n → ad (n + 1) = ad n + 1) {d j : Nat} {as : List Value} {h : kv_H} {r : Option Value} {hF : kv_H} {q : kv_M} (e1 : kv_ev f d j 0 (kv_en j as) [] h = some (r, hF)) (hq : kv_Ms[j]? = some q) (hlv : (kv_lv as).length ≤ q.2.2.2.2.1) (hng : ng ≤ h.1.length) :
    Met l (kv_y q) (kv_wsj q) (kv_rm d (hF.1.length - h.1.length) (kv_sl hF.1 - kv_sl h.1)) (kv_Pc ad A D k sz as h) (kv_Qc ad A D k r hF) (hF.1.length - h.1.length) (kv_sl hF.1 - kv_sl h.1) A := by
  have hmem := List.mem_of_getElem? hq
  refine Met.ofW (cc := q.2.2.2.1) (maxL := q.2.2.2.2.1) (ret := q.2.2.2.2.2.1) (kv_plain _ (kv_R_mem _ (kv_M_lt q hmem).1)) rfl ?_
  intro p e s m args below meth c s₁ B hml hv
  obtain ⟨hv1, hW, hB, hsz⟩ := hv
  subst hv1
  have hts0 := atoms_spec (ws := kv_wsj q) B.pre
  have hl := lv_entry (as.map (kv_vr ad)) (n := q.2.2.2.2.1) (by rw [kv_sl_len]; exact hlv)
  rw [lg_entry_eq]
  generalize (lg_sl (as.map (kv_vr ad)) ++ List.replicate (q.2.2.2.2.1 - (lg_sl (as.map (kv_vr ad))).length) Slot.unset).toArray = LS at hl ⊢
  have hen : kv_en j as = kv_pad as q.2.2.2.2.1 := by
    unfold kv_en
    rw [List.getD_eq_getElem?_getD, hq]
    rfl
  have w9 := hP d j 0 (kv_en j as) [] h r hF e1 q hq p e s m _ below meth c s.heap [] LS h.1.length (kv_sl h.1) _ _ rfl rfl ⟨B.exec, B.bytes, hml, B.returns, B.notSynchronized, findClass_of_methodNamed B.named, fun w hw => hts0 w (List.mem_cons_of_mem _ hw), fun z => ((name_of_methodNamed B.named B.method).1).trans z, hB, fun z hz => hA z (Nat.le_trans hsz hz), fun n a b => had n a (Nat.le_trans hng b)⟩
    (kv_en_len hq hlv) (Nat.le_refl _) (Nat.le_refl _) hW va_S.rf (by rw [hen]; exact kv_sub hl (kv_en_args ad as _)) hsz hng
  rw [Nat.sub_self, Nat.sub_self] at w9
  exact w9
theorem kv_cont {p : Program} {e : Env} {R : Room} {s : State} {m : MethodId} {args av : Array Value} {below : List Frame} {meth : Method} {c : Code} {H : Heap} {locs : List Loc} {cells slots mc ms pc : Nat} {Q : State → Prop} {LS : Array Slot} {st0 rest : List Value} {v : Option Value} {h1 : kv_H}
    (hr : va_Run p l e R s m args below meth c H locs cells slots mc ms (F0 m pc LS st0) rest (kv_Qc ad A D k v h1 av) A) (hS : va_S A s.heap H locs)
    (kk : ∀ (H1 : Heap) (locs1 : List Loc), kv_W ad A D k h1 H1 → va_S A s.heap H1 locs1 → W p l e R s m args below meth c H1 locs1 (cells + mc) (slots + ms) Q (F0 m (pc + 3) LS ((v.map (kv_vr ad)).toList ++ rest))) : W p l e R s m args below meth c H locs cells slots Q (F0 m pc LS st0) := by
  intro T hT X
  obtain ⟨v', st₀, t, T', L, e0, X', hL, e1, e2, ⟨hv, hw, hz, hk⟩, st⟩ := hr T hT X
  have hv' : v' = v.map (kv_vr ad) := by cases hv; rfl
  subst hv'
  rw [e0] at hz hk
  obtain ⟨t2, a1, b1⟩ := kk T'.heap (locs ++ L) (by rw [e1]; exact hw) ⟨Nat.le_trans hS.1 (by rw [e1]; exact hz), fun z h1 h2 => by
      rw [e1, hk z (Nat.lt_of_lt_of_le h1 hS.1) h2]
      exact hS.2.1 z h1 h2, fun z hz => by
      rcases List.mem_append.mp hz with h | h
      · exact hS.2.2 z h
      · exact hL z h⟩ T' rfl X'
  exact ⟨t2, st t2 a1, b1⟩
theorem kv_recv {s : State} {H : Heap} {locs : List Loc} {h : kv_H} {b c : Nat} (hB : kv_B ad A D k s s.heap) (hW : kv_W ad A D k h H) (hS : va_S A s.heap H locs) (hi : kv_is h.1 b c = true) : ∃ cell : Cell, H[ad b]? = some cell ∧ cell.vm.isStatics = false ∧ s.vm.findClass (kv_R c) = some cell.cls := by
  unfold kv_is at hi
  split at hi
  · split at hi
    · rename_i x hx
      obtain ⟨ci, fl⟩ := x
      have hc : ci = c := by simpa using hi
      subst hc
      exact va_recv hB.1 hW.1 (kv_cl_at (hW.2.2.2.2.2 b ci fl hx).1) (kv_w_get hx)
    · cases hi
  · have h3 := of_decide_eq_true hi
    obtain ⟨w, rfl⟩ : ∃ w, b = 306 + w := ⟨b - 306, by omega⟩
    have hw : w < 4 := by omega
    rw [h3.2.2]
    obtain ⟨cell, g1, g2, g3, -⟩ := (hB.2.2.2.2.2.2.2 w hw).1.kept hS.2.1
    exact ⟨cell, g1, g2, g3⟩
set_option maxHeartbeats 4000000 in
theorem kv_sound (hA : ∀ z, sz ≤ z → A z) (had : ∀ n, n ≤ 290 → ng ≤ n → ad (n + 1) = ad n + 1) : ∀ f, kv_P l ad A D k ng sz f := by
  intro f
  induction f with
  | zero => intro d j pc ls st h r hF e; cases e
  | succ f ih =>
    intro d j pc ls st h r hF e1 q hq p e s m args below meth c H locs LS n0 s0 mc ms hmc hms C0 hlen h0 hs0 hW hS hl hsz hng
    have C1 := C0
    obtain ⟨hx, hb, hml, hr, hlk, hown, hts, hin, hB, hA', had'⟩ := C1
    rw [kv_ev] at e1
    cases hn : kv_nx j pc ls st h with
    | none => rw [hn] at e1; cases e1
    | some X =>
      rw [hn] at e1
      unfold kv_nx at hn
      rw [hq] at hn
      dsimp only at hn
      split at hn
      · rename_i i len hdg
        rcases kv_ex_cases hn with ⟨pc', ls', st', h', rfl, g1, g2⟩ | ⟨v, rfl, rfl, hret⟩ | ⟨y, rfl, rfl, kd, kk, jj, ne, hmem, hcal⟩
        · dsimp only at e1
          have hg := kv_ev_grow _ _ _ _ _ _ _ _ e1
          dsimp only at hg
          refine kv_step C0 hdg hn hlen h0 hs0 ⟨by show 1 ≤ d + 1; omega, by show 60 ≤ 40 * d + 60; omega, by show h'.1.length ≤ n0 + mc; omega, by show kv_sl h'.1 ≤ s0 + ms; omega⟩ hW hS hl (fun LS' H' locs' a1 a2 a3 a4 => ?_)
          exact ih d j pc' ls' st' h' r hF e1 q hq p e s m args below meth c H' locs' LS' n0 s0 mc ms hmc hms C0 a4 (by omega) (by omega) a1 a2 a3 hsz hng
        · dsimp only at e1
          cases e1
          subst hmc
          subst hms
          rcases hret with ⟨rfl, hv⟩ | ⟨rfl, hv, t, ht, hrt⟩ | ⟨rfl, rfl, rfl, ht⟩
          · unfold kv_ret at hv
            split at hv
            · rename_i x t ht
              split at hv
              · rename_i hnr
                cases hv
                exact W.zret (v := x) (ty := t) hx hb (hr.trans ht) hnr (fun t9 ht9 hW9 => ⟨rfl, by rw [ht9]; exact hW, hS.F ht9⟩) hS.2.2 hdg (hlocks := hlk)
              · cases hv
            · cases hv
          · have hrt' : (∃ n, t = .object n) ∨ ∃ u, t = .array u := by
              cases t <;> first | exact absurd hrt (by decide) | exact Or.inl ⟨_, rfl⟩ | exact Or.inr ⟨_, rfl⟩
            rcases hv with ⟨a, rfl, rfl⟩ | ⟨rfl, rfl⟩
            · exact W.aret (v := .ref (ad a)) (rt := t) hx hb (hr.trans ht) hrt' (Or.inr ⟨_, rfl⟩) (fun t9 ht9 hW9 => ⟨rfl, by rw [ht9]; exact hW, hS.F ht9⟩) hS.2.2 hdg (hlocks := hlk)
            · exact W.aret (v := .null) (rt := t) hx hb (hr.trans ht) hrt' (Or.inl rfl) (fun t9 ht9 hW9 => ⟨rfl, by rw [ht9]; exact hW, hS.F ht9⟩) hS.2.2 hdg (hlocks := hlk)
          · exact W.vret hx hb (hr.trans ht) (fun t9 ht9 hW9 => ⟨rfl, by rw [ht9]; exact hW, hS.F ht9⟩) hS.2.2 hdg (hlocks := hlk)
        · obtain ⟨j', as, pc', ls', rest⟩ := y
          dsimp only at e1
          cases d with
          | zero => cases e1
          | succ d =>
            dsimp only at e1
            cases hc : kv_ev f d j' 0 (kv_en j' as) [] h with
            | none => rw [hc] at e1; cases e1
            | some o =>
              rw [hc] at e1
              obtain ⟨v, h1⟩ := o
              dsimp only at e1
              have hg1 := kv_ev_grow _ _ _ _ _ _ _ _ hc
              have hg2 := kv_ev_grow _ _ _ _ _ _ _ _ e1
              dsimp only at hg1 hg2
              have hword := kv_ws_LM _ (List.mem_map_of_mem (f := kv_LMw) hmem)
              have hnest := hB.2.2.1 _ hmem
              have fin : ∀ (q' : kv_M), kv_Ms[jj]? = some q' → j' = jj → pc' = pc + 3 → ls' = ls → (kv_lv as).length ≤ q'.2.2.2.2.1 →
                  (Met l (kv_y q') (kv_wsj q') (kv_rm d (h1.1.length - h.1.length) (kv_sl h1.1 - kv_sl h.1)) (kv_Pc ad A D k sz as h) (kv_Qc ad A D k v h1) (h1.1.length - h.1.length) (kv_sl h1.1 - kv_sl h.1) A →
                    ∃ av, va_Run p l e (kv_rm (d + 1) mc ms) s m args below meth c H locs (h.1.length - n0) (kv_sl h.1 - s0) (h1.1.length - h.1.length) (kv_sl h1.1 - kv_sl h.1) (F0 m pc LS (st.map (kv_vr ad))) (rest.map (kv_vr ad)) (kv_Qc ad A D k v h1 av) A) →
                  W p l e (kv_rm (d + 1) mc ms) s m args below meth c H locs (h.1.length - n0) (kv_sl h.1 - s0) (MQ below (kv_Qc ad A D k r hF) args s mc ms A) (F0 m pc LS (st.map (kv_vr ad))) := by
                intro q' hq' z1 z2 z3 hlv hrun
                subst z1
                subst z2
                subst z3
                obtain ⟨av, hr9⟩ := hrun (kv_met_of ih hA had hc hq' hlv (by omega))
                refine kv_cont hr9 hS (fun H1 locs1 a1 a2 => ?_)
                have w9 := ih (d + 1) j (pc + 3) ls' (v.toList ++ rest) h1 r hF e1 q hq p e s m args below meth c H1 locs1 LS n0 s0 mc ms hmc hms C0 hlen (by omega) (by omega) a1 a2 hl hsz hng
                rw [show h1.1.length - n0 = h.1.length - n0 + (h1.1.length - h.1.length) by omega, show kv_sl h1.1 - s0 = kv_sl h.1 - s0 + (kv_sl h1.1 - kv_sl h.1) by omega, List.map_append, show v.toList.map (kv_vr ad) = (v.map (kv_vr ad)).toList from by cases v <;> rfl] at w9
                exact w9
              have pc9 : ∀ U : State, U.heap = H → s.WarmedH U.vm → kv_Pc ad A D k sz as h (as.map (kv_vr ad)).toArray U := by
                intro U hU hWm
                refine ⟨rfl, by rw [hU]; exact hW, (hB.warm hWm).kept (fun a y1 y2 => by rw [hU]; exact hS.2.1 a y1 y2), by rw [hU]; exact Nat.le_trans hsz hS.1⟩
              have bl9 := kv_blind ad A D k sz as h
              have get9 : ∀ {q' : kv_M}, kv_Ms[jj]? = some q' → kv_Ms.getD jj kv_dM = q' := fun z => by rw [List.getD_eq_getElem?_getD, z]; rfl
              have room9 : ∀ {q' : kv_M}, q' ∈ kv_Ms → (kv_rm d (h1.1.length - h.1.length) (kv_sl h1.1 - kv_sl h.1)).frames + 1 ≤ (kv_rm (d + 1) mc ms).frames ∧ 8 + (q'.2.2.2.2.1 + 11) + (kv_rm d (h1.1.length - h.1.length) (kv_sl h1.1 - kv_sl h.1)).locals ≤ (kv_rm (d + 1) mc ms).locals := fun z => by
                have := (kv_M_lt _ z).2
                exact ⟨by show d + 1 + 1 ≤ d + 1 + 1; omega, by show 8 + (_ + 11) + (40 * d + 60) ≤ 40 * (d + 1) + 60; omega⟩
              have hf9 : (h.1.length - n0) + (h1.1.length - h.1.length) ≤ (kv_rm (d + 1) mc ms).cells ∧ (kv_sl h.1 - s0) + (kv_sl h1.1 - kv_sl h.1) ≤ (kv_rm (d + 1) mc ms).slots := ⟨by show _ ≤ mc; omega, by show _ ≤ ms; omega⟩
              have ini9 : ∀ {q' : kv_M}, q' ∈ kv_Ms → (Jvm.Cond.initialized (kv_y q').cls).before args s = true := fun z => kv_hw hts kv_ws_init (List.mem_map_of_mem (f := fun n => Jvm.Cond.initialized n) (kv_R_mem _ (kv_M_lt _ z).1)) rfl
              have lnk0 : ∀ {q' : kv_M}, kv_Ms[jj]? = some q' → ne = 0 → (Jvm.Cond.methodLink (kv_R q.1) kk (kv_y q')).before args s = true := fun z z0 => by
                subst z0
                have : (kv_LMw (q.1, kk, jj, kd, 0)).before args s = true := hts _ (kv_g hword rfl)
                unfold kv_LMw at this
                rw [if_pos rfl] at this
                dsimp only at this
                rw [get9 z] at this
                exact this
              have lnk1 : ∀ {q' : kv_M}, kv_Ms[jj]? = some q' → ¬ ne = 0 → va_Nw (Jvm.Cond.methodLinkNest (kv_R q.1) kk (kv_y q') "KiteVote") s := fun z z0 => by
                have := hnest z0
                unfold kv_LMw at this
                rw [if_neg z0] at this
                dsimp only at this
                rw [get9 z] at this
                exact this
              have cat9 : kv_cat rest ≤ 8 → 2 * (F0 m pc LS (st.map (kv_vr ad))).monitorRoom + ((rest.map (kv_vr ad)).map fun v => v.category).sum ≤ 8 := fun z => lv_room (by rw [kv_cat_map]; exact z)
              rcases hcal with ⟨rfl, rfl, hcl⟩ | ⟨rfl, rfl, hcl⟩ | ⟨rfl, rfl, hcl⟩
              · obtain ⟨q', hq', z1, z2, z3, hst, hn1, hcat, hlv, hsta, hn2, -⟩ := kv_call_inv hcl
                have hm' := List.mem_of_getElem? hq'
                refine fin q' hq' z1 z2 z3 hlv (fun hM => ⟨(as.map (kv_vr ad)).toArray, ?_⟩)
                have hd := kv_desc_ok q' hm'
                have hw9 : (Jvm.Cond.static (kv_y q')).before args s = true := kv_hw hts kv_ws_static (List.mem_map_of_mem (f := fun q : kv_M => Jvm.Cond.static (kv_y q)) (List.mem_filter.mpr ⟨hm', by rw [hsta]; rfl⟩)) rfl
                have hlen9 : (as.map (kv_vr ad)).length = q'.2.2.2.2.2.2.1 := by rw [List.length_map, hn1, get9 hq']
                have hst9 : st.map (kv_vr ad) = (as.map (kv_vr ad)).reverse ++ rest.map (kv_vr ad) := by rw [hst, List.map_append, List.map_reverse]
                by_cases hne : ne = 0
                · exact va_runS ⟨hx, hb, hml, hown, hts⟩ hM ⟨callB_of q'.2.2.2.2.2.2.1 hts (kv_good hm') rfl rfl rfl (ini9 hm') (lnk0 hq' hne) hd (room9 hm'), hw9⟩ ⟨bl9, pc9⟩ rfl hlen9 hl.1 hst9 (cat9 hcat) hdg hf9
                · exact va_runSN ⟨hx, hb, hml, hown, hts⟩ hM ⟨va_cnB q'.2.2.2.2.2.2.1 hts (kv_good hm') rfl rfl rfl (lnk1 hq' hne) (ini9 hm') hd (room9 hm'), hw9, trivial⟩ ⟨bl9, pc9⟩ rfl hlen9 hl.1 hst9 (cat9 hcat) hdg hf9
              · obtain ⟨q', hq', z1, z2, z3, hst, hn1, hcat, hlv, hsta, hn2, hdy⟩ := kv_call_inv hcl
                obtain ⟨b, as', rfl, his⟩ := hdy rfl
                have hm' := List.mem_of_getElem? hq'
                refine fin q' hq' z1 z2 z3 hlv (fun hM => ⟨(Value.ref (ad b) :: as'.map (kv_vr ad)).toArray, ?_⟩)
                have hd := kv_desc_ok q' hm'
                have hni : ¬ q'.2.1 = "<init>" := kv_kinds _ hmem _ hq' rfl
                have hw8 : (Jvm.Cond.instanceMethod (kv_y q')).before args s = true := kv_hw hts kv_ws_inst (List.mem_map_of_mem (f := fun q : kv_M => Jvm.Cond.instanceMethod (kv_y q)) (List.mem_filter.mpr ⟨hm', by rw [hsta]; rfl⟩)) rfl
                have hw9 : (Jvm.Cond.selects (kv_R q'.1) (kv_y q') (kv_y q')).before args s = true := kv_hw hts kv_ws_sel (List.mem_map_of_mem (f := fun q : kv_M => Jvm.Cond.selects (kv_R q.1) (kv_y q) (kv_y q)) (List.mem_filter.mpr ⟨hm', by rw [hsta]; simp [hni]⟩)) rfl
                have hlen9 : (as'.map (kv_vr ad)).length = q'.2.2.2.2.2.2.1 := by
                  rw [List.length_map]
                  simp only [List.length_cons, get9 hq'] at hn1
                  omega
                have hst9 : st.map (kv_vr ad) = (as'.map (kv_vr ad)).reverse ++ .ref (ad b) :: rest.map (kv_vr ad) := by
                  rw [hst]
                  simp [kv_vr]
                have hre := kv_recv hB hW hS his
                by_cases hne : ne = 0
                · exact va_runV (C := kv_R q'.1) ⟨hx, hb, hml, hown, hts⟩ hM ⟨callB_of q'.2.2.2.2.2.2.1 hts (kv_good hm') rfl rfl rfl (ini9 hm') (lnk0 hq' hne) hd (room9 hm'), hw8, hw9⟩ ⟨bl9, hre, pc9⟩ rfl hlen9 hl.1 hst9 (cat9 hcat) hdg hf9
                · exact va_runVN (C := kv_R q'.1) ⟨hx, hb, hml, hown, hts⟩ hM ⟨va_cnB q'.2.2.2.2.2.2.1 hts (kv_good hm') rfl rfl rfl (lnk1 hq' hne) (ini9 hm') hd (room9 hm'), hw8, hw9⟩ ⟨bl9, hre, pc9⟩ rfl hlen9 hl.1 hst9 (cat9 hcat) hdg hf9
              · obtain ⟨q', hq', z1, z2, z3, hst, hn1, hcat, hlv, hsta, hn2, hdy⟩ := kv_call_inv hcl
                obtain ⟨b, as', rfl, his⟩ := hdy rfl
                have hm' := List.mem_of_getElem? hq'
                refine fin q' hq' z1 z2 z3 hlv (fun hM => ⟨(Value.ref (ad b) :: as'.map (kv_vr ad)).toArray, ?_⟩)
                have hd := kv_desc_ok q' hm'
                obtain ⟨hni, hrn⟩ := kv_kinds2 _ hmem _ hq' rfl
                have hw8 : (Jvm.Cond.instanceMethod (kv_y q')).before args s = true := kv_hw hts kv_ws_inst (List.mem_map_of_mem (f := fun q : kv_M => Jvm.Cond.instanceMethod (kv_y q)) (List.mem_filter.mpr ⟨hm', by rw [hsta]; rfl⟩)) rfl
                have hlen9 : (as'.map (kv_vr ad)).length = q'.2.2.2.2.2.2.1 := by
                  rw [List.length_map]
                  simp only [List.length_cons, get9 hq'] at hn1
                  omega
                have hst9 : st.map (kv_vr ad) = (as'.map (kv_vr ad)).reverse ++ .ref (ad b) :: rest.map (kv_vr ad) := by
                  rw [hst]
                  simp [kv_vr]
                by_cases hne : ne = 0
                · exact va_runI ⟨hx, hb, hml, hown, hts⟩ hM ⟨callB_of q'.2.2.2.2.2.2.1 hts (kv_good hm') (by rw [← hrn]; rfl) rfl rfl (ini9 hm') (lnk0 hq' hne) hd (room9 hm'), hni, hw8⟩ ⟨bl9, pc9⟩ rfl hlen9 hl.1 hst9 (cat9 hcat) hdg hf9
                · exact va_runIN ⟨hx, hb, hml, hown, hts⟩ hM ⟨va_cnB q'.2.2.2.2.2.2.1 hts (kv_good hm') (by rw [← hrn]; rfl) rfl rfl (lnk1 hq' hne) (ini9 hm') hd (room9 hm'), hni, hw8⟩ ⟨bl9, pc9⟩ rfl hlen9 hl.1 hst9 (cat9 hcat) hdg hf9
      · cases hn
end SND
