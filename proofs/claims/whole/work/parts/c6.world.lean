/-! between calls: a side's own cells alone lie in the heap; a call numbers what it makes behind them -/
def kz_ad (ad : Nat → Nat) (N sz : Nat) : Nat → Nat := fun n => if n < N then ad n else if n ≤ 291 then sz + (n - N) else ad n
def kz_A (ad : Nat → Nat) (N sz : Nat) : Nat → Prop := fun q => (∃ a, a < N ∧ q = ad a) ∨ sz ≤ q
def kz_cz (N : Nat) (z : Nat → Nat → Int32) : Nat → Nat → Int32 := fun a => if a < N then z a else fun _ => 0
def kz_cl (N : Nat) (z : Nat → Nat → Int64) : Nat → Nat → Int64 := fun a => if a < N then z a else fun _ => 0
def kz_ro (N : Nat) (o : Option Nat) : Bool := match o with
  | some b => decide (b < N)
  | none => true
def kz_rf (N : Nat) (e : kv_E) : Bool := match e with
  | .inl _ => true
  | .inr (.inl (t, l)) => (decide (t = 9) || decide (t = 5)) && l.all (kz_ro N)
  | .inr (.inr (ci, fl)) => decide (ci < 13) && (decide (fl.length = kv_N ci) && fl.all (fun o => kz_ro N (o.getD none)))
def kz_ok (sh : List kv_E) : Bool := sh.all (kz_rf sh.length)
theorem kz_okK : kz_ok kv_shK = true := by decide +kernel
theorem kz_okM : kz_ok kv_shM = true := by decide +kernel
theorem kz_lenK : kv_shK.length = 172 := by decide +kernel
theorem kz_lenM : kv_shM.length = 26 := by decide +kernel
theorem kz_ad_lt {ad : Nat → Nat} {N sz n : Nat} (h : n < N) : kz_ad ad N sz n = ad n := if_pos h
theorem kz_ad_ge {ad : Nat → Nat} {N sz n : Nat} (h : N ≤ n) (h2 : n ≤ 291) : kz_ad ad N sz n = sz + (n - N) := by
  unfold kz_ad
  rw [if_neg (by omega), if_pos h2]
theorem kz_ad_st {ad : Nat → Nat} {N sz n : Nat} (hN : N ≤ 291) (h : 300 ≤ n) : kz_ad ad N sz n = ad n := by
  unfold kz_ad
  rw [if_neg (by omega), if_neg (by omega)]
theorem kz_omap {N : Nat} {ad ad' : Nat → Nat} (ha : ∀ n, n < N → ad' n = ad n) {o : Option Nat} (h : kz_ro N o = true) : o.map ad' = o.map ad := by
  cases o with
  | none => rfl
  | some b => exact congrArg some (ha b (of_decide_eq_true h))
theorem kz_getDall {α : Type} {p : α → Bool} {l : List α} (h : l.all p = true) (j : Nat) (d : α) (hd : p d = true) : p (l.getD j d) = true := by
  rw [List.getD_eq_getElem?_getD]
  cases hj : l[j]? with
  | none => exact hd
  | some x => exact List.all_eq_true.mp h x (List.mem_of_getElem? hj)
/-- one cell's contents don't ask how the call numbers -/
theorem kz_c {N : Nat} {ad ad' : Nat → Nat} {k : kv_K} {h h' : kv_H} {a : Nat} {e : kv_E} (ha : ∀ n, n < N → ad' n = ad n) (he : kz_rf N e = true) (hz : h'.2.1 a = h.2.1 a) (hl : h'.2.2 a = h.2.2 a) : kv_c ad' k h' a e = kv_c ad k h a e := by
  rcases e with n | ⟨t, l⟩ | ⟨ci, fl⟩
  · simp only [kv_c, hz]
  · have h2 : l.all (kz_ro N) = true := (Bool.and_eq_true _ _ ▸ he).2
    simp only [kv_c]
    congr 7
    funext j
    exact kz_omap ha (kz_getDall h2 j none rfl)
  · have h2 : fl.all (fun o => kz_ro N (o.getD none)) = true := by
      have h1 : (decide (ci < 13) && (decide (fl.length = kv_N ci) && fl.all (fun o => kz_ro N (o.getD none)))) = true := he
      rw [Bool.and_eq_true, Bool.and_eq_true] at h1
      exact h1.2.2
    simp only [kv_c]
    congr 3
    funext j
    have h3 := kz_getDall h2 j none rfl
    simp only [kv_fv, hz, hl]
    cases ho : fl.getD j none with
    | none => rfl
    | some o =>
      rw [ho] at h3
      have h4 : kz_ro N o = true := h3
      show va_rf (o.map ad') = va_rf (o.map ad)
      rw [kz_omap ha h4]
theorem kz_in {sh : List kv_E} (hok : kz_ok sh = true) {a : Nat} {e : kv_E} (he : sh[a]? = some e) : kz_rf sh.length e = true := List.all_eq_true.mp hok e (List.mem_of_getElem? he)
/-- a world seen from another numbering, with what lies behind it dropped or not -/
theorem kz_P {sh e' : List kv_E} {ad ad' : Nat → Nat} {k : kv_K} {D : va_G} {H : Heap} {z z' : Nat → Nat → Int32} {zl zl' : Nat → Nat → Int64} (hok : kz_ok sh = true) (ha : ∀ n, n < sh.length → ad' n = ad n) (hz : ∀ a, a < sh.length → z' a = z a ∧ zl' a = zl a) (hP : va_P D kv_cl (kv_w ad k (sh ++ e', z, zl)) H) : va_P D kv_cl (kv_w ad' k (sh, z', zl')) H := by
  intro i q hq
  have hi : i < sh.length := by
    have h1 := (List.getElem?_eq_some_iff.mp hq).1
    rw [kv_w_len] at h1
    exact h1
  have he : sh[i]? = some sh[i] := List.getElem?_eq_getElem hi
  have h1 := kv_w_get (ad := ad') (k := k) (h := (sh, z', zl')) (a := i) he
  have h2 := kv_w_get (ad := ad) (k := k) (h := (sh ++ e', z, zl)) (a := i) (e := sh[i]) (by show (sh ++ e')[i]? = _; rw [List.getElem?_append_left hi]; exact he)
  rw [hq] at h1
  rw [kz_c (h := (sh ++ e', z, zl)) (h' := (sh, z', zl')) ha (kz_in hok he) (hz i hi).1 (hz i hi).2, ha i hi] at h1
  cases h1
  exact hP i _ h2
theorem kz_D {ad : Nat → Nat} {A : Nat → Prop} {k : kv_K} {h : kv_H} (hinj : ∀ a b, a < h.1.length → b < h.1.length → ad a = ad b → a = b) (hA : ∀ a, a < h.1.length → A (ad a)) : va_D A (kv_w ad k h) := by
  have key : ∀ (i : Nat) (q : Nat × va_E), (kv_w ad k h)[i]? = some q → i < h.1.length ∧ q.1 = ad i := by
    intro i q hq
    have hi : i < h.1.length := by
      have h1 := (List.getElem?_eq_some_iff.mp hq).1
      rw [kv_w_len] at h1
      exact h1
    refine ⟨hi, ?_⟩
    have h1 := kv_w_get (ad := ad) (k := k) (h := h) (a := i) (List.getElem?_eq_getElem hi)
    rw [hq] at h1
    cases h1
    rfl
  refine ⟨fun i j p q hp hq hpq => ?_, fun i q hq => ?_⟩
  · obtain ⟨h1, h2⟩ := key i p hp
    obtain ⟨h3, h4⟩ := key j q hq
    exact hinj i j h1 h3 (by rw [← h2, ← h4]; exact hpq)
  · obtain ⟨h1, h2⟩ := key i q hq
    rw [h2]
    exact hA i h1
theorem kz_kvok {sh : List kv_E} {z : Nat → Nat → Int32} {zl : Nat → Nat → Int64} (hok : kz_ok sh = true) (h0 : ∀ a, sh.length ≤ a → (∀ i, z a i = 0) ∧ ∀ i, zl a i = 0) : kv_ok (sh, z, zl) := by
  refine ⟨h0, fun a t l hb => ?_, fun a ci fl hb => ?_⟩
  · have h1 : ((decide (t = 9) || decide (t = 5)) && l.all (kz_ro sh.length)) = true := kz_in hok hb
    rw [Bool.and_eq_true, Bool.or_eq_true] at h1
    rcases h1.1 with h2 | h2
    · exact Or.inl (of_decide_eq_true h2)
    · exact Or.inr (of_decide_eq_true h2)
  · have h1 : (decide (ci < 13) && (decide (fl.length = kv_N ci) && fl.all (fun o => kz_ro sh.length (o.getD none)))) = true := kz_in hok hb
    rw [Bool.and_eq_true, Bool.and_eq_true] at h1
    exact ⟨of_decide_eq_true h1.1, of_decide_eq_true h1.2.1⟩
theorem kz_W {sh : List kv_E} {ad : Nat → Nat} {k : kv_K} {D : va_G} {H : Heap} {z : Nat → Nat → Int32} {zl : Nat → Nat → Int64} (hok : kz_ok sh = true) (hN : sh.length ≤ 291) (hinj : ∀ a b, a < sh.length → b < sh.length → ad a = ad b → a = b) (h0 : ∀ a, sh.length ≤ a → (∀ i, z a i = 0) ∧ ∀ i, zl a i = 0)
    (hP : va_P D kv_cl (kv_w ad k (sh, z, zl)) H) : kv_W (kz_ad ad sh.length H.size) (kz_A ad sh.length H.size) D k (sh, z, zl) H := by
  refine ⟨kz_P (e' := []) (z := z) (zl := zl) hok (fun n hn => kz_ad_lt hn) (fun a _ => ⟨rfl, rfl⟩) (by rw [List.append_nil]; exact hP), kz_D (h := (sh, z, zl)) (fun a b ha hb hab => ?_) (fun a ha => ?_), ?_, kz_kvok hok h0⟩
  · rw [kz_ad_lt ha, kz_ad_lt hb] at hab
    exact hinj a b ha hb hab
  · rw [kz_ad_lt ha]
    exact Or.inl ⟨a, ha, rfl⟩
  · show H.size = kz_ad ad sh.length H.size sh.length
    rw [kz_ad_ge (Nat.le_refl _) hN]
    omega
theorem kz_B {ad ad' : Nat → Nat} {A A' : Nat → Prop} {D : va_G} {k : kv_K} {U : State} {H : Heap} (h : kv_B ad A D k U H) (hA : ∀ q, A' q → A q) (ha : ∀ n, 300 ≤ n → ad' n = ad n) : kv_B ad' A' D k U H := by
  obtain ⟨h1, h2, h3, h4, h5, h6, h7, h8⟩ := h
  refine ⟨h1, h2, h3, h4, fun i hi => ?_, h6.narrow hA, fun q hq => ?_, fun i hi => ?_⟩
  · rw [ha (300 + i) (by omega)]
    exact ⟨(h5 i hi).1.narrow hA, (h5 i hi).2.narrow hA⟩
  · rw [ha (306 + q.2.2) (by omega)]
    exact h7 q hq
  · rw [ha (306 + i) (by omega), ha (306 + i + 4) (by omega), ha (310 + i) (by omega)]
    have h9 := h8 i hi
    exact ⟨h9.1.narrow hA, h9.2.1.narrow hA, h9.2.2.1.narrow hA, h9.2.2.2.narrow hA⟩
section
variable {p : Program} {l : Launch} {e : Env} {R : Room} {s : State} {m : MethodId} {args : Array Value} {below : List Frame} {meth : Method} {c : Code} {H : Heap} {locs : List Loc} {cells slots : Nat} {Q : State → Prop}
variable {cc : ByteArray} {pc : Nat} {LS : Array Slot} {rest st0 : List Value} {D : va_G} {A A0 : Nat → Prop} {ad : Nat → Nat} {k : kv_K}
/-- behind a call of the machine's functions, for a caller of any kind -/
theorem kz_cont {mc ms : Nat} {v : Option Value} {h1 : kv_H} {av : Array Value} {H0 : Heap} (hr : va_Run p l e R s m args below meth c H locs cells slots mc ms (F0 m pc LS st0) rest (kv_Qc ad A D k v h1 av) A) (hS : va_S A0 H0 H locs) (hA : ∀ q, A q → A0 q)
    (kk : ∀ (H1 : Heap) (locs1 : List Loc), kv_W ad A D k h1 H1 → H.size ≤ H1.size → (∀ q : Nat, q < H.size → ¬ A q → H1[q]? = H[q]?) → va_S A0 H0 H1 locs1 → W p l e R s m args below meth c H1 locs1 (cells + mc) (slots + ms) Q (F0 m (pc + 3) LS ((v.map (kv_vr ad)).toList ++ rest))) : W p l e R s m args below meth c H locs cells slots Q (F0 m pc LS st0) := by
  intro T hT X
  obtain ⟨v', st₀, t, T', L, e0, X', hL, e1, e2, ⟨hv, hw, hz, hk⟩, st⟩ := hr T hT X
  have hv' : v' = v.map (kv_vr ad) := by cases hv; rfl
  subst hv'
  rw [e0] at hz hk
  obtain ⟨t2, a1, b1⟩ := kk T'.heap (locs ++ L) (by rw [e1]; exact hw) (by rw [e1]; exact hz) (fun q h1 h2 => by rw [e1]; exact hk q h1 h2) ⟨Nat.le_trans hS.1 (by rw [e1]; exact hz), fun z h1 h2 => by
      rw [e1, hk z (Nat.lt_of_lt_of_le h1 hS.1) (fun q => h2 (hA z q))]
      exact hS.2.1 z h1 h2, fun z hz => by
      rcases List.mem_append.mp hz with h | h
      · exact hS.2.2 z h
      · exact hA _ (hL z h)⟩ T' rfl X'
  exact ⟨t2, st t2 a1, b1⟩
/-- a method of the machine's functions, called by a name (a virtual one) -/
theorem kz_runV {own : String} {idx d j b : Nat} {as' : List Value} {h hF : kv_H} {r : Option Value} {q : kv_M} {nL : Nat} (hx : p.tables.exec = Jvm.exec) (hb : c.code = cc) (hml : c.maxLocals = nL) (hown : s.vm.findClass own = some m.cls) (hts : ∀ w ∈ kv_gW, w.before args s = true) (hlink : (Cond.methodLink own idx (kv_y q)).before args s = true)
    (hq : kv_Ms[j]? = some q) (hsta : q.2.2.2.2.2.2.2 = false) (hni : ¬ q.2.1 = "<init>") (hng : q.2.2.2.2.2.2.1 = as'.length) (hlv : (kv_lv (.ref b :: as')).length ≤ q.2.2.2.2.1) (his : kv_is h.1 b q.1 = true)
    (hB : kv_B ad A D k s s.heap) (hW : kv_W ad A D k h H) (hS : va_S A0 s.heap H locs) (hA0 : ∀ q, A q → A0 q) (hAs : ∀ z, H.size ≤ z → A z) (had : ∀ n, n ≤ 290 → h.1.length ≤ n → ad (n + 1) = ad n + 1) (hAr : ∀ a, a < s.heap.size → ¬ A a → H[a]? = s.heap[a]?)
    (run : kv_Rn d j 0 (kv_en j (.ref b :: as')) [] h = some (r, hF)) (hlsz : LS.size = nL) (hcat : ((rest.map fun v => v.category).sum) ≤ 8) (hdg : decode cc pc = .ok (.invokevirtual idx, 3))
    (hR : d + 2 ≤ R.frames ∧ 8 + (q.2.2.2.2.1 + 11) + (40 * d + 60) ≤ R.locals) (hC : cells + (hF.1.length - h.1.length) ≤ R.cells ∧ slots + (kv_sl hF.1 - kv_sl h.1) ≤ R.slots)
    (kk : ∀ (H1 : Heap) (locs1 : List Loc), kv_W ad A D k hF H1 → H.size ≤ H1.size → (∀ q : Nat, q < H.size → ¬ A q → H1[q]? = H[q]?) → va_S A0 s.heap H1 locs1 → W p l e R s m args below meth c H1 locs1 (cells + (hF.1.length - h.1.length)) (slots + (kv_sl hF.1 - kv_sl h.1)) Q (F0 m (pc + 3) LS ((r.map (kv_vr ad)).toList ++ rest))) :
    W p l e R s m args below meth c H locs cells slots Q (F0 m pc LS ((as'.map (kv_vr ad)).reverse ++ .ref (ad b) :: rest)) := by
  obtain ⟨f, ev⟩ := kv_Rn_iff.mp run
  have hm := List.mem_of_getElem? hq
  have hM := kv_met_of (l := l) (ad := ad) (A := A) (D := D) (k := k) (sz := H.size) (kv_sound hAs had f) hAs had ev hq hlv (Nat.le_refl _)
  have hw8 : (Jvm.Cond.instanceMethod (kv_y q)).before args s = true := kv_hw hts kv_ws_inst (List.mem_map_of_mem (f := fun q : kv_M => Jvm.Cond.instanceMethod (kv_y q)) (List.mem_filter.mpr ⟨hm, by rw [hsta]; rfl⟩)) rfl
  have hw9 : (Jvm.Cond.selects (kv_R q.1) (kv_y q) (kv_y q)).before args s = true := kv_hw hts kv_ws_sel (List.mem_map_of_mem (f := fun q : kv_M => Jvm.Cond.selects (kv_R q.1) (kv_y q) (kv_y q)) (List.mem_filter.mpr ⟨hm, by rw [hsta]; simp [hni]⟩)) rfl
  have ini : (Jvm.Cond.initialized (kv_y q).cls).before args s = true := kv_hw hts kv_ws_init (List.mem_map_of_mem (f := fun n => Jvm.Cond.initialized n) (kv_R_mem _ (kv_M_lt _ hm).1)) rfl
  have hre : ∃ cell : Cell, H[ad b]? = some cell ∧ cell.vm.isStatics = false ∧ s.vm.findClass (kv_R q.1) = some cell.cls := kv_recv hB hW (A := A) (locs := []) ⟨hS.1, hAr, fun _ h => by cases h⟩ his
  have hd := kv_desc_ok q hm
  have bl := kv_blind ad A D k H.size (.ref b :: as') h
  have pc9 : ∀ U : State, U.heap = H → s.WarmedH U.vm → kv_Pc ad A D k H.size (.ref b :: as') h ((Value.ref b :: as').map (kv_vr ad)).toArray U := by
    intro U hU hWm
    refine ⟨rfl, by rw [hU]; exact hW, (hB.warm hWm).kept (fun a y1 y2 => by rw [hU]; exact hAr a y1 y2), by rw [hU]; exact Nat.le_refl _⟩
  refine kz_cont (av := (Value.ref (ad b) :: as'.map (kv_vr ad)).toArray) (va_runV (C := kv_R q.1) ⟨hx, hb, hml, hown, hts⟩ hM ⟨callB_of q.2.2.2.2.2.2.1 hts (kv_good hm) rfl rfl rfl ini hlink hd ⟨by show d + 1 + 1 ≤ R.frames; omega, hR.2⟩, hw8, hw9⟩ ⟨bl, hre, pc9⟩ rfl ?_ hlsz rfl (lv_room hcat) hdg hC) hS hA0 kk
  rw [List.length_map, hng]
end
