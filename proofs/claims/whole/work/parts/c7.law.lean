/-! THE CLAIM OUT OF ONE WALK OF THE LAW'S BODY. Your part is whole_start (and what it stands on); all else here is the same for every law, but numbers. -/
def R_law : String := "KiteVoteLaw"
def lw_P (b : Addr) (xs : List Int32) (args : Array Value) (s : State) : Prop := args = #[.ref b] ∧ s.IntsAt b xs ∧ xs.length ≤ 3072 ∧ (Jvm.Cond.and given_1 narrow_1).before args s = true
def lw_Q (_ : Array Value) (s : State) (o : Outcome) (t : State) : Prop := o = .returned (some (.int 1)) ∧ Framed s o t [] 601024 7293034
def lw_Z (below : List Frame) (a : Array Value) (s : State) : State → Prop := fun t => ∃ o, t.status = .running ∧ Ended t below o ∧ lw_Q a s o t
/-- the law's own end, with 1 on the stack, nothing written that was there before, its room as the claim has it -/
theorem lw_ret {p : Program} {l : Launch} {e : Env} {s : State} {m : MethodId} {below : List Frame} {meth : Method} {c : Code} {b : Nat} (hx : p.tables.exec = Jvm.exec) (hb : c.code = code) (hr : meth.sig.returnType = ret) (hlocks : meth.locks = false) {pc : Nat} {H : Heap} {ls : Array Slot} (hdg : decode code pc = .ok (.ireturn, 1)) : W p l e room_1 s m #[Value.ref b] below meth c H [] 601024 7293034 (lw_Z below #[Value.ref b] s) (F0 m pc ls [.int 1]) := by
  intro T hT X
  obtain ⟨fs, hret, hrun, hended, hW, hframe⟩ := X.leave (v := some (.int 1)) (hlocks := hlocks) (fun h => by rw [hr] at h; cases h)
  have hmeth' : T.vm.method? m = some meth := X.method'
  refine ⟨T.setFrames fs, ?_, .returned (some (.int 1)), hrun, hended, rfl, ⟨_, rfl⟩, hW, hframe⟩
  jvm_step X.here [X.here.top, hx, hb, hdg, hmeth', hr, ret, narrow_b1]
  (try refine ⟨rfl, ?_⟩); (try refine ⟨rfl, ?_⟩)
  first | (intro acts; rw [hret _ acts rfl rfl rfl]) | rw [hret _ _ rfl rfl rfl]
  exact Steps.refl _
/-- what holds at the law's entry: the machine, the code, the tables' words (any of lw_tbl by 'hts w (by decide +kernel)'), the script of L ints xs at the cell b, what the Statement gives of the start (any of its parts by flat_of_before) -/
def lw_At (p : Program) (s : State) (m : MethodId) (meth : Method) (c : Code) (b L : Nat) (xs : Nat → Int32) : Prop :=
  p.tables.exec = Jvm.exec ∧ c.code = code ∧ meth.sig.returnType = ret ∧ c.maxLocals = 7 ∧ s.vm.findClass R_law = some m.cls ∧ (∀ w ∈ lw_tbl, w.before #[Value.ref b] s = true) ∧ va_X b L xs s s.heap ∧ b < s.heap.size ∧ meth.locks = false ∧ (Jvm.Cond.and given_1 narrow_1).before #[Value.ref b] s = true
section
variable {p : Program} {l : Launch} {e : Env} {R : Room} {s : State} {m : MethodId} {args : Array Value} {below : List Frame} {meth : Method} {c : Code} {H : Heap} {locs : List Loc} {cells slots : Nat} {Q : State → Prop}
variable {cc : ByteArray} {pc : Nat} {LS : Array Slot} {rest st0 : List Value} {D : va_G} {ad : Nat → Nat} {k : kv_K}
theorem kz_sl_app (a b : List kv_E) : kv_sl (a ++ b) = kv_sl a + kv_sl b := by simp [kv_sl]
/-- a face method of one side, called by a name: what it makes is dropped -/
theorem kz_face {own : String} {idx d j : Nat} {as' : List Value} {sh e' : List kv_E} {z z' : Nat → Nat → Int32} {zl zl' : Nat → Nat → Int64} {v : Int32} {q : kv_M} {nL : Nat} (hx : p.tables.exec = Jvm.exec) (hb : c.code = cc) (hml : c.maxLocals = nL) (hown : s.vm.findClass own = some m.cls) (hts : ∀ w ∈ kv_gW, w.before args s = true) (hlink : (Cond.methodLink own idx (kv_y q)).before args s = true)
    (hq : kv_Ms[j]? = some q) (hqd : q.2.2.2.2.2.2.2 = false ∧ (¬ q.2.1 = "<init>") ∧ q.2.2.2.2.2.2.1 = as'.length ∧ (kv_lv (.ref 0 :: as')).length ≤ q.2.2.2.2.1) (his : kv_is sh 0 q.1 = true) (hva : ∀ f, as'.map (kv_vr f) = as')
    (hok : kz_ok sh = true) (hN : 0 < sh.length ∧ sh.length ≤ 172) (hinj : ∀ a b, a < sh.length → b < sh.length → ad a = ad b → a = b) (hge : ∀ a, a < sh.length → s.heap.size ≤ ad a) (h0 : ∀ a, sh.length ≤ a → (∀ i, z a i = 0) ∧ ∀ i, zl a i = 0)
    (hB : kv_B ad (fun q : Nat => s.heap.size ≤ q) D k s s.heap) (hP : va_P D kv_cl (kv_w ad k (sh, z, zl)) H) (hS : va_S (fun q : Nat => s.heap.size ≤ q) s.heap H locs)
    (run : kv_Rn d j 0 (kv_en j (.ref 0 :: as')) [] (sh, z, zl) = some (some (.int v), (sh ++ e', z', zl'))) (he : e'.length ≤ 1 ∧ kv_sl e' ≤ 1)
    (hlsz : LS.size = nL) (hcat : ((rest.map fun v => v.category).sum) ≤ 8) (hdg : decode cc pc = .ok (.invokevirtual idx, 3)) (hR : d + 2 ≤ R.frames ∧ 40 + (40 * d + 60) ≤ R.locals) (hC : cells + 1 ≤ R.cells ∧ slots + 1 ≤ R.slots)
    (kk : ∀ (H1 : Heap) (locs1 : List Loc), va_P D kv_cl (kv_w ad k (sh, kz_cz sh.length z', kz_cl sh.length zl')) H1 → (∀ q : Nat, q < H.size → (∀ a, a < sh.length → ¬ q = ad a) → H1[q]? = H[q]?) → va_S (fun q : Nat => s.heap.size ≤ q) s.heap H1 locs1 → W p l e R s m args below meth c H1 locs1 (cells + 1) (slots + 1) Q (F0 m (pc + 3) LS (.int v :: rest))) :
    W p l e R s m args below meth c H locs cells slots Q (F0 m pc LS (as'.reverse ++ .ref (ad 0) :: rest)) := by
  have hA0 : ∀ q, kz_A ad sh.length H.size q → s.heap.size ≤ q := by
    intro q hq
    rcases hq with ⟨a, ha, rfl⟩ | h
    · exact hge a ha
    · exact Nat.le_trans hS.1 h
  have hB' := kz_B (ad' := kz_ad ad sh.length H.size) (A' := kz_A ad sh.length H.size) hB hA0 (fun n hn => kz_ad_st (by omega) hn)
  have hW := kz_W hok (by omega) hinj h0 hP
  have hl1 : (sh ++ e').length - sh.length = e'.length := by rw [List.length_append]; omega
  have hl2 : kv_sl (sh ++ e') - kv_sl sh = kv_sl e' := by rw [kz_sl_app]; omega
  have hm := (kv_M_lt q (List.mem_of_getElem? hq)).2
  have hadn : ∀ n, n ≤ 290 → sh.length ≤ n → kz_ad ad sh.length H.size (n + 1) = kz_ad ad sh.length H.size n + 1 := by
    intro n h1 h2
    rw [kz_ad_ge (N := sh.length) (n := n + 1) (by omega) (by omega), kz_ad_ge (N := sh.length) (n := n) h2 (by omega)]
    omega
  have key := kz_runV (p := p) (l := l) (e := e) (R := R) (s := s) (m := m) (args := args) (below := below) (meth := meth) (c := c) (H := H) (locs := locs) (cells := cells) (slots := slots) (Q := Q) (cc := cc) (pc := pc) (LS := LS) (rest := rest) (A0 := fun q : Nat => s.heap.size ≤ q) (b := 0) (hF := (sh ++ e', z', zl')) hx hb hml hown hts hlink hq hqd.1 hqd.2.1 hqd.2.2.1 hqd.2.2.2 his hB' hW hS hA0
    (fun z hz => Or.inr hz) hadn (fun a ha _ => hS.2.1 a ha (by omega))
    run hlsz hcat hdg ⟨hR.1, by omega⟩ ⟨by show cells + ((sh ++ e').length - sh.length) ≤ R.cells; omega, by show slots + (kv_sl (sh ++ e') - kv_sl sh) ≤ R.slots; omega⟩
    (fun H1 locs1 w1 w2 w3 w4 => W.widen (k := cells + 1) (n := slots + 1) (by show cells + ((sh ++ e').length - sh.length) ≤ _; omega) (by show slots + (kv_sl (sh ++ e') - kv_sl sh) ≤ _; omega)
      (kk H1 locs1 (kz_P (e' := e') (z := z') (zl := zl') hok (fun n hn => (kz_ad_lt hn).symm) (fun a ha => ⟨if_pos ha, if_pos ha⟩) w1.1) (fun q h1 h2 => w3 q h1 (fun h => by
        rcases h with ⟨a, ha, rfl⟩ | h
        · exact h2 a ha rfl
        · omega)) w4))
  rw [hva, kz_ad_lt hN.1] at key
  exact key
end
/-! the law's frame -/
section
variable {p : Program} {l : Launch} {e : Env} {s : State} {m : MethodId} {below : List Frame} {meth : Method} {c : Code} {H : Heap} {locs : List Loc} {cells slots : Nat} {Q : State → Prop}
variable {pc b L oa : Nat} {xs : Nat → Int32} {ls : Array Slot} {rest : List Value} {D : va_G} {adK adM : Nat → Nat} {k : kv_K} {oc : ClassId}
/-- what doesn't change: the frame, the tables' words, the script, the statics, where the cells lie -/
def kz_L (p : Program) (s : State) (m : MethodId) (meth : Method) (c : Code) (b L : Nat) (xs : Nat → Int32) (adK adM : Nat → Nat) (oa : Nat) (D : va_G) (k : kv_K) (oc : ClassId) : Prop :=
  (p.tables.exec = Jvm.exec ∧ c.code = code ∧ c.maxLocals = 7 ∧ s.vm.findClass R_law = some m.cls ∧ meth.sig.returnType = ret ∧ meth.locks = false) ∧
  (∀ w ∈ lw_tbl, w.before #[Value.ref b] s = true) ∧ (va_X b L xs s s.heap ∧ b < s.heap.size ∧ L ≤ 3072) ∧
  (kv_B adK (fun q : Nat => s.heap.size ≤ q) D k s s.heap ∧ kv_B adM (fun q : Nat => s.heap.size ≤ q) D k s s.heap) ∧
  ((∀ a b, a < 172 → b < 172 → adK a = adK b → a = b) ∧ (∀ a b, a < 26 → b < 26 → adM a = adM b → a = b) ∧ (∀ a, a < 172 → s.heap.size ≤ adK a) ∧ (∀ a, a < 26 → s.heap.size ≤ adM a) ∧ s.heap.size ≤ oa) ∧
  ((∀ a b, a < 172 → b < 26 → ¬ adK a = adM b) ∧ (∀ a, a < 172 → ¬ adK a = oa) ∧ (∀ a, a < 26 → ¬ adM a = oa)) ∧ va_K D kv_cl [(oc, .long)] s
/-- what the three worlds hold -/
def kz_H (adK adM : Nat → Nat) (oa : Nat) (D : va_G) (k : kv_K) (oc : ClassId) (zK zM : Nat → Nat → Int32) (zlK zlM : Nat → Nat → Int64) (out : Nat → Int64) (H : Heap) : Prop :=
  va_P D kv_cl (kv_w adK k (kv_shK, zK, zlK)) H ∧ va_P D kv_cl (kv_w adM k (kv_shM, zM, zlM)) H ∧ va_P D kv_cl [(oa, .inl (oc, 1, .inr (.inl out)))] H ∧
  (∀ a, 172 ≤ a → (∀ i, zK a i = 0) ∧ ∀ i, zlK a i = 0) ∧ ∀ a, 26 ≤ a → (∀ i, zM a i = 0) ∧ ∀ i, zlM a i = 0
theorem kz_cut0 (N : Nat) (z : Nat → Nat → Int32) (zl : Nat → Nat → Int64) : ∀ a, N ≤ a → (∀ i, kz_cz N z a i = 0) ∧ ∀ i, kz_cl N zl a i = 0 := by
  intro a ha
  unfold kz_cz kz_cl
  rw [if_neg (by omega), if_neg (by omega)]
  exact ⟨fun _ => rfl, fun _ => rfl⟩
theorem kz_keepP {ws : va_W} {H1 : Heap} (h : va_P D kv_cl ws H) (hq : ∀ q ∈ ws, H1[q.1]? = H[q.1]?) : va_P D kv_cl ws H1 := h.kept (fun _ q hk => hq q (List.mem_of_getElem? hk))
theorem kz_inW {ad : Nat → Nat} {h : kv_H} {q : Nat × va_E} (hq : q ∈ kv_w ad k h) : ∃ a, a < h.1.length ∧ q.1 = ad a := by
  unfold kv_w at hq
  obtain ⟨a, ha, rfl⟩ := List.mem_map.mp hq
  exact ⟨a, List.mem_range.mp ha, rfl⟩
theorem kz_ltW {ad : Nat → Nat} {sh : List kv_E} {z : Nat → Nat → Int32} {zl : Nat → Nat → Int64} (h : va_P D kv_cl (kv_w ad k (sh, z, zl)) H) {a : Nat} (ha : a < sh.length) : ad a < H.size := by
  have he : sh[a]? = some sh[a] := List.getElem?_eq_getElem ha
  exact (h a _ (kv_w_get (ad := ad) (k := k) (h := (sh, z, zl)) (a := a) he)).lt
/-- the class's own call in the law -/
theorem kz_callK {idx j : Nat} {as' : List Value} {e' : List kv_E} {zK zM z' : Nat → Nat → Int32} {zlK zlM zl' : Nat → Nat → Int64} {out : Nat → Int64} {v : Int32} {q : kv_M} (F : kz_L p s m meth c b L xs adK adM oa D k oc) (hlink : Cond.methodLink R_law idx (kv_y q) ∈ lw_tbl)
    (hq : kv_Ms[j]? = some q) (hqd : q.2.2.2.2.2.2.2 = false ∧ (¬ q.2.1 = "<init>") ∧ q.2.2.2.2.2.2.1 = as'.length ∧ (kv_lv (.ref 0 :: as')).length ≤ q.2.2.2.2.1) (his : q.1 = 11) (hva : ∀ f, as'.map (kv_vr f) = as')
    (hH : kz_H adK adM oa D k oc zK zM zlK zlM out H) (hS : va_S (fun q : Nat => s.heap.size ≤ q) s.heap H locs)
    (run : kv_Rn 132 j 0 (kv_en j (.ref 0 :: as')) [] (kv_shK, zK, zlK) = some (some (.int v), (kv_shK ++ e', z', zl'))) (he : e'.length ≤ 1 ∧ kv_sl e' ≤ 1)
    (hlsz : ls.size = 7) (hcat : ((rest.map fun v => v.category).sum) ≤ 8) (hdg : decode code pc = .ok (.invokevirtual idx, 3)) (hC : cells + 1 ≤ 601024 ∧ slots + 1 ≤ 7293034)
    (kk : ∀ (H1 : Heap) (locs1 : List Loc), kz_H adK adM oa D k oc (kz_cz 172 z') zM (kz_cl 172 zl') zlM out H1 → va_S (fun q : Nat => s.heap.size ≤ q) s.heap H1 locs1 → W p l e room_1 s m #[Value.ref b] below meth c H1 locs1 (cells + 1) (slots + 1) Q (F0 m (pc + 3) ls (.int v :: rest))) :
    W p l e room_1 s m #[Value.ref b] below meth c H locs cells slots Q (F0 m pc ls (as'.reverse ++ .ref (adK 0) :: rest)) := by
  obtain ⟨⟨hx, hb, hml, hown, hr, hlk⟩, hts, hXs, ⟨hBK, hBM⟩, ⟨iK, iM, gK, gM, go⟩, ⟨dKM, dKo, dMo⟩, hKo⟩ := F
  obtain ⟨hPK, hPM, hPo, zK0, zM0⟩ := hH
  have hlen := kz_lenK
  refine kz_face (k := k) hx hb hml hown (fun w hw => hts w (List.mem_filter.mp hw).1) (hts _ hlink) hq hqd (by rw [his]; decide +kernel) hva kz_okK (by omega) (by rw [hlen]; exact iK) (by rw [hlen]; exact gK) (by rw [hlen]; exact zK0) hBK hPK hS run he hlsz hcat hdg ⟨by decide, by decide⟩ hC (fun H1 locs1 w1 w2 w3 => kk H1 locs1 ⟨by rw [hlen] at w1; exact w1, kz_keepP hPM (fun x hx => ?_), kz_keepP hPo (fun x hx => ?_), kz_cut0 172 _ _, zM0⟩ w3)
  · obtain ⟨a, ha, e1⟩ := kz_inW hx
    have ha : a < 26 := ha
    rw [e1]
    exact w2 _ (kz_ltW hPM ha) (fun a2 ha2 => by rw [hlen] at ha2; exact fun h => dKM a2 a ha2 ha h.symm)
  · have hx := List.mem_singleton.mp hx
    subst hx
    exact w2 _ (hPo 0 _ rfl).lt (fun a2 ha2 => by rw [hlen] at ha2; exact fun h => dKo a2 ha2 h.symm)
theorem kz_callM {idx j : Nat} {as' : List Value} {zK zM z' : Nat → Nat → Int32} {zlK zlM zl' : Nat → Nat → Int64} {out : Nat → Int64} {v : Int32} {q : kv_M} (F : kz_L p s m meth c b L xs adK adM oa D k oc) (hlink : Cond.methodLink R_law idx (kv_y q) ∈ lw_tbl)
    (hq : kv_Ms[j]? = some q) (hqd : q.2.2.2.2.2.2.2 = false ∧ (¬ q.2.1 = "<init>") ∧ q.2.2.2.2.2.2.1 = as'.length ∧ (kv_lv (.ref 0 :: as')).length ≤ q.2.2.2.2.1) (his : q.1 = 12) (hva : ∀ f, as'.map (kv_vr f) = as')
    (hH : kz_H adK adM oa D k oc zK zM zlK zlM out H) (hS : va_S (fun q : Nat => s.heap.size ≤ q) s.heap H locs)
    (run : kv_Rn 132 j 0 (kv_en j (.ref 0 :: as')) [] (kv_shM, zM, zlM) = some (some (.int v), (kv_shM, z', zl')))
    (hlsz : ls.size = 7) (hcat : ((rest.map fun v => v.category).sum) ≤ 8) (hdg : decode code pc = .ok (.invokevirtual idx, 3)) (hC : cells + 1 ≤ 601024 ∧ slots + 1 ≤ 7293034)
    (kk : ∀ (H1 : Heap) (locs1 : List Loc), kz_H adK adM oa D k oc zK (kz_cz 26 z') zlK (kz_cl 26 zl') out H1 → va_S (fun q : Nat => s.heap.size ≤ q) s.heap H1 locs1 → W p l e room_1 s m #[Value.ref b] below meth c H1 locs1 (cells + 1) (slots + 1) Q (F0 m (pc + 3) ls (.int v :: rest))) :
    W p l e room_1 s m #[Value.ref b] below meth c H locs cells slots Q (F0 m pc ls (as'.reverse ++ .ref (adM 0) :: rest)) := by
  obtain ⟨⟨hx, hb, hml, hown, hr, hlk⟩, hts, hXs, ⟨hBK, hBM⟩, ⟨iK, iM, gK, gM, go⟩, ⟨dKM, dKo, dMo⟩, hKo⟩ := F
  obtain ⟨hPK, hPM, hPo, zK0, zM0⟩ := hH
  have hlen := kz_lenM
  refine kz_face (k := k) (e' := []) hx hb hml hown (fun w hw => hts w (List.mem_filter.mp hw).1) (hts _ hlink) hq hqd (by rw [his]; decide +kernel) hva kz_okM (by omega) (by rw [hlen]; exact iM) (by rw [hlen]; exact gM) (by rw [hlen]; exact zM0) hBM hPM hS (by rw [List.append_nil]; exact run) ⟨by decide, by decide⟩ hlsz hcat hdg ⟨by decide, by decide⟩ hC (fun H1 locs1 w1 w2 w3 => kk H1 locs1 ⟨kz_keepP hPK (fun x hx => ?_), by rw [hlen] at w1; exact w1, kz_keepP hPo (fun x hx => ?_), zK0, kz_cut0 26 _ _⟩ w3)
  · obtain ⟨a, ha, e1⟩ := kz_inW hx
    have ha : a < 172 := ha
    rw [e1]
    exact w2 _ (kz_ltW hPK ha) (fun a2 ha2 => by rw [hlen] at ha2; exact dKM a a2 ha ha2)
  · have hx := List.mem_singleton.mp hx
    subst hx
    exact w2 _ (hPo 0 _ rfl).lt (fun a2 ha2 => by rw [hlen] at ha2; exact fun h => dMo a2 ha2 h.symm)
end
