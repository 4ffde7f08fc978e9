/-! the two constructors, the row, and the law from its entry -/
section
variable {p : Program} {l : Launch} {e : Env} {R : Room} {s : State} {m : MethodId} {args : Array Value} {below : List Frame} {meth : Method} {c : Code} {H : Heap} {locs : List Loc} {cells slots : Nat} {Q : State → Prop}
variable {cc : ByteArray} {pc : Nat} {LS : Array Slot} {rest st0 : List Value} {D : va_G} {A A0 : Nat → Prop} {ad : Nat → Nat} {k : kv_K}
/-- a constructor of the machine's functions -/
theorem kz_runI {own : String} {idx d j b : Nat} {h hF : kv_H} {q : kv_M} {nL : Nat} (hx : p.tables.exec = Jvm.exec) (hb : c.code = cc) (hml : c.maxLocals = nL) (hown : s.vm.findClass own = some m.cls) (hts : ∀ w ∈ kv_gW, w.before args s = true) (hlink : (Cond.methodLink own idx (kv_y q)).before args s = true)
    (hq : kv_Ms[j]? = some q) (hsta : q.2.2.2.2.2.2.2 = false) (hini : (kv_y q).name = "<init>" ∧ q.2.2.2.2.2.1 = none) (hng : q.2.2.2.2.2.2.1 = 0) (hlv : 1 ≤ q.2.2.2.2.1)
    (hB : kv_B ad A D k s s.heap) (hW : kv_W ad A D k h H) (hS : va_S A0 s.heap H locs) (hA0 : ∀ q, A q → A0 q) (hAs : ∀ z, H.size ≤ z → A z) (had : ∀ n, n ≤ 290 → h.1.length ≤ n → ad (n + 1) = ad n + 1) (hAr : ∀ a, a < s.heap.size → ¬ A a → H[a]? = s.heap[a]?)
    (run : kv_Rn d j 0 (kv_en j [.ref b]) [] h = some (none, hF)) (hlsz : LS.size = nL) (hcat : ((rest.map fun v => v.category).sum) ≤ 8) (hdg : decode cc pc = .ok (.invokespecial idx, 3))
    (hR : d + 2 ≤ R.frames ∧ 8 + (q.2.2.2.2.1 + 11) + (40 * d + 60) ≤ R.locals) (hC : cells + (hF.1.length - h.1.length) ≤ R.cells ∧ slots + (kv_sl hF.1 - kv_sl h.1) ≤ R.slots)
    (kk : ∀ (H1 : Heap) (locs1 : List Loc), kv_W ad A D k hF H1 → H.size ≤ H1.size → (∀ q : Nat, q < H.size → ¬ A q → H1[q]? = H[q]?) → va_S A0 s.heap H1 locs1 → W p l e R s m args below meth c H1 locs1 (cells + (hF.1.length - h.1.length)) (slots + (kv_sl hF.1 - kv_sl h.1)) Q (F0 m (pc + 3) LS rest)) :
    W p l e R s m args below meth c H locs cells slots Q (F0 m pc LS (.ref (ad b) :: rest)) := by
  obtain ⟨f, ev⟩ := kv_Rn_iff.mp run
  have hm := List.mem_of_getElem? hq
  have hM := kv_met_of (l := l) (ad := ad) (A := A) (D := D) (k := k) (sz := H.size) (kv_sound hAs had f) hAs had ev hq (by show (kv_lv [.ref b]).length ≤ _; exact hlv) (Nat.le_refl _)
  have hw8 : (Jvm.Cond.instanceMethod (kv_y q)).before args s = true := kv_hw hts kv_ws_inst (List.mem_map_of_mem (f := fun q : kv_M => Jvm.Cond.instanceMethod (kv_y q)) (List.mem_filter.mpr ⟨hm, by rw [hsta]; rfl⟩)) rfl
  have ini : (Jvm.Cond.initialized (kv_y q).cls).before args s = true := kv_hw hts kv_ws_init (List.mem_map_of_mem (f := fun n => Jvm.Cond.initialized n) (kv_R_mem _ (kv_M_lt _ hm).1)) rfl
  have hd := kv_desc_ok q hm
  have bl := kv_blind ad A D k H.size [.ref b] h
  have pc9 : ∀ U : State, U.heap = H → s.WarmedH U.vm → kv_Pc ad A D k H.size [.ref b] h ([Value.ref b].map (kv_vr ad)).toArray U := by
    intro U hU hWm
    refine ⟨rfl, by rw [hU]; exact hW, (hB.warm hWm).kept (fun a y1 y2 => by rw [hU]; exact hAr a y1 y2), by rw [hU]; exact Nat.le_refl _⟩
  exact kz_cont (av := ([Value.ref (ad b)]).toArray) (va_runI (As := []) (rest := rest) ⟨hx, hb, hml, hown, hts⟩ hM ⟨callB_of q.2.2.2.2.2.2.1 hts (kv_good hm) (by rw [← hini.2]; rfl) rfl rfl ini hlink hd ⟨by show d + 1 + 1 ≤ R.frames; omega, hR.2⟩, hini.1, hw8⟩ ⟨bl, pc9⟩ rfl hng.symm hlsz rfl (lv_room hcat) hdg hC) hS hA0 kk
end
theorem kz_of_chk {f d j ci : Nat} {sh : List kv_E} {zf : Nat → Nat → Int32} (h : kv_chk f d j ci sh zf = true) : ∃ (z : Nat → Nat → Int32) (zl : Nat → Nat → Int64), kv_Rn d j 0 (kv_en j [.ref 0]) [] ([.inr (.inr (ci, kv_fl ci))], fun _ _ => 0, fun _ _ => 0) = some (none, (sh, z, zl)) ∧ ∀ a, a < sh.length → ∀ i, i < kv_szE (sh.getD a (.inl 0)) → z a i = zf a i ∧ zl a i = 0 := by
  unfold kv_chk at h
  split at h
  · rename_i sh' z zl hev
    rw [Bool.and_eq_true] at h
    have h1 : sh' = sh := of_decide_eq_true h.1
    subst h1
    refine ⟨z, zl, kv_Rn_iff.mpr ⟨f, hev⟩, fun a ha i hi => ?_⟩
    have h2 := List.all_eq_true.mp h.2 a (List.mem_range.mpr ha)
    have h3 := List.all_eq_true.mp h2 i (List.mem_range.mpr hi)
    rw [Bool.and_eq_true] at h3
    exact ⟨of_decide_eq_true h3.1, of_decide_eq_true h3.2⟩
  · cases h
theorem kz_arrV {cI : ClassId} {N : Nat} {f g : Nat → Value} (h : ∀ j, j < N → f j = g j) : arrV cI N f = arrV cI N g := by
  unfold arrV
  congr 2
  funext j
  exact h j.1 j.2
/-- what lies in range is all that a world asks -/
theorem kz_Pz {sh : List kv_E} {ad : Nat → Nat} {k : kv_K} {D : va_G} {H : Heap} {z z' : Nat → Nat → Int32} {zl zl' : Nat → Nat → Int64} (hz : ∀ a, a < sh.length → ∀ i, i < kv_szE (sh.getD a (.inl 0)) → z a i = z' a i ∧ zl a i = zl' a i) (hP : va_P D kv_cl (kv_w ad k (sh, z, zl)) H) : va_P D kv_cl (kv_w ad k (sh, z', zl')) H := by
  intro i q hq
  have hi : i < sh.length := by
    have h1 := (List.getElem?_eq_some_iff.mp hq).1
    rw [kv_w_len] at h1
    exact h1
  obtain ⟨x, he⟩ : ∃ x, sh[i]? = some x := ⟨_, List.getElem?_eq_getElem hi⟩
  have h1 := kv_w_get (ad := ad) (k := k) (h := (sh, z', zl')) (a := i) he
  have h2 := hP i _ (kv_w_get (ad := ad) (k := k) (h := (sh, z, zl)) (a := i) he)
  have h3 := hz i hi
  rw [List.getD_eq_getElem?_getD, he] at h3
  have h3 : ∀ j, j < kv_szE x → z i j = z' i j ∧ zl i j = zl' i j := h3
  rw [hq] at h1
  cases h1
  rcases x with n | ⟨t, l⟩ | ⟨ci, fl⟩
  · have h4 : H[ad i]? = some (vp_cell k.1 (n, .inl (z i))) := h2
    show H[ad i]? = some (vp_cell k.1 (n, .inl (z' i)))
    rw [h4, vp_cell_i, vp_cell_i]
    exact congrArg some (kz_arrV (fun j hj => by rw [(h3 j hj).1]))
  · exact h2
  · have e9 : kv_c ad k (sh, z', zl') i (.inr (.inr (ci, fl))) = kv_c ad k (sh, z, zl) i (.inr (.inr (ci, fl))) := by
      simp only [kv_c]
      congr 2
      refine List.map_congr_left (fun j hj => ?_)
      have hj : j < fl.length := List.mem_range.mp hj
      simp only [kv_fv]
      rw [(h3 j hj).1, (h3 j hj).2]
    rw [e9]
    exact h2
/-- a fresh object's fields -/
def kz_fs (c : Nat) : List Value := (List.range (kv_fl c).length).map (kv_fv (fun _ => 0) ([], fun _ _ => 0, fun _ _ => 0) 0 c (kv_fl c))
theorem kz_fs_ok : ∀ c, c = 11 ∨ c = 12 → (∀ j, j < kv_N c → defaultValue (kv_Ty c j) = vp_V (kz_fs c) j) ∧ kz_rf 0 (.inr (.inr (c, kv_fl c))) = true ∧ kz_ok [.inr (.inr (c, kv_fl c))] = true := by
  rintro c (rfl | rfl)
  · exact ⟨by decide +kernel, by decide +kernel, by decide +kernel⟩
  · exact ⟨by decide +kernel, by decide +kernel, by decide +kernel⟩
theorem kz_w1o {c : Nat} (hc : c = 11 ∨ c = 12) {ad : Nat → Nat} {k : kv_K} : kv_w ad k ([.inr (.inr (c, kv_fl c))], fun _ _ => 0, fun _ _ => 0) = [(ad 0, .inr (c, kz_fs c))] := by
  show [(ad 0, kv_c ad k ([.inr (.inr (c, kv_fl c))], fun _ _ => 0, fun _ _ => 0) 0 (.inr (.inr (c, kv_fl c))))] = _
  exact congrArg (fun x => [(ad 0, x)]) (kz_c (N := 0) (ad := fun _ => 0) (ad' := ad) (k := k) (h := ([], fun _ _ => 0, fun _ _ => 0)) (h' := ([.inr (.inr (c, kv_fl c))], fun _ _ => 0, fun _ _ => 0)) (a := 0) (fun n hn => absurd hn (by omega)) (kz_fs_ok c hc).2.1 rfl rfl)
theorem kz_jL_0 : decode code 0 = .ok (.new 8, 3) := by decide +kernel
theorem kz_jL_3 : decode code 3 = .ok (.dup, 1) := by decide +kernel
theorem kz_jL_4 : decode code 4 = .ok (.invokespecial 15, 3) := by decide +kernel
theorem kz_jL_7 : decode code 7 = .ok (.astore_n 1, 1) := by decide +kernel
theorem kz_jL_8 : decode code 8 = .ok (.new 16, 3) := by decide +kernel
theorem kz_jL_11 : decode code 11 = .ok (.dup, 1) := by decide +kernel
theorem kz_jL_12 : decode code 12 = .ok (.invokespecial 18, 3) := by decide +kernel
theorem kz_jL_15 : decode code 15 = .ok (.astore_n 2, 1) := by decide +kernel
theorem kz_jL_16 : decode code 16 = .ok (.iconst 1, 1) := by decide +kernel
theorem kz_jL_17 : decode code 17 = .ok (.newarray .long, 2) := by decide +kernel
theorem kz_jL_19 : decode code 19 = .ok (.astore_n 3, 1) := by decide +kernel
theorem kz_jL_20 : decode code 20 = .ok (.iconst 0, 1) := by decide +kernel
theorem kz_jL_21 : decode code 21 = .ok (.istore 4, 2) := by decide +kernel
theorem kz_s1 : Cond.classLink R_law 8 (kv_R 11) ∈ lw_tbl := List.mem_of_getElem? (i := 126) (by decide +kernel)
theorem kz_s2 : Cond.classLink R_law 16 (kv_R 12) ∈ lw_tbl := List.mem_of_getElem? (i := 1191) (by decide +kernel)
theorem kz_s3 : Cond.methodLink R_law 15 (kv_y (kv_Ms.getD 81 kv_dM)) ∈ lw_tbl := List.mem_of_getElem? (i := 128) (by decide +kernel)
theorem kz_s4 : Cond.methodLink R_law 18 (kv_y (kv_Ms.getD 151 kv_dM)) ∈ lw_tbl := List.mem_of_getElem? (i := 1193) (by decide +kernel)
theorem kz_s5 : Cond.arrayClass .long ∈ lw_tbl := List.mem_of_getElem? (i := 1821) (by decide +kernel)
theorem kz_s6 (c : Nat) (h : c < 13) : Cond.instantiable (kv_R c) (kv_N c) ∈ lw_tbl := kv_ws_ins _ (List.mem_map_of_mem (f := fun c => Cond.instantiable (kv_R c) (kv_N c)) (List.mem_range.mpr h))
theorem kz_s7 : Cond.initialized (kv_R 11) ∈ lw_tbl ∧ Cond.initialized (kv_R 12) ∈ lw_tbl := ⟨kv_ws_init _ (List.mem_map_of_mem (f := fun n => Jvm.Cond.initialized n) (kv_R_mem _ (by omega))), kv_ws_init _ (List.mem_map_of_mem (f := fun n => Jvm.Cond.initialized n) (kv_R_mem _ (by omega)))⟩
theorem kz_g81 : kv_Ms[81]? = some (kv_Ms.getD 81 kv_dM) := by rw [List.getD_eq_getElem?_getD, List.getElem?_eq_getElem (by decide +kernel)]; rfl
theorem kz_g151 : kv_Ms[151]? = some (kv_Ms.getD 151 kv_dM) := by rw [List.getD_eq_getElem?_getD, List.getElem?_eq_getElem (by decide +kernel)]; rfl
theorem kz_q81 : (kv_Ms.getD 81 kv_dM).2.2.2.2.2.2.2 = false ∧ ((kv_y (kv_Ms.getD 81 kv_dM)).name = "<init>" ∧ (kv_Ms.getD 81 kv_dM).2.2.2.2.2.1 = none) ∧ (kv_Ms.getD 81 kv_dM).2.2.2.2.2.2.1 = 0 ∧ 1 ≤ (kv_Ms.getD 81 kv_dM).2.2.2.2.1 := by decide +kernel
theorem kz_q151 : (kv_Ms.getD 151 kv_dM).2.2.2.2.2.2.2 = false ∧ ((kv_y (kv_Ms.getD 151 kv_dM)).name = "<init>" ∧ (kv_Ms.getD 151 kv_dM).2.2.2.2.2.1 = none) ∧ (kv_Ms.getD 151 kv_dM).2.2.2.2.2.2.1 = 0 ∧ 1 ≤ (kv_Ms.getD 151 kv_dM).2.2.2.2.1 := by decide +kernel
theorem kz_slK : kv_sl kv_shK ≤ 10000 := by decide +kernel
theorem kz_slM : kv_sl kv_shM ≤ 20000 := by decide +kernel
theorem kz_z0K0 : ∀ a, 172 ≤ a → (∀ i, kv_z0K a i = 0) ∧ ∀ i, (fun _ _ => 0 : Nat → Nat → Int64) a i = 0 := by
  intro a ha
  refine ⟨fun i => ?_, fun _ => rfl⟩
  unfold kv_z0K
  rw [if_neg (by omega)]
theorem kz_z0M0 : ∀ a, 26 ≤ a → (∀ i, kv_z0M a i = 0) ∧ ∀ i, (fun _ _ => 0 : Nat → Nat → Int64) a i = 0 := by
  intro a ha
  refine ⟨fun i => ?_, fun _ => rfl⟩
  unfold kv_z0M
  rw [if_neg (by omega)]
/-- a side, made: its cells, told anew -/
theorem kz_made {sh : List kv_E} {ad : Nat → Nat} {A : Nat → Prop} {k : kv_K} {D : va_G} {H : Heap} {z zf : Nat → Nat → Int32} {zl : Nat → Nat → Int64} (hz : ∀ a, a < sh.length → ∀ i, i < kv_szE (sh.getD a (.inl 0)) → z a i = zf a i ∧ zl a i = 0) (hW : kv_W ad A D k (sh, z, zl) H) : va_P D kv_cl (kv_w ad k (sh, zf, fun _ _ => 0)) H ∧ va_D A (kv_w ad k (sh, zf, fun _ _ => 0)) := by
  refine ⟨kz_Pz (z := z) (zl := zl) hz hW.1, ?_⟩
  have e9 : ∀ (i : Nat) (q : Nat × va_E), (kv_w ad k (sh, zf, fun _ _ => 0))[i]? = some q → ∃ q', (kv_w ad k (sh, z, zl))[i]? = some q' ∧ q'.1 = q.1 := by
    intro i q hq
    have hi : i < sh.length := by
      have h1 := (List.getElem?_eq_some_iff.mp hq).1
      rw [kv_w_len] at h1
      exact h1
    obtain ⟨x, he⟩ : ∃ x, sh[i]? = some x := ⟨_, List.getElem?_eq_getElem hi⟩
    have h1 := kv_w_get (ad := ad) (k := k) (h := (sh, zf, fun _ _ => 0)) (a := i) he
    rw [hq] at h1
    cases h1
    exact ⟨_, kv_w_get (ad := ad) (k := k) (h := (sh, z, zl)) (a := i) he, rfl⟩
  refine ⟨fun i j p q hp hq hpq => ?_, fun i q hq => ?_⟩
  · obtain ⟨p', h1, h2⟩ := e9 i p hp
    obtain ⟨q', h3, h4⟩ := e9 j q hq
    exact hW.2.1.1 i j p' q' h1 h3 (by rw [h2, h4]; exact hpq)
  · obtain ⟨q', h1, h2⟩ := e9 i q hq
    have := hW.2.1.2 i q' h1
    rw [h2] at this
    exact this
theorem kz_at {sh : List kv_E} {ad : Nat → Nat} {k : kv_K} {z : Nat → Nat → Int32} {zl : Nat → Nat → Int64} {a : Nat} (ha : a < sh.length) : ∃ x, (kv_w ad k (sh, z, zl))[a]? = some (ad a, x) := by
  obtain ⟨x, he⟩ : ∃ x, sh[a]? = some x := ⟨_, List.getElem?_eq_getElem ha⟩
  exact ⟨_, kv_w_get (ad := ad) (k := k) (h := (sh, z, zl)) (a := a) he⟩
set_option maxHeartbeats 8000000 in
set_option maxRecDepth 100000 in
theorem kz_start {S : (Nat → Nat → Int32) → (Nat → Nat → Int32) → Prop} (hSc : kz_cutS S) (hThr : ∀ z zl, kv_Rn 132 152 0 (kv_en 152 [.ref 0]) [] (kv_shM, z, zl) = some (some (.int (z 0 0)), (kv_shM, z, zl))) (hS0 : S kv_z0K kv_z0M)
    (hstep : ∀ (v : Nat) (t : kz_Row), kz_Tb[v]? = some (some t) → ∀ (xs : Nat → Int32) (i : Nat) (zK zM : Nat → Nat → Int32) (zlK zlM : Nat → Nat → Int64), S zK zM → kz_A2 S t.2.2.2.2.2.1 t.2.2.2.2.2.2 (kz_as xs i t.1) zK zM zlK zlM)
    (hgust : ∀ (x : Int32) (V : Int64) (zK zM : Nat → Nat → Int32) (zlK zlM : Nat → Nat → Int64), S zK zM → kz_A2 S 102 232 [.int x, .long V] zK zM zlK zlM)
    (hkite : ∀ (x w : Int32) (zK zM : Nat → Nat → Int32) (zlK zlM : Nat → Nat → Int64), S zK zM → kz_KH S zK zM zlK zlM x w)
    {p : Program} {e : Env} {s : State} {m : MethodId} {below : List Frame} {meth : Method} {c : Code} (l : Launch) (hflags : l.flags = flags0) {b L : Nat} {xs : Nat → Int32} (hL : L ≤ 3072) (C0 : lw_At p s m meth c b L xs) : W p l e room_1 s m #[Value.ref b] below meth c s.heap [] 0 0 (lw_Z below #[Value.ref b] s) (entryFrame m ([Value.ref b] : List Value).toArray 7) := by
  obtain ⟨hx, hb, hr, hml, hown, hts, hX, hbl, hlocks, hgv⟩ := id C0
  have hlt : l.stackTraces = false := by
    unfold Launch.stackTraces
    rw [hflags]
    decide +kernel
  have hs : ∀ w ∈ kz_G, w.before #[Value.ref b] s = true := flat_of_before _ hgv
  have hAn : ∀ a : Nat, a < s.heap.size → ¬ (fun q : Nat => s.heap.size ≤ q) a := fun a ha h => by
    have h : s.heap.size ≤ a := h
    omega
  have hA : ∀ q : Nat, s.heap.size ≤ q → (fun q : Nat => s.heap.size ≤ q) q := fun _ h => h
  have hT := kz_T0 (A := fun q : Nat => s.heap.size ≤ q) hts hs hAn
  obtain ⟨D, k, hK⟩ := kz_K0 hts
  obtain ⟨ad0, hB0⟩ := kz_B0 (A := fun q : Nat => s.heap.size ≤ q) hts hs hAn hK
  have hgw : ∀ w ∈ kv_gW, w.before #[Value.ref b] s = true := fun w hw => hts w (List.mem_filter.mp hw).1
  have hKe : va_K D kv_cl [] s := ⟨hK.1, fun i q h => by simp at h⟩
  have hl9 := lv_entry ([.ref b]) (n := 7) (Nat.le_of_ble_eq_true rfl)
  rw [lg_entry_eq]
  generalize (lg_sl ([.ref b]) ++ List.replicate (7 - (lg_sl ([.ref b])).length) Slot.unset).toArray = ls at hl9 ⊢
  have hl : lv_has ls 7 [(0, .ref b)] := hl9
  obtain ⟨zA, zlA, runA, hzA⟩ := kz_of_chk kv_chkK
  obtain ⟨zB, zlB, runB, hzB⟩ := kz_of_chk kv_chkM
  have nK : kv_N 11 = 14 := by decide +kernel
  have nM : kv_N 12 = 43 := by decide +kernel
  -- the class's object
  refine va_new (ci := 11) (fs := kz_fs 11) (C := kv_R 11) (T := kv_T 11) (N := kv_N 11) (A := fun q : Nat => s.heap.size ≤ q) (ws := []) hx hb hts (fun w hw => kv_ws_lay w (List.mem_flatMap.mpr ⟨11, List.mem_range.mpr (by omega), hw⟩)) (kv_Ty 11) (kv_ty_ok 11 (by omega)) hown (hts _ kz_s1) (hts _ (kz_s6 11 (by omega))) (hts _ kz_s7.1) hKe (fun i q h => by simp at h) ⟨fun i j p q h => by simp at h, fun i q h => by simp at h⟩ va_S.rf hA (kv_cl_at (by omega)) (kz_fs_ok 11 (Or.inl rfl)).1 (by show 0 + 1 ≤ 601024; omega) (by rw [nK]; show 0 + 14 ≤ 7293034; omega) kz_jL_0 (fun qK H1 hP1 hD1 hS1 => ?_)
  refine lv_dup hx hb kz_jL_3 rfl ?_
  obtain ⟨a1, ea1⟩ : ∃ a1 : Nat → Nat, a1 = fun n => if n = 0 then qK else ad0 n := ⟨_, rfl⟩
  have a10 : a1 0 = qK := by rw [ea1]; rfl
  have a1s : ∀ n, 300 ≤ n → a1 n = ad0 n := fun n hn => by rw [ea1]; exact if_neg (by omega)
  have hqK : s.heap.size ≤ qK := hD1.2 0 _ rfl
  have hqK1 : qK < H1.size := (hP1 0 _ rfl).lt
  have hW1 : kv_W (kz_ad a1 1 H1.size) (kz_A a1 1 H1.size) D k ([.inr (.inr (11, kv_fl 11))], fun _ _ => 0, fun _ _ => 0) H1 := kz_W (sh := [.inr (.inr (11, kv_fl 11))]) (kz_fs_ok 11 (Or.inl rfl)).2.2 (by decide) (fun a b ha hb _ => by have ha : a < 1 := ha; have hb : b < 1 := hb; omega) (fun a _ => ⟨fun _ => rfl, fun _ => rfl⟩) (by rw [kz_w1o (Or.inl rfl), a10]; exact hP1)
  have hA1 : ∀ q, kz_A a1 1 H1.size q → s.heap.size ≤ q := by
    intro q hq
    rcases hq with ⟨a, ha, rfl⟩ | h
    · rw [show a = 0 by omega, a10]
      exact hqK
    · exact Nat.le_trans hS1.1 h
  have hB1 : kv_B (kz_ad a1 1 H1.size) (kz_A a1 1 H1.size) D k s s.heap := kz_B hB0 hA1 (fun n hn => by rw [kz_ad_st (by omega) hn]; exact a1s n hn)
  have had1 : ∀ n, n ≤ 290 → 1 ≤ n → kz_ad a1 1 H1.size (n + 1) = kz_ad a1 1 H1.size n + 1 := by
    intro n h1 h2
    rw [kz_ad_ge (n := n + 1) (by omega) (by omega), kz_ad_ge (n := n) h2 (by omega)]
    omega
  have run1 := kz_runI (p := p) (l := l) (e := e) (R := room_1) (s := s) (m := m) (args := #[Value.ref b]) (below := below) (meth := meth) (c := c) (H := H1) (locs := []) (cells := 0 + 1) (slots := 0 + kv_N 11) (Q := lw_Z below #[Value.ref b] s) (cc := code) (pc := 4) (LS := ls) (rest := [.ref qK]) (A0 := fun q : Nat => s.heap.size ≤ q) (own := R_law) (idx := 15) (d := 20) (j := 81) (b := 0) (nL := 7) hx hb hml hown hgw (hts _ kz_s3) kz_g81 kz_q81.1 kz_q81.2.1 kz_q81.2.2.1 kz_q81.2.2.2 hB1 hW1 hS1 hA1 (fun z hz => Or.inr hz) had1 (fun a ha _ => hS1.2.1 a ha (by omega)) runA hl.1 (Nat.le_of_ble_eq_true rfl) kz_jL_4 ⟨by decide, by decide +kernel⟩ ⟨by show 0 + 1 + (kv_shK.length - 1) ≤ 601024; rw [kz_lenK]; omega, by show 0 + kv_N 11 + (kv_sl kv_shK - kv_sl [.inr (.inr (11, kv_fl 11))]) ≤ 7293034; rw [nK]; have := kz_slK; omega⟩
  rw [show kz_ad a1 1 H1.size 0 = qK by rw [kz_ad_lt (by omega), a10]] at run1
  refine run1 (fun H2 locs2 w1 w2 w3 w4 => ?_)
  refine W.widen (k := 200) (n := 10014) (by show 0 + 1 + (kv_shK.length - 1) ≤ 200; rw [kz_lenK]; omega) (by show 0 + kv_N 11 + (kv_sl kv_shK - kv_sl [.inr (.inr (11, kv_fl 11))]) ≤ 10014; rw [nK]; have := kz_slK; omega) ?_
  obtain ⟨adK, eaK⟩ : ∃ adK, adK = kz_ad a1 1 H1.size := ⟨_, rfl⟩
  rw [← eaK] at w1 hB1
  have adK0 : adK 0 = qK := by rw [eaK, kz_ad_lt (by omega), a10]
  obtain ⟨hPK, hDK⟩ := kz_made hzA w1
  have hDK : va_D (fun q : Nat => s.heap.size ≤ q) (kv_w adK k (kv_shK, kv_z0K, fun _ _ => 0)) := hDK.weaken (fun _ q _ h => hA1 q.1 h)
  refine lv_astore_n (lv' := [(1, .ref qK), (0, .ref b)]) hx hb kz_jL_7 rfl hl (by decide) rfl (fun ls hl => ?_)
  -- the model's
  refine va_new (ci := 12) (fs := kz_fs 12) (C := kv_R 12) (T := kv_T 12) (N := kv_N 12) hx hb hts (fun w hw => kv_ws_lay w (List.mem_flatMap.mpr ⟨12, List.mem_range.mpr (by omega), hw⟩)) (kv_Ty 12) (kv_ty_ok 12 (by omega)) hown (hts _ kz_s2) (hts _ (kz_s6 12 (by omega))) (hts _ kz_s7.2) hKe hPK hDK w4 hA (kv_cl_at (by omega)) (kz_fs_ok 12 (Or.inr rfl)).1 (by show 200 + 1 ≤ 601024; omega) (by rw [nM]; show 10014 + 43 ≤ 7293034; omega) kz_jL_8 (fun qM H3 hP3 hD3 hS3 => ?_)
  refine lv_dup hx hb kz_jL_11 rfl ?_
  have hl3 : (kv_w adK k (kv_shK, kv_z0K, fun _ _ => 0)).length = 172 := by rw [kv_w_len]; exact kz_lenK
  have at3 : ∀ a, a < 172 → ∃ x, (kv_w adK k (kv_shK, kv_z0K, fun _ _ => 0) ++ [(qM, (Sum.inr (12, kz_fs 12) : va_E))])[a]? = some (adK a, x) := fun a ha => by
    obtain ⟨x, hx9⟩ := kz_at (ad := adK) (k := k) (z := kv_z0K) (zl := fun _ _ => 0) (show a < kv_shK.length by rw [kz_lenK]; exact ha)
    exact ⟨x, by rw [List.getElem?_append_left (by rw [hl3]; exact ha)]; exact hx9⟩
  have atM3 : (kv_w adK k (kv_shK, kv_z0K, fun _ _ => 0) ++ [(qM, (Sum.inr (12, kz_fs 12) : va_E))])[172]? = some (qM, Sum.inr (12, kz_fs 12)) := by
    rw [List.getElem?_append_right (by rw [hl3]; exact Nat.le_refl _), hl3]
    rfl
  have dK3 : ∀ a, a < 172 → ¬ adK a = qM := fun a ha h => by
    obtain ⟨x, hx9⟩ := at3 a ha
    have := hD3.1 a 172 _ _ hx9 atM3 h
    omega
  have ltK3 : ∀ a, a < 172 → adK a < H3.size := fun a ha => by
    obtain ⟨x, hx9⟩ := at3 a ha
    exact (hP3 a _ hx9).lt
  have hqM : s.heap.size ≤ qM := hD3.2 172 _ atM3
  have hPM3 : va_P D kv_cl [(qM, .inr (12, kz_fs 12))] H3 := fun i q h => hP3 (172 + i) q (by rw [List.getElem?_append_right (by rw [hl3]; omega), hl3, Nat.add_sub_cancel_left]; exact h)
  have hPK3 : va_P D kv_cl (kv_w adK k (kv_shK, kv_z0K, fun _ _ => 0)) H3 := fun i q h => hP3 i q (by rw [List.getElem?_append_left (List.getElem?_eq_some_iff.mp h).1]; exact h)
  obtain ⟨a2, ea2⟩ : ∃ a2 : Nat → Nat, a2 = fun n => if n = 0 then qM else ad0 n := ⟨_, rfl⟩
  have a20 : a2 0 = qM := by rw [ea2]; rfl
  have a2s : ∀ n, 300 ≤ n → a2 n = ad0 n := fun n hn => by rw [ea2]; exact if_neg (by omega)
  have hW3 : kv_W (kz_ad a2 1 H3.size) (kz_A a2 1 H3.size) D k ([.inr (.inr (12, kv_fl 12))], fun _ _ => 0, fun _ _ => 0) H3 := kz_W (sh := [.inr (.inr (12, kv_fl 12))]) (kz_fs_ok 12 (Or.inr rfl)).2.2 (by decide) (fun a b ha hb _ => by have ha : a < 1 := ha; have hb : b < 1 := hb; omega) (fun a _ => ⟨fun _ => rfl, fun _ => rfl⟩) (by rw [kz_w1o (Or.inr rfl), a20]; exact hPM3)
  have hA2 : ∀ q, kz_A a2 1 H3.size q → s.heap.size ≤ q := by
    intro q hq
    rcases hq with ⟨a, ha, rfl⟩ | h
    · rw [show a = 0 by omega, a20]
      exact hqM
    · exact Nat.le_trans hS3.1 h
  have hB3 : kv_B (kz_ad a2 1 H3.size) (kz_A a2 1 H3.size) D k s s.heap := kz_B hB0 hA2 (fun n hn => by rw [kz_ad_st (by omega) hn]; exact a2s n hn)
  have had3 : ∀ n, n ≤ 290 → 1 ≤ n → kz_ad a2 1 H3.size (n + 1) = kz_ad a2 1 H3.size n + 1 := by
    intro n h1 h2
    rw [kz_ad_ge (n := n + 1) (by omega) (by omega), kz_ad_ge (n := n) h2 (by omega)]
    omega
  have run3 := kz_runI (p := p) (l := l) (e := e) (R := room_1) (s := s) (m := m) (args := #[Value.ref b]) (below := below) (meth := meth) (c := c) (H := H3) (locs := locs2) (cells := 200 + 1) (slots := 10014 + kv_N 12) (Q := lw_Z below #[Value.ref b] s) (cc := code) (pc := 12) (LS := ls) (rest := [.ref qM]) (A0 := fun q : Nat => s.heap.size ≤ q) (own := R_law) (idx := 18) (d := 20) (j := 151) (b := 0) (nL := 7) hx hb hml hown hgw (hts _ kz_s4) kz_g151 kz_q151.1 kz_q151.2.1 kz_q151.2.2.1 kz_q151.2.2.2 hB3 hW3 hS3 hA2 (fun z hz => Or.inr hz) had3 (fun a ha _ => hS3.2.1 a ha (by omega)) runB hl.1 (Nat.le_of_ble_eq_true rfl) kz_jL_12 ⟨by decide, by decide +kernel⟩ ⟨by show 200 + 1 + (kv_shM.length - 1) ≤ 601024; rw [kz_lenM]; omega, by show 10014 + kv_N 12 + (kv_sl kv_shM - kv_sl [.inr (.inr (12, kv_fl 12))]) ≤ 7293034; rw [nM]; have := kz_slM; omega⟩
  rw [show kz_ad a2 1 H3.size 0 = qM by rw [kz_ad_lt (by omega), a20]] at run3
  refine run3 (fun H4 locs4 y1 y2 y3 y4 => ?_)
  refine W.widen (k := 300) (n := 31000) (by show 200 + 1 + (kv_shM.length - 1) ≤ 300; rw [kz_lenM]; omega) (by show 10014 + kv_N 12 + (kv_sl kv_shM - kv_sl [.inr (.inr (12, kv_fl 12))]) ≤ 31000; rw [nM]; have := kz_slM; omega) ?_
  obtain ⟨adM, eaM⟩ : ∃ adM, adM = kz_ad a2 1 H3.size := ⟨_, rfl⟩
  rw [← eaM] at y1 hB3
  have adM0 : adM 0 = qM := by rw [eaM, kz_ad_lt (by omega), a20]
  obtain ⟨hPM, hDM⟩ := kz_made hzB y1
  have hPK4 : va_P D kv_cl (kv_w adK k (kv_shK, kv_z0K, fun _ _ => 0)) H4 := kz_keepP hPK3 (fun x hx9 => by
    obtain ⟨a, ha, e9⟩ := kz_inW hx9
    have ha : a < 172 := by have h9 := kz_lenK; show a < 172; rw [← h9]; exact ha
    rw [e9]
    refine y3 _ (ltK3 a ha) (fun h => ?_)
    rcases h with ⟨a9, ha9, e8⟩ | h
    · rw [show a9 = 0 by omega, a20] at e8
      exact dK3 a ha e8
    · have := ltK3 a ha
      omega)
  have hD4 : va_D (fun q : Nat => s.heap.size ≤ q) (kv_w adK k (kv_shK, kv_z0K, fun _ _ => 0) ++ kv_w adM k (kv_shM, kv_z0M, fun _ _ => 0)) := by
    refine va_D.app hDK (hDM.weaken (fun _ q _ h => hA2 q.1 h)) (fun i j p9 q9 hp hq h9 => ?_)
    have hi : i < 172 := by have := (List.getElem?_eq_some_iff.mp hp).1; rw [hl3] at this; exact this
    obtain ⟨x, hx9⟩ := kz_at (ad := adK) (k := k) (z := kv_z0K) (zl := fun _ _ => 0) (show i < kv_shK.length by rw [kz_lenK]; exact hi)
    rw [hp] at hx9
    cases hx9
    have h8 := hDM.2 j q9 hq
    have h7 : adK i = q9.1 := h9
    rw [← h7] at h8
    rcases h8 with ⟨a9, ha9, e8⟩ | h
    · rw [show a9 = 0 by omega, a20] at e8
      exact dK3 i hi e8
    · have := ltK3 i hi
      omega
  refine lv_astore_n (lv' := [(2, .ref qM), (1, .ref qK), (0, .ref b)]) hx hb kz_jL_15 rfl hl (by decide) rfl (fun ls hl => ?_)
  refine lv_iconst (v := 1) hx hb kz_jL_16 (by decide) ?_
  refine va_newa (atype := .long) (ty := .long) (N' := 1) (a0 := (1, .inr (.inl (fun _ => 0)))) hx hb (hts _ kz_s5) rfl hKe (hPK4.app hPM) hD4 y4 hA (fun cA => rfl) (by decide) (by decide) (by decide) (by show 300 + 1 ≤ 601024; omega) (by show 31000 + 1 ≤ 7293034; omega) kz_jL_17 (fun oa oc H5 hK5 hP5 hD5 hS5 => ?_)
  refine lv_astore_n (lv' := [(3, .ref oa), (2, .ref qM), (1, .ref qK), (0, .ref b)]) hx hb kz_jL_19 rfl hl (by decide) rfl (fun ls hl => ?_)
  refine lv_iconst (v := 0) hx hb kz_jL_20 (by decide) ?_
  refine lv_istore (lv' := [(4, .int 0), (3, .ref oa), (2, .ref qM), (1, .ref qK), (0, .ref b)]) hx hb kz_jL_21 hl (by decide) rfl (fun ls hl => ?_)
  have hlM : (kv_w adM k (kv_shM, kv_z0M, fun _ _ => 0)).length = 26 := by rw [kv_w_len]; exact kz_lenM
  have atK : ∀ a, a < 172 → ∃ x, ((kv_w adK k (kv_shK, kv_z0K, fun _ _ => 0) ++ kv_w adM k (kv_shM, kv_z0M, fun _ _ => 0)) ++ [(oa, (Sum.inl (oc, 1, .inr (.inl (fun _ => 0))) : va_E))])[a]? = some (adK a, x) := fun a ha => by
    obtain ⟨x, hx9⟩ := kz_at (ad := adK) (k := k) (z := kv_z0K) (zl := fun _ _ => 0) (show a < kv_shK.length by rw [kz_lenK]; exact ha)
    exact ⟨x, by rw [List.getElem?_append_left (by rw [List.length_append, hl3]; omega), List.getElem?_append_left (by rw [hl3]; exact ha)]; exact hx9⟩
  have atM : ∀ a, a < 26 → ∃ x, ((kv_w adK k (kv_shK, kv_z0K, fun _ _ => 0) ++ kv_w adM k (kv_shM, kv_z0M, fun _ _ => 0)) ++ [(oa, (Sum.inl (oc, 1, .inr (.inl (fun _ => 0))) : va_E))])[172 + a]? = some (adM a, x) := fun a ha => by
    obtain ⟨x, hx9⟩ := kz_at (ad := adM) (k := k) (z := kv_z0M) (zl := fun _ _ => 0) (show a < kv_shM.length by rw [kz_lenM]; exact ha)
    exact ⟨x, by rw [List.getElem?_append_left (by rw [List.length_append, hl3, hlM]; omega), List.getElem?_append_right (by rw [hl3]; omega), hl3, Nat.add_sub_cancel_left]; exact hx9⟩
  have atO : ((kv_w adK k (kv_shK, kv_z0K, fun _ _ => 0) ++ kv_w adM k (kv_shM, kv_z0M, fun _ _ => 0)) ++ [(oa, (Sum.inl (oc, 1, .inr (.inl (fun _ => 0))) : va_E))])[198]? = some (oa, Sum.inl (oc, 1, .inr (.inl (fun _ => 0)))) := by
    rw [List.getElem?_append_right (by rw [List.length_append, hl3, hlM]; omega), List.length_append, hl3, hlM]
    rfl
  have F : kz_L p s m meth c b L xs adK adM oa D k oc := by
    refine ⟨⟨hx, hb, hml, hown, hr, hlocks⟩, hts, ⟨hX, hbl, hL⟩, ⟨kz_B hB0 (fun _ h => h) (fun n hn => by rw [eaK, kz_ad_st (by omega) hn]; exact a1s n hn), kz_B hB0 (fun _ h => h) (fun n hn => by rw [eaM, kz_ad_st (by omega) hn]; exact a2s n hn)⟩, ⟨fun a b ha hb h => ?_, fun a b ha hb h => ?_, fun a ha => ?_, fun a ha => ?_, hD5.2 198 _ atO⟩, ⟨fun a b ha hb h => ?_, fun a ha h => ?_, fun a ha h => ?_⟩, hK5⟩
    · obtain ⟨x, h1⟩ := atK a ha
      obtain ⟨y, h2⟩ := atK b hb
      exact hD5.1 a b _ _ h1 h2 h
    · obtain ⟨x, h1⟩ := atM a ha
      obtain ⟨y, h2⟩ := atM b hb
      have := hD5.1 _ _ _ _ h1 h2 h
      omega
    · obtain ⟨x, h1⟩ := atK a ha
      exact hD5.2 a _ h1
    · obtain ⟨x, h1⟩ := atM a ha
      exact hD5.2 _ _ h1
    · obtain ⟨x, h1⟩ := atK a ha
      obtain ⟨y, h2⟩ := atM b hb
      have := hD5.1 _ _ _ _ h1 h2 h
      omega
    · obtain ⟨x, h1⟩ := atK a ha
      have := hD5.1 _ _ _ _ h1 atO h
      omega
    · obtain ⟨x, h1⟩ := atM a ha
      have := hD5.1 _ _ _ _ h1 atO h
      omega
  have hH : kz_H adK adM oa D k oc kv_z0K kv_z0M (fun _ _ => 0) (fun _ _ => 0) (fun _ => 0) H5 := by
    refine ⟨fun i q h => hP5 i q ?_, fun i q h => hP5 (172 + i) q ?_, fun i q h => hP5 (198 + i) q ?_, kz_z0K0, kz_z0M0⟩
    · have h9 := (List.getElem?_eq_some_iff.mp h).1
      rw [List.getElem?_append_left (by rw [List.length_append]; omega), List.getElem?_append_left h9]
      exact h
    · have h9 := (List.getElem?_eq_some_iff.mp h).1
      rw [List.getElem?_append_left (by rw [List.length_append, hl3]; omega), List.getElem?_append_right (by rw [hl3]; omega), hl3, Nat.add_sub_cancel_left]
      exact h
    · rw [List.getElem?_append_right (by rw [List.length_append, hl3, hlM]; omega), List.length_append, hl3, hlM, Nat.add_sub_cancel_left]
      exact h
  refine W.widen (k := 1000 + 0) (n := 40000 + 4 * 0) (by omega) (by omega) ?_
  exact kz_loop hSc hlt hT hThr F (fun v t ht i zK zM zlK zlM h => hstep v t ht xs i zK zM zlK zlM h) hgust hkite L 0 kv_z0K kv_z0M _ _ _ H5 _ ls (by omega) (by omega) hS0 hH hS5 (lv_sub hl [4, 3, 2, 1, 0] (by rw [adK0, adM0]; rfl))
