theorem kv_ald_inv {t : List (List Int32)} {lo w pc : Nat} {ls : kv_L} {h : kv_H} {i : Int32} {r : List Value} {X : kv_X} (e : kv_ald t lo pc ls h (lo + w) i r = some X) : ∃ l, t[w]? = some l ∧ ¬ (i < 0 ∨ l.length ≤ i.toNatClampNeg) ∧ kv_go (pc + 1) ls (.int (l.getD i.toNatClampNeg 0) :: r) h = some X := by
  unfold kv_ald at e
  rw [Nat.add_sub_cancel_left] at e
  split at e
  · split at e
    · cases e
    · exact ⟨_, ‹_›, ‹_›, e⟩
  · cases e
theorem kv_sub0 (w : Nat) : 300 + w - 300 = w := Nat.add_sub_cancel_left 300 w
theorem kv_sub10 (w : Nat) : 310 + w - 310 = w := Nat.add_sub_cancel_left 310 w
theorem kv_nn {z : Int32} (h : ¬ z < 0) : z.toInt = ((z.toNatClampNeg : Nat) : Int) := by
  have h0 : (0 : Int32) ≤ z := Int32.not_lt.mp h
  have h1 : (0 : Int) ≤ z.toInt := by simpa using Int32.le_iff_toInt_le.mp h0
  show z.toInt = ((z.toInt.toNat : Nat) : Int)
  omega
/-- arraycopy of ints, the heap's size kept -/
theorem kv_copyi {p : Program} {l : Launch} {e : Env} {R : Room} {s : State} {m : MethodId} {args : Array Value} {below : List Frame} {meth : Method} {c : Code} {H : Heap} {locs : List Loc} {cells slots : Nat} {Q : State → Prop} {cc : ByteArray} {pc : Nat} {ls : Array Slot} {rest : List Value} {D : va_G} {A : Nat → Prop} {a q0 q1 : Nat} {k : kv_K} {ws : va_W} {H0 : Heap}
    (hx : p.tables.exec = Jvm.exec) (hb : c.code = cc) (hml : c.maxLocals = ls.size) {own : String} {index : Nat} (hown : s.vm.findClass own = some m.cls) (hlink : (Jvm.Cond.methodLink own index arraycopyName).before args s = true) (hnat : (Jvm.Cond.native arraycopyName).before args s = true) (hstat : (Jvm.Cond.static arraycopyName).before args s = true) (hini : (Jvm.Cond.initialized "java/lang/System").before args s = true)
    (hK : va_K D kv_cl (kv_tys k) s) (hP : va_P D kv_cl ws H) (hD : va_D A ws) (hS : va_S A H0 H locs) {a0 n0 n1 : Nat} {f g : Nat → Int32} (ha0 : ws[q0]? = some (a0, .inl (k.1, n0, .inl f))) (ha1 : ws[q1]? = some (a, .inl (k.1, n1, .inl g))) {sp dp n : Int32} (h1 : ¬ sp < 0) (h2 : ¬ dp < 0) (h3 : ¬ n < 0) (h4 : sp.toNatClampNeg + n.toNatClampNeg ≤ n0) (h5 : dp.toNatClampNeg + n.toNatClampNeg ≤ n1)
    (hframes : 1 ≤ R.frames) (hlocals : (rest.map fun v => v.category).sum + (nativeFrameWords "java/lang/System" "arraycopy" 5 + 11) ≤ R.locals) (hdg : decode cc pc = .ok (.invokestatic index, 3))
    (kk : ∀ (H1 : Heap) (locs1 : List Loc), H1.size = H.size → va_P D kv_cl (ws.set q1 (a, .inl (k.1, n1, .inl (va_cpy f g sp.toNatClampNeg dp.toNatClampNeg n.toNatClampNeg)))) H1 → va_D A (ws.set q1 (a, .inl (k.1, n1, .inl (va_cpy f g sp.toNatClampNeg dp.toNatClampNeg n.toNatClampNeg)))) → va_S A H0 H1 locs1 → W p l e R s m args below meth c H1 locs1 cells slots Q (F0 m (pc + 3) ls rest)) : W p l e R s m args below meth c H locs cells slots Q (F0 m pc ls (.int n :: .int dp :: .ref a :: .int sp :: .ref a0 :: rest)) := by
  intro T hT X
  have hc0 : H[a0]? = some (vp_cell k.1 (n0, .inl f)) := hP q0 _ ha0
  have hc1 : H[a]? = some (vp_cell k.1 (n1, .inl g)) := hP q1 _ ha1
  have hof := (hK.2 0 (k.1, .int) rfl).1
  obtain ⟨-, k0, hk0, cm0, hkk0⟩ := hof n0 (fun j => .int (f j))
  obtain ⟨-, k1, hk1, cm1, hkk1⟩ := hof n1 (fun j => .int (g j))
  have b4 := kv_nn h1
  have b5 := kv_nn h2
  have b6 := kv_nn h3
  obtain ⟨vm', X', step⟩ := X.arraycopy hx hown hlink hnat hstat hini (src := a0) (dst := a) (cs := vp_cell k.1 (n0, .inl f)) (cd := vp_cell k.1 (n1, .inl g)) (srcPos := sp) (destPos := dp) (n := n) (by rw [hT]; exact hc0) (by rw [hT]; exact hc1)
    (fun _ h => by cases h) (fun _ h => by cases h) (fun h => by cases h) (fun h => by cases h) hk0 hk1 hkk0 hkk1 (by simp [show refKind FieldType.int = false from rfl]) h1 h2 h3
    (by rw [b4, b6]; show ¬ _ > ((arrV k.1 n0 (fun j => .int (f j))).slots.size : Int); rw [arrV_size]; omega)
    (by rw [b5, b6]; show ¬ _ > ((arrV k.1 n1 (fun j => .int (g j))).slots.size : Int); rw [arrV_size]; omega)
    (fun vm₁ _ i hi => by
      have e9 : (vp_cell k.1 (n0, .inl f)).slots.getD (sp.toNatClampNeg + i) .null = .int (f (sp.toNatClampNeg + i)) := by
        show (arrV k.1 n0 (fun j => .int (f j))).slots.getD _ _ = _
        rw [Array.getD_eq_getD_getElem?, arrV_read _ _ (by omega)]
        rfl
      exact ⟨by rw [e9]; rfl, by rw [e9]; exact trivial⟩)
    (g := F0 m pc ls (.int n :: .int dp :: .ref a :: .int sp :: .ref a0 :: rest)) rfl (by rw [hml]) (rest := rest) rfl (by rw [hb]; exact hdg) hframes (by show 2 * 0 + _ + _ ≤ _; omega)
  have e8 : copied (vp_cell k.1 (n0, .inl f)) (vp_cell k.1 (n1, .inl g)) sp dp n = vp_cell k.1 (n1, .inl (va_cpy f g sp.toNatClampNeg dp.toNatClampNeg n.toNatClampNeg)) := va_copied (fun z => .int z) k.1 k.1 f g h4
  rw [e8] at X' step
  have hl : a < H.size := (Array.getElem?_eq_some_iff.mp hc1).1
  generalize hN : vp_cell k.1 (n1, .inl (va_cpy f g sp.toNatClampNeg dp.toNatClampNeg n.toNatClampNeg)) = N9 at X' step
  have hX : arrV k.1 n1 (fun j => Value.int (va_cpy f g sp.toNatClampNeg dp.toNatClampNeg n.toNatClampNeg j)) = N9 := hN
  have hheap : ((T.setVm vm').setCell a N9).heap = H.setIfInBounds a N9 := by rw [← hT]; rfl
  have oq : ∀ z : Nat, z ≠ a → (H.setIfInBounds a N9)[z]? = H[z]? := fun z hz => by simp [Array.getElem?_setIfInBounds, Ne.symm hz]
  have self9 : (H.setIfInBounds a N9)[a]? = some N9 := by simp [Array.getElem?_setIfInBounds, hl]
  obtain ⟨t, a1, b1⟩ := kk (H.setIfInBounds a N9) _ (by simp) (hP.set hD ha1 (show (H.setIfInBounds a N9)[a]? = some (vp_cell _ _) by rw [hN]; exact self9) oq) (hD.set ha1) ⟨by simp; exact hS.1, fun z g1 g2 => by
      rw [oq z (fun e => g2 (by rw [e]; exact hD.2 q1 _ ha1))]
      exact hS.2.1 z g1 g2, fun z hz => by
      rcases List.mem_append.mp hz with h | h
      · exact hS.2.2 z h
      · obtain ⟨z9, -, hz9⟩ := List.mem_map.mp h
        rw [← hz9]
        exact hD.2 q1 _ ha1⟩ _ hheap X'
  exact ⟨t, step t a1, b1⟩
theorem kv_kind9 (ci : Nat) (h : ci = 9 ∨ ci = 5) (k : kv_K) : ∃ t0 : Nat, (kv_tys k)[t0]? = some (kv_kc k ci, .object (kv_R ci)) := by
  rcases h with rfl | rfl
  · exact ⟨1, rfl⟩
  · exact ⟨2, rfl⟩
theorem kv_s_ast {p : Program} {l : Launch} {e : Env} {R : Room} {s : State} {m : MethodId} {args : Array Value} {below : List Frame} {meth : Method} {c : Code} {H : Heap} {locs : List Loc} {cells slots : Nat} {Q : State → Prop} {cc : ByteArray} {pc : Nat} {ls : Array Slot} {rest : List Value} {D : va_G} {A : Nat → Prop} {a q0 t0 qk ci : Nat} {k : kv_K} {ws : va_W} {H0 : Heap}
    (hx : p.tables.exec = Jvm.exec) (hb : c.code = cc) (hK : va_K D kv_cl (kv_tys k) s) (hP : va_P D kv_cl ws H) (hD : va_D A ws) (hS : va_S A H0 H locs) {cA : ClassId} {r : vw_C} {n v : Nat} {vs : List Value} {f : Nat → Option Nat} (ha : ws[q0]? = some (a, .inl (cA, n, .inr (.inr (.inr (.inr f)))))) (ht : (kv_tys k)[t0]? = some (cA, .object r.1)) (hv : ws[qk]? = some (v, .inr (ci, vs))) (hc : kv_cl[ci]? = some r) {i : Int32} (hin : ¬ (i < 0 ∨ n ≤ i.toNatClampNeg)) (hdg : decode cc pc = .ok (.aastore, 1))
    (kk : ∀ (H1 : Heap) (locs1 : List Loc), H1.size = H.size → va_P D kv_cl (ws.set q0 (a, .inl (cA, n, .inr (.inr (.inr (.inr (va_up f i.toNatClampNeg (some v)))))))) H1 → va_D A (ws.set q0 (a, .inl (cA, n, .inr (.inr (.inr (.inr (va_up f i.toNatClampNeg (some v)))))))) → va_S A H0 H1 locs1 → W p l e R s m args below meth c H1 locs1 cells slots Q (F0 m (pc + 1) ls rest)) : W p l e R s m args below meth c H locs cells slots Q (F0 m pc ls (.ref v :: .int i :: .ref a :: rest)) := by
  have hlt : i.toNatClampNeg < n := Nat.not_le.mp fun q => hin (Or.inr q)
  have h0 : ¬ i < 0 := fun q => hin (Or.inl q)
  obtain ⟨r', hr', cellV, g1, g2, g3, -⟩ := hP qk _ hv
  have hcls := (hK.1 ci r hc).2
  obtain ⟨kA, comp, k1, k2, k3, -⟩ := (hK.2 t0 _ ht).2
  have hcomp : comp = D.1 ci := Option.some.inj (k3.symm.trans hcls.1)
  subst hcomp
  obtain ⟨kC, hkC, -⟩ := hcls.2
  refine W.aast hx hb (hP q0 _ ha) (fun q h => by cases h) (fun h => by cases h) k1 k2 rfl hkC ⟨h0, by show _ < (arrV _ _ _).slots.size; rw [arrV_size]; exact hlt⟩ g1 (fun q h => by rw [g3] at h; cases h) (by rw [g2]; exact hkC) (by rw [g2]; exact va_assign hcls) rfl rfl hdg fun H1 e1 z oq => ?_
  refine kk H1 _ z (hP.set hD ha ?_ oq) (hD.set ha) (hS.put z oq (hD.2 q0 _ ha))
  show H1[a]? = some (vp_cell _ _)
  rw [e1]
  rw [vp_cell_q, vp_cell_q, arrV_store]
  congr 2
  funext y
  by_cases hq : y = i.toNatClampNeg
  · subst hq
    simp [updV, va_up, va_rf]
  · simp [updV, va_up, hq]
theorem kv_R_mem (c : Nat) (h : c < 16) : kv_R c ∈ kv_Rs := by
  unfold kv_R
  rw [List.getD_eq_getElem?_getD, List.getElem?_eq_getElem (show c < kv_Rs.length from h)]
  exact List.getElem_mem _
theorem kv_if_inv {p : Prop} [Decidable p] {a X : kv_X} (e : (if p then some a else none) = some X) : p ∧ a = X := by
  split at e
  · exact ⟨‹_›, Option.some.inj e⟩
  · cases e
theorem kv_call_ne (j pc n : Nat) (sh : List kv_E) (ls : kv_L) (st : List Value) (dyn : Bool) {x : Nat × kv_L × List Value × kv_H} : ¬ kv_call j pc n sh ls st dyn = some (Sum.inr (Sum.inl x)) := by
  intro e
  unfold kv_call at e
  split at e
  · obtain ⟨-, e⟩ := kv_if_inv e
    cases e
  · cases e
theorem kv_s_iast {p : Program} {l : Launch} {e : Env} {R : Room} {s : State} {m : MethodId} {args : Array Value} {below : List Frame} {meth : Method} {c : Code} {H : Heap} {locs : List Loc} {cells slots : Nat} {Q : State → Prop} {cc : ByteArray} {pc : Nat} {ls : Array Slot} {rest : List Value} {D : va_G} {A : Nat → Prop} {a q0 : Nat} {k : kv_K} {ws : va_W} {H0 : Heap}
    (hx : p.tables.exec = Jvm.exec) (hb : c.code = cc) (hK : va_K D kv_cl (kv_tys k) s) (hP : va_P D kv_cl ws H) (hD : va_D A ws) (hS : va_S A H0 H locs) {n : Nat} {f : Nat → Int32} (ha : ws[q0]? = some (a, .inl (k.1, n, .inl f))) {i x : Int32} (hin : ¬ (i < 0 ∨ n ≤ i.toNatClampNeg)) (hdg : decode cc pc = .ok (.iastore, 1))
    (kk : ∀ (H1 : Heap) (locs1 : List Loc), H1.size = H.size → va_P D kv_cl (ws.set q0 (a, .inl (k.1, n, .inl (upd f i.toNatClampNeg x)))) H1 → va_D A (ws.set q0 (a, .inl (k.1, n, .inl (upd f i.toNatClampNeg x)))) → va_S A H0 H1 locs1 → W p l e R s m args below meth c H1 locs1 cells slots Q (F0 m (pc + 1) ls rest)) : W p l e R s m args below meth c H locs cells slots Q (F0 m pc ls (.int x :: .int i :: .ref a :: rest)) := by
  refine W.iast hx hb (hP q0 _ ha) ((hK.2 0 _ rfl).1 n (fun j => .int (f j))) (fun q => by cases q) (by show ¬ (i < 0 ∨ (arrV _ _ _).slots.size ≤ _); rw [arrV_size]; exact hin) rfl rfl hdg fun H1 e1 z oq => ?_
  refine kk H1 _ z (hP.set hD ha ?_ oq) (hD.set ha) (hS.put z oq (hD.2 q0 _ ha))
  show H1[a]? = some (vp_cell _ _)
  rw [e1]
  rw [vp_cell_i, vp_cell_i, arrV_store]
  congr 2
  funext y
  by_cases hq : y = i.toNatClampNeg
  · subst hq
    simp [updV, upd]
  · simp [updV, upd, hq]
section STEPS
variable {p : Program} {l : Launch} {e : Env} {R : Room} {s : State} {m : MethodId} {args : Array Value} {below : List Frame} {meth : Method} {c : Code} {H : Heap} {locs : List Loc} {Q : State → Prop}
variable {ad : Nat → Nat} {A : Nat → Prop} {D : va_G} {k : kv_K} {n0 s0 : Nat} {q : kv_M} {LS : Array Slot} {pc : Nat} {ls : kv_L} {h : kv_H}
/-- the kit's rows keep the heap's size: it stands in va_S of the heap as it was -/
theorem kv_s_math (C0 : kv_At p s m args meth c ad A D k n0 q) {idx w : Nat} {st : List Value} {pc' : Nat} {ls' : kv_L} {st' : List Value} {h' : kv_H} {cells slots : Nat} (hdg : decode q.2.2.2.1 pc = .ok (.invokestatic idx, 3)) (e1 : kv_math w pc ls st h = some (Sum.inr (Sum.inl (pc', ls', st', h')))) (hk : (q.1, idx, w) ∈ kv_LX) (hml : c.maxLocals = LS.size) (hf : 1 ≤ R.frames) (hlo : 60 ≤ R.locals) (hc : h' = h → cells ≤ R.cells) (hs : h' = h → slots ≤ R.slots)
    (K : ls' = ls → h' = h → W p l e R s m args below meth c H locs cells slots Q (F0 m pc' LS (st'.map (kv_vr ad)))) : W p l e R s m args below meth c H locs cells slots Q (F0 m pc LS (st.map (kv_vr ad))) := by
  obtain ⟨hx, hb, -, hr, hlk, hown, hts, hin, hB, hA, had⟩ := C0
  have hw : (Jvm.Cond.methodLink (kv_R q.1) idx (kv_Xs.getD w Lib.Math.max.name)).before args s = true := hts _ (kv_g (kv_ws_LX _ (List.mem_map_of_mem (f := fun q : Nat × Nat × Nat => Jvm.Cond.methodLink (kv_R q.1) q.2.1 (kv_Xs.getD q.2.2 Lib.Math.max.name)) hk)) rfl)
  have hini : (Jvm.Cond.initialized "java/lang/Math").before args s = true := hts _ (kv_g (kv_ws_one _ (List.mem_of_getElem? (i := 8) rfl)) rfl)
  have hst : ∀ i, i < 5 → (Jvm.Cond.static (kv_Xs.getD i Lib.Math.max.name)).before args s = true := fun i hi => hts _ (kv_g (kv_ws_one _ (List.mem_append_right _ (List.mem_map_of_mem (f := fun y => Jvm.Cond.static y) (by
    rw [List.getD_eq_getElem?_getD, List.getElem?_eq_getElem (show i < kv_Xs.length from hi)]
    exact List.getElem_mem _)))) rfl)
  have hcd : ∀ (i : Nat) {w : Jvm.Cond}, ([.code Lib.Math.max.name Lib.Math.max.code 2 (some .int), .code Lib.Math.min.name Lib.Math.min.code 2 (some .int), .code Lib.Math.abs.name Lib.Math.abs.code 1 (some .int), .code Lib.MathLoose.max_long.x Lib.MathLoose.max_long.code 4 (some .long), .code Lib.MathLoose.min_long.x Lib.MathLoose.min_long.code 4 (some .long)] : List Jvm.Cond)[i]? = some w → goodWord w = true → w.before args s = true := fun i w h9 hg => hts _ (kv_g (kv_ws_math _ (List.mem_of_getElem? h9)) hg)
  unfold kv_math at e1
  split at e1
  · obtain ⟨x, y, r, rfl, e2⟩ := kv_ii_inv e1
    split at e2
    · rename_i hcat
      obtain ⟨rfl, rfl, rfl, rfl⟩ := kv_go_inv e2
      exact va_mmax hx hb hml hown hw (hst 0 (by decide)) hini (hcd 0 rfl rfl) hf (by have := kv_cat_map ad r; omega) (hc rfl) (hs rfl) hdg (K rfl rfl)
    · cases e2
  · obtain ⟨x, y, r, rfl, e2⟩ := kv_ii_inv e1
    split at e2
    · rename_i hcat
      obtain ⟨rfl, rfl, rfl, rfl⟩ := kv_go_inv e2
      exact va_mmin hx hb hml hown hw (hst 1 (by decide)) hini (hcd 1 rfl rfl) hf (by have := kv_cat_map ad r; omega) (hc rfl) (hs rfl) hdg (K rfl rfl)
    · cases e2
  · obtain ⟨x, r, rfl, e2⟩ := kv_i_inv e1
    split at e2
    · rename_i hcat
      obtain ⟨rfl, rfl, rfl, rfl⟩ := kv_go_inv e2
      exact va_mabs hx hb hml hown hw (hst 2 (by decide)) hini (hcd 2 rfl rfl) hf (by have := kv_cat_map ad r; omega) (hc rfl) (hs rfl) hdg (K rfl rfl)
    · cases e2
  · obtain ⟨x, y, r, rfl, e2⟩ := kv_ll_inv e1
    split at e2
    · rename_i hcat
      obtain ⟨rfl, rfl, rfl, rfl⟩ := kv_go_inv e2
      exact va_mmax_long hx hb hml hown hw (hst 3 (by decide)) hini (hcd 3 rfl rfl) hf (by have := kv_cat_map ad r; omega) (hc rfl) (hs rfl) hdg (K rfl rfl)
    · cases e2
  · obtain ⟨x, y, r, rfl, e2⟩ := kv_ll_inv e1
    split at e2
    · rename_i hcat
      obtain ⟨rfl, rfl, rfl, rfl⟩ := kv_go_inv e2
      exact va_mmin_long hx hb hml hown hw (hst 4 (by decide)) hini (hcd 4 rfl rfl) hf (by have := kv_cat_map ad r; omega) (hc rfl) (hs rfl) hdg (K rfl rfl)
    · cases e2
  · cases e1
theorem kv_s_copy (C0 : kv_At p s m args meth c ad A D k n0 q) {idx : Nat} {st : List Value} {pc' : Nat} {ls' : kv_L} {st' : List Value} {h' : kv_H} {cells slots : Nat} (hdg : decode q.2.2.2.1 pc = .ok (.invokestatic idx, 3)) (e1 : kv_copy pc ls st h = some (Sum.inr (Sum.inl (pc', ls', st', h')))) (hk : kv_lk2 kv_LK q.1 idx = true) (hW : kv_W ad A D k h H) (hS : va_S A s.heap H locs) (hml : c.maxLocals = LS.size) (hf : 1 ≤ R.frames) (hlo : 60 ≤ R.locals)
    (K : ls' = ls → h'.1 = h.1 → ∀ (H' : Heap) (locs' : List Loc), kv_W ad A D k h' H' → va_S A s.heap H' locs' → W p l e R s m args below meth c H' locs' cells slots Q (F0 m pc' LS (st'.map (kv_vr ad)))) : W p l e R s m args below meth c H locs cells slots Q (F0 m pc LS (st.map (kv_vr ad))) := by
  obtain ⟨hx, hb, -, hr, hlk, hown, hts, hin, hB, hA, had⟩ := C0
  have hw : (Jvm.Cond.methodLink (kv_R q.1) idx arraycopyName).before args s = true := hts _ (kv_g (kv_ws_LK _ (List.mem_map_of_mem (f := fun q : Nat × Nat => Jvm.Cond.methodLink (kv_R q.1) q.2 arraycopyName) (kv_lk2_inv hk))) rfl)
  unfold kv_copy at e1
  split at e1
  · rename_i n dp b sp a r
    split at e1
    · split at e1
      · rename_i na nb hae hbe
        split at e1
        · rename_i hc
          have hcm := kv_cat_map ad r
          have hacw := kv_acw
          obtain ⟨rfl, rfl, rfl, rfl⟩ := kv_go_inv e1
          have blt : b < h.1.length := (List.getElem?_eq_some_iff.mp hbe).1
          refine kv_copyi (k := k) hx hb hml hown hw (hts _ (kv_g (kv_ws_one _ (List.mem_of_getElem? (i := 2) rfl)) rfl)) (hts _ (kv_g (kv_ws_one _ (List.mem_of_getElem? (i := 3) rfl)) rfl)) (hts _ (kv_g (kv_ws_one _ (List.mem_of_getElem? (i := 4) rfl)) rfl)) hB.1 hW.1 hW.2.1 hS (kv_w_get hae) (kv_w_get hbe) hc.1.1 hc.1.2.1 hc.1.2.2 hc.2.1 hc.2.2.1 hf (by omega) hdg (fun H1 locs1 hsz hP1 hD1 hS1 => ?_)
          have hz : kv_c ad k (h.1, kv_z h.2.1 b (va_cpy (h.2.1 a) (h.2.1 b) sp.toNatClampNeg dp.toNatClampNeg n.toNatClampNeg), h.2.2) b (Sum.inl nb) = Sum.inl (k.1, nb, Sum.inl (va_cpy (h.2.1 a) (h.2.1 b) sp.toNatClampNeg dp.toNatClampNeg n.toNatClampNeg)) := by simp only [kv_c, kv_z_same]
          exact K rfl rfl H1 locs1 (kv_W_z hW hbe (fun b9 hb9 => ⟨kv_z_ne _ _ hb9, rfl⟩) hsz (by rw [hz]; exact hP1) (by rw [hz]; exact hD1)) hS1
        · cases e1
      · cases e1
    · cases e1
  · cases e1
theorem kv_s_ars (C0 : kv_At p s m args meth c ad A D k n0 q) {st : List Value} {pc' : Nat} {ls' : kv_L} {st' : List Value} {h' : kv_H} {cells slots : Nat} (hdg : decode q.2.2.2.1 pc = .ok (.aastore, 1)) (e1 : kv_ars pc ls st h = some (Sum.inr (Sum.inl (pc', ls', st', h')))) (hW : kv_W ad A D k h H) (hS : va_S A s.heap H locs)
    (K : ls' = ls → h'.1.length = h.1.length → kv_sl h'.1 = kv_sl h.1 → ∀ (H' : Heap) (locs' : List Loc), kv_W ad A D k h' H' → va_S A s.heap H' locs' → W p l e R s m args below meth c H' locs' cells slots Q (F0 m pc' LS (st'.map (kv_vr ad)))) : W p l e R s m args below meth c H locs cells slots Q (F0 m pc LS (st.map (kv_vr ad))) := by
  obtain ⟨hx, hb, -, hr, hlk, hown, hts, hin, hB, hA, had⟩ := C0
  unfold kv_ars at e1
  split at e1
  · rename_i v i a r
    split at e1
    · split at e1
      · rename_i t l9 ci fl hae hve
        split at e1
        · rename_i hc
          obtain ⟨rfl, hi⟩ := hc
          obtain ⟨rfl, rfl, rfl, rfl⟩ := kv_go_inv e1
          have hkd := hW.2.2.2.2.1 a _ l9 hae
          obtain ⟨t0, ht0⟩ := kv_kind9 ci hkd k
          have hci : ci < 13 := by omega
          have alt : a < h.1.length := (List.getElem?_eq_some_iff.mp hae).1
          have hil : i.toNatClampNeg < l9.length := Nat.not_le.mp fun z => hi (Or.inr z)
          have hz : kv_c ad k h a (Sum.inr (Sum.inl (ci, l9.set i.toNatClampNeg (some v)))) = Sum.inl (kv_kc k ci, l9.length, Sum.inr (Sum.inr (Sum.inr (Sum.inr (va_up (fun j => (l9.getD j none).map ad) i.toNatClampNeg (some (ad v))))))) := by
            simp only [kv_c, List.length_set]
            have hf9 : (fun j => ((l9.set i.toNatClampNeg (some v)).getD j none).map ad) = va_up (fun j => (l9.getD j none).map ad) i.toNatClampNeg (some (ad v)) := by
              funext j
              unfold va_up
              by_cases hj : j = i.toNatClampNeg
              · subst hj
                simp [List.getD_eq_getElem?_getD, hil]
              · rw [if_neg hj, List.getD_eq_getElem?_getD, List.getElem?_set_ne (fun z => hj z.symm), ← List.getD_eq_getElem?_getD]
            rw [hf9]
          refine kv_s_ast (k := k) hx hb hB.1 hW.1 hW.2.1 hS (kv_w_get hae) ht0 (kv_w_get hve) (kv_cl_at hci) hi hdg (fun H1 locs1 hsz hP1 hD1 hS1 => ?_)
          exact K rfl (by simp) (kv_sl_set hae (by simp [kv_szE])) H1 locs1 (kv_W_s hW alt hsz (fun t l z => by cases z; exact hkd) (fun ci' fl' z => by cases z) (by rw [hz]; exact hP1) (by rw [hz]; exact hD1)) hS1
        · cases e1
      · cases e1
    · cases e1
  · cases e1
end STEPS
section STEP
variable {p : Program} {l : Launch} {e : Env} {R : Room} {s : State} {m : MethodId} {args : Array Value} {below : List Frame} {meth : Method} {c : Code} {H : Heap} {locs : List Loc} {Q : State → Prop}
variable {ad : Nat → Nat} {A : Nat → Prop} {D : va_G} {k : kv_K} {n0 s0 : Nat} {q : kv_M} {LS : Array Slot} {pc : Nat} {ls : kv_L} {h : kv_H}
theorem kv_hw {ws : List Jvm.Cond} {w : Jvm.Cond} (hts : ∀ w ∈ kv_gW, w.before args s = true) (hm : ∀ w ∈ ws, w ∈ lw_tbl) (h : w ∈ ws) (hg : goodWord w = true) : w.before args s = true := hts _ (kv_g (hm _ h) hg)
theorem kv_one (i : Nat) {w : Jvm.Cond} (h : ([.code Lib.objectInit ⟨#[0xb1]⟩ 1 none, .instanceMethod Lib.objectInit, .native arraycopyName, .static arraycopyName, .initialized "java/lang/System", .arrayClass .int, .arrayOver (.object "KiteVote$State"), .arrayOver (.object "KiteVote$Law"), .initialized "java/lang/Math"] ++ kv_Xs.map (fun y => Jvm.Cond.static y) : List Jvm.Cond)[i]? = some w) : w ∈ lw_tbl := kv_ws_one w (List.mem_of_getElem? h)
theorem kv_mth (i : Nat) {w : Jvm.Cond} (h : ([.code Lib.Math.max.name Lib.Math.max.code 2 (some .int), .code Lib.Math.min.name Lib.Math.min.code 2 (some .int), .code Lib.Math.abs.name Lib.Math.abs.code 1 (some .int), .code Lib.MathLoose.max_long.x Lib.MathLoose.max_long.code 4 (some .long), .code Lib.MathLoose.min_long.x Lib.MathLoose.min_long.code 4 (some .long)] : List Jvm.Cond)[i]? = some w) : w ∈ lw_tbl := kv_ws_math w (List.mem_of_getElem? h)
theorem kv_kind (ci : Nat) (h : ci = 9 ∨ ci = 5) (k : kv_K) : ∃ t0 : Nat, (kv_tys k)[t0]? = some (kv_kc k ci, .object (kv_R ci)) := by
  rcases h with rfl | rfl
  · exact ⟨1, rfl⟩
  · exact ⟨2, rfl⟩
set_option maxHeartbeats 4000000 in
theorem kv_step (C0 : kv_At p s m args meth c ad A D k n0 q) {i : Instr} {len : Nat} {st : List Value} {pc' : Nat} {ls' : kv_L} {st' : List Value} {h' : kv_H} (hdg : decode q.2.2.2.1 pc = .ok (i, len)) (e1 : kv_ex q i len pc ls st h = some (Sum.inr (Sum.inl (pc', ls', st', h'))))
    (hn : ls.length = q.2.2.2.2.1) (h0 : n0 ≤ h.1.length) (hs0 : s0 ≤ kv_sl h.1) (hR : 1 ≤ R.frames ∧ 60 ≤ R.locals ∧ h'.1.length ≤ n0 + R.cells ∧ kv_sl h'.1 ≤ s0 + R.slots) (hW : kv_W ad A D k h H) (hS : va_S A s.heap H locs) (hl : lv_has LS q.2.2.2.2.1 (kv_ps ad ls))
    (K : ∀ (LS' : Array Slot) (H' : Heap) (locs' : List Loc), kv_W ad A D k h' H' → va_S A s.heap H' locs' → lv_has LS' q.2.2.2.2.1 (kv_ps ad ls') → ls'.length = q.2.2.2.2.1 → W p l e R s m args below meth c H' locs' (h'.1.length - n0) (kv_sl h'.1 - s0) Q (F0 m pc' LS' (st'.map (kv_vr ad)))) :
    W p l e R s m args below meth c H locs (h.1.length - n0) (kv_sl h.1 - s0) Q (F0 m pc LS (st.map (kv_vr ad))) := by
  have C1 := C0
  obtain ⟨hx, hb, hml, hr, hlk, hown, hts, hin, hB, hA, had⟩ := C1
  have hi9 : ∀ {i : Nat}, i < ls.length → i < q.2.2.2.2.1 := fun z => by rw [← hn]; exact z
  have hml9 : c.maxLocals = LS.size := by rw [hml, hl.1]
  cases i with
  | iconst n =>
    dsimp only [kv_ex] at e1
    obtain ⟨rfl, e2⟩ := kv_ln_inv e1
    obtain ⟨rfl, rfl, rfl, rfl⟩ := kv_go_inv e2
    exact lv_iconst hx hb hdg rfl (K LS H locs hW hS hl hn)
  | bipush n =>
    dsimp only [kv_ex] at e1
    obtain ⟨rfl, e2⟩ := kv_ln_inv e1
    obtain ⟨rfl, rfl, rfl, rfl⟩ := kv_go_inv e2
    exact lv_bipush hx hb hdg rfl (K LS H locs hW hS hl hn)
  | sipush n =>
    dsimp only [kv_ex] at e1
    obtain ⟨rfl, e2⟩ := kv_ln_inv e1
    obtain ⟨rfl, rfl, rfl, rfl⟩ := kv_go_inv e2
    exact lv_sipush hx hb hdg rfl (K LS H locs hW hS hl hn)
  | lconst n =>
    dsimp only [kv_ex] at e1
    obtain ⟨rfl, e2⟩ := kv_ln_inv e1
    obtain ⟨rfl, rfl, rfl, rfl⟩ := kv_go_inv e2
    exact lv_lconst hx hb hdg rfl (K LS H locs hW hS hl hn)
  | aconst_null =>
    dsimp only [kv_ex] at e1
    obtain ⟨rfl, e2⟩ := kv_ln_inv e1
    obtain ⟨rfl, rfl, rfl, rfl⟩ := kv_go_inv e2
    exact lv_null hx hb hdg (K LS H locs hW hS hl hn)
  | iload_n k9 =>
    dsimp only [kv_ex] at e1
    obtain ⟨rfl, e2⟩ := kv_ln_inv e1
    split at e2
    · rename_i x hx9
      obtain ⟨rfl, rfl, rfl, rfl⟩ := kv_go_inv e2
      exact lv_iload_n hx hb hdg rfl (hl.2.2 ((k9 : Nat), kv_vr ad (.int x)) (kv_ps_mem.mpr ⟨_, hx9, rfl⟩)) (K LS H locs hW hS hl hn)
    · cases e2
  | iload k9 =>
    dsimp only [kv_ex] at e1
    obtain ⟨rfl, e2⟩ := kv_ln_inv e1
    split at e2
    · rename_i x hx9
      obtain ⟨rfl, rfl, rfl, rfl⟩ := kv_go_inv e2
      exact lv_iload hx hb hdg (hl.2.2 (k9, kv_vr ad (.int x)) (kv_ps_mem.mpr ⟨_, hx9, rfl⟩)) (K LS H locs hW hS hl hn)
    · cases e2
  | lload_n k9 =>
    dsimp only [kv_ex] at e1
    obtain ⟨rfl, e2⟩ := kv_ln_inv e1
    split at e2
    · rename_i x hx9
      obtain ⟨rfl, rfl, rfl, rfl⟩ := kv_go_inv e2
      exact lv_lload_n hx hb hdg rfl (hl.2.2 ((k9 : Nat), kv_vr ad (.long x)) (kv_ps_mem.mpr ⟨_, hx9, rfl⟩)) (K LS H locs hW hS hl hn)
    · cases e2
  | aload_n k9 =>
    dsimp only [kv_ex] at e1
    obtain ⟨rfl, e2⟩ := kv_ln_inv e1
    split at e2
    · rename_i x hx9
      obtain ⟨rfl, rfl, rfl, rfl⟩ := kv_go_inv e2
      exact lv_aload_n hx hb hdg rfl (hl.2.2 ((k9 : Nat), kv_vr ad (.ref x)) (kv_ps_mem.mpr ⟨_, hx9, rfl⟩)) (K LS H locs hW hS hl hn)
    · rename_i hx9
      obtain ⟨rfl, rfl, rfl, rfl⟩ := kv_go_inv e2
      exact lv_aload_nN hx hb hdg rfl (hl.2.2 ((k9 : Nat), kv_vr ad .null) (kv_ps_mem.mpr ⟨_, hx9, rfl⟩)) (K LS H locs hW hS hl hn)
    · cases e2
  | aload k9 =>
    dsimp only [kv_ex] at e1
    obtain ⟨rfl, e2⟩ := kv_ln_inv e1
    split at e2
    · rename_i x hx9
      obtain ⟨rfl, rfl, rfl, rfl⟩ := kv_go_inv e2
      exact lv_aload hx hb hdg (hl.2.2 (k9, kv_vr ad (.ref x)) (kv_ps_mem.mpr ⟨_, hx9, rfl⟩)) (K LS H locs hW hS hl hn)
    · rename_i hx9
      obtain ⟨rfl, rfl, rfl, rfl⟩ := kv_go_inv e2
      exact lv_aloadN hx hb hdg (hl.2.2 (k9, kv_vr ad .null) (kv_ps_mem.mpr ⟨_, hx9, rfl⟩)) (K LS H locs hW hS hl hn)
    · cases e2
  | istore_n k9 =>
    dsimp only [kv_ex] at e1
    obtain ⟨rfl, e2⟩ := kv_ln_inv e1
    obtain ⟨x, r, rfl, e3⟩ := kv_i_inv e2
    obtain ⟨z1, z2, e4⟩ := kv_st_inv e3
    obtain ⟨rfl, rfl, rfl, rfl⟩ := kv_go_inv e4
    exact lv_istore_n hx hb hdg rfl hl (hi9 z1) rfl (fun LS9 hl9 => K LS9 H locs hW hS (kv_sub hl9 (kv_ps_set z2)) (by rw [List.length_set]; exact hn))
  | istore k9 =>
    dsimp only [kv_ex] at e1
    obtain ⟨rfl, e2⟩ := kv_ln_inv e1
    obtain ⟨x, r, rfl, e3⟩ := kv_i_inv e2
    obtain ⟨z1, z2, e4⟩ := kv_st_inv e3
    obtain ⟨rfl, rfl, rfl, rfl⟩ := kv_go_inv e4
    exact lv_istore hx hb hdg hl (hi9 z1) rfl (fun LS9 hl9 => K LS9 H locs hW hS (kv_sub hl9 (kv_ps_set z2)) (by rw [List.length_set]; exact hn))
  | lstore_n k9 =>
    dsimp only [kv_ex] at e1
    obtain ⟨rfl, e2⟩ := kv_ln_inv e1
    obtain ⟨x, r, rfl, e3⟩ := kv_l_inv e2
    obtain ⟨z1, z2, e4⟩ := kv_st2_inv e3
    obtain ⟨rfl, rfl, rfl, rfl⟩ := kv_go_inv e4
    exact lv_lstore_n hx hb hdg rfl hl (hi9 z1) rfl (fun LS9 hl9 => K LS9 H locs hW hS (kv_sub hl9 (kv_ps_set2 z2)) (by rw [List.length_set, List.length_set]; exact hn))
  | astore_n k9 =>
    dsimp only [kv_ex] at e1
    obtain ⟨rfl, e2⟩ := kv_ln_inv e1
    split at e2
    · obtain ⟨z1, z2, e3⟩ := kv_st_inv e2
      obtain ⟨rfl, rfl, rfl, rfl⟩ := kv_go_inv e3
      exact lv_astore_n hx hb hdg rfl hl (hi9 z1) rfl (fun LS9 hl9 => K LS9 H locs hW hS (kv_sub hl9 (kv_ps_set z2)) (by rw [List.length_set]; exact hn))
    · obtain ⟨z1, z2, e3⟩ := kv_st_inv e2
      obtain ⟨rfl, rfl, rfl, rfl⟩ := kv_go_inv e3
      exact lv_astore_nN hx hb hdg rfl hl (hi9 z1) rfl (fun LS9 hl9 => K LS9 H locs hW hS (kv_sub hl9 (kv_ps_set z2)) (by rw [List.length_set]; exact hn))
    · cases e2
  | astore k9 =>
    dsimp only [kv_ex] at e1
    obtain ⟨rfl, e2⟩ := kv_ln_inv e1
    split at e2
    · obtain ⟨z1, z2, e3⟩ := kv_st_inv e2
      obtain ⟨rfl, rfl, rfl, rfl⟩ := kv_go_inv e3
      exact lv_astore hx hb hdg hl (hi9 z1) rfl (fun LS9 hl9 => K LS9 H locs hW hS (kv_sub hl9 (kv_ps_set z2)) (by rw [List.length_set]; exact hn))
    · obtain ⟨z1, z2, e3⟩ := kv_st_inv e2
      obtain ⟨rfl, rfl, rfl, rfl⟩ := kv_go_inv e3
      exact lv_astoreN hx hb hdg hl (hi9 z1) rfl (fun LS9 hl9 => K LS9 H locs hW hS (kv_sub hl9 (kv_ps_set z2)) (by rw [List.length_set]; exact hn))
    · cases e2
  | iinc k9 n9 =>
    dsimp only [kv_ex] at e1
    obtain ⟨rfl, e2⟩ := kv_ln_inv e1
    split at e2
    · rename_i x hx9
      obtain ⟨z1, z2, e3⟩ := kv_st_inv e2
      obtain ⟨rfl, rfl, rfl, rfl⟩ := kv_go_inv e3
      obtain ⟨j9, hj9⟩ := List.getElem?_of_mem (kv_ps_mem (ad := ad) (q := (k9, Value.int x)).mpr ⟨_, hx9, rfl⟩)
      exact lv_iinc hx hb hdg hl hj9 rfl (hi9 z1) rfl (fun LS9 hl9 => K LS9 H locs hW hS (kv_sub hl9 (kv_ps_set z2)) (by rw [List.length_set]; exact hn))
    · cases e2
  | iadd =>
    dsimp only [kv_ex] at e1
    obtain ⟨rfl, e2⟩ := kv_ln_inv e1
    obtain ⟨x, y, r, rfl, e3⟩ := kv_ii_inv e2
    obtain ⟨rfl, rfl, rfl, rfl⟩ := kv_go_inv e3
    exact lv_iadd hx hb hdg (K LS H locs hW hS hl hn)
  | isub =>
    dsimp only [kv_ex] at e1
    obtain ⟨rfl, e2⟩ := kv_ln_inv e1
    obtain ⟨x, y, r, rfl, e3⟩ := kv_ii_inv e2
    obtain ⟨rfl, rfl, rfl, rfl⟩ := kv_go_inv e3
    exact lv_isub hx hb hdg (K LS H locs hW hS hl hn)
  | imul =>
    dsimp only [kv_ex] at e1
    obtain ⟨rfl, e2⟩ := kv_ln_inv e1
    obtain ⟨x, y, r, rfl, e3⟩ := kv_ii_inv e2
    obtain ⟨rfl, rfl, rfl, rfl⟩ := kv_go_inv e3
    exact lv_imul hx hb hdg (K LS H locs hW hS hl hn)
  | iand =>
    dsimp only [kv_ex] at e1
    obtain ⟨rfl, e2⟩ := kv_ln_inv e1
    obtain ⟨x, y, r, rfl, e3⟩ := kv_ii_inv e2
    obtain ⟨rfl, rfl, rfl, rfl⟩ := kv_go_inv e3
    exact lv_iand hx hb hdg (K LS H locs hW hS hl hn)
  | ior =>
    dsimp only [kv_ex] at e1
    obtain ⟨rfl, e2⟩ := kv_ln_inv e1
    obtain ⟨x, y, r, rfl, e3⟩ := kv_ii_inv e2
    obtain ⟨rfl, rfl, rfl, rfl⟩ := kv_go_inv e3
    exact lv_ior hx hb hdg (K LS H locs hW hS hl hn)
  | ixor =>
    dsimp only [kv_ex] at e1
    obtain ⟨rfl, e2⟩ := kv_ln_inv e1
    obtain ⟨x, y, r, rfl, e3⟩ := kv_ii_inv e2
    obtain ⟨rfl, rfl, rfl, rfl⟩ := kv_go_inv e3
    exact lv_ixor hx hb hdg (K LS H locs hW hS hl hn)
  | ishl =>
    dsimp only [kv_ex] at e1
    obtain ⟨rfl, e2⟩ := kv_ln_inv e1
    obtain ⟨x, y, r, rfl, e3⟩ := kv_ii_inv e2
    obtain ⟨rfl, rfl, rfl, rfl⟩ := kv_go_inv e3
    exact lv_ishl hx hb hdg (K LS H locs hW hS hl hn)
  | ishr =>
    dsimp only [kv_ex] at e1
    obtain ⟨rfl, e2⟩ := kv_ln_inv e1
    obtain ⟨x, y, r, rfl, e3⟩ := kv_ii_inv e2
    obtain ⟨rfl, rfl, rfl, rfl⟩ := kv_go_inv e3
    exact lv_ishr hx hb hdg (K LS H locs hW hS hl hn)
  | iushr =>
    dsimp only [kv_ex] at e1
    obtain ⟨rfl, e2⟩ := kv_ln_inv e1
    obtain ⟨x, y, r, rfl, e3⟩ := kv_ii_inv e2
    obtain ⟨rfl, rfl, rfl, rfl⟩ := kv_go_inv e3
    exact lv_iushr hx hb hdg rfl (K LS H locs hW hS hl hn)
  | idiv =>
    dsimp only [kv_ex] at e1
    obtain ⟨rfl, e2⟩ := kv_ln_inv e1
    obtain ⟨x, y, r, rfl, e3⟩ := kv_ii_inv e2
    split at e3
    · cases e3
    · rename_i hy
      obtain ⟨rfl, rfl, rfl, rfl⟩ := kv_go_inv e3
      exact lv_idiv hx hb hdg hy (K LS H locs hW hS hl hn)
  | irem =>
    dsimp only [kv_ex] at e1
    obtain ⟨rfl, e2⟩ := kv_ln_inv e1
    obtain ⟨x, y, r, rfl, e3⟩ := kv_ii_inv e2
    split at e3
    · cases e3
    · rename_i hy
      obtain ⟨rfl, rfl, rfl, rfl⟩ := kv_go_inv e3
      exact lv_irem hx hb hdg hy (K LS H locs hW hS hl hn)
  | ineg =>
    dsimp only [kv_ex] at e1
    obtain ⟨rfl, e2⟩ := kv_ln_inv e1
    obtain ⟨x, r, rfl, e3⟩ := kv_i_inv e2
    obtain ⟨rfl, rfl, rfl, rfl⟩ := kv_go_inv e3
    exact lv_ineg hx hb hdg (K LS H locs hW hS hl hn)
  | ladd =>
    dsimp only [kv_ex] at e1
    obtain ⟨rfl, e2⟩ := kv_ln_inv e1
    obtain ⟨x, y, r, rfl, e3⟩ := kv_ll_inv e2
    obtain ⟨rfl, rfl, rfl, rfl⟩ := kv_go_inv e3
    exact lv_ladd hx hb hdg (K LS H locs hW hS hl hn)
  | lsub =>
    dsimp only [kv_ex] at e1
    obtain ⟨rfl, e2⟩ := kv_ln_inv e1
    obtain ⟨x, y, r, rfl, e3⟩ := kv_ll_inv e2
    obtain ⟨rfl, rfl, rfl, rfl⟩ := kv_go_inv e3
    exact lv_lsub hx hb hdg (K LS H locs hW hS hl hn)
  | lmul =>
    dsimp only [kv_ex] at e1
    obtain ⟨rfl, e2⟩ := kv_ln_inv e1
    obtain ⟨x, y, r, rfl, e3⟩ := kv_ll_inv e2
    obtain ⟨rfl, rfl, rfl, rfl⟩ := kv_go_inv e3
    exact lv_lmul hx hb hdg (K LS H locs hW hS hl hn)
  | ldiv =>
    dsimp only [kv_ex] at e1
    obtain ⟨rfl, e2⟩ := kv_ln_inv e1
    obtain ⟨x, y, r, rfl, e3⟩ := kv_ll_inv e2
    split at e3
    · cases e3
    · rename_i hy
      obtain ⟨rfl, rfl, rfl, rfl⟩ := kv_go_inv e3
      exact lv_ldiv hx hb hdg hy (K LS H locs hW hS hl hn)
  | lrem =>
    dsimp only [kv_ex] at e1
    obtain ⟨rfl, e2⟩ := kv_ln_inv e1
    obtain ⟨x, y, r, rfl, e3⟩ := kv_ll_inv e2
    split at e3
    · cases e3
    · rename_i hy
      obtain ⟨rfl, rfl, rfl, rfl⟩ := kv_go_inv e3
      exact lv_lrem hx hb hdg hy (K LS H locs hW hS hl hn)
  | lcmp =>
    dsimp only [kv_ex] at e1
    obtain ⟨rfl, e2⟩ := kv_ln_inv e1
    obtain ⟨x, y, r, rfl, e3⟩ := kv_ll_inv e2
    obtain ⟨rfl, rfl, rfl, rfl⟩ := kv_go_inv e3
    exact W.lcmp hx hb hdg (K LS H locs hW hS hl hn)
  | lushr =>
    dsimp only [kv_ex] at e1
    obtain ⟨rfl, e2⟩ := kv_ln_inv e1
    obtain ⟨x, y, r, rfl, e3⟩ := kv_li_inv e2
    obtain ⟨rfl, rfl, rfl, rfl⟩ := kv_go_inv e3
    exact lv_lushr hx hb hdg rfl (K LS H locs hW hS hl hn)
  | i2l =>
    dsimp only [kv_ex] at e1
    obtain ⟨rfl, e2⟩ := kv_ln_inv e1
    obtain ⟨x, r, rfl, e3⟩ := kv_i_inv e2
    obtain ⟨rfl, rfl, rfl, rfl⟩ := kv_go_inv e3
    exact lv_i2l hx hb hdg rfl (K LS H locs hW hS hl hn)
  | i2b =>
    dsimp only [kv_ex] at e1
    obtain ⟨rfl, e2⟩ := kv_ln_inv e1
    obtain ⟨x, r, rfl, e3⟩ := kv_i_inv e2
    obtain ⟨rfl, rfl, rfl, rfl⟩ := kv_go_inv e3
    exact lv_i2b hx hb hdg rfl (K LS H locs hW hS hl hn)
  | i2c =>
    dsimp only [kv_ex] at e1
    obtain ⟨rfl, e2⟩ := kv_ln_inv e1
    obtain ⟨x, r, rfl, e3⟩ := kv_i_inv e2
    obtain ⟨rfl, rfl, rfl, rfl⟩ := kv_go_inv e3
    exact lv_i2c hx hb hdg rfl (K LS H locs hW hS hl hn)
  | l2i =>
    dsimp only [kv_ex] at e1
    obtain ⟨rfl, e2⟩ := kv_ln_inv e1
    obtain ⟨x, r, rfl, e3⟩ := kv_l_inv e2
    obtain ⟨rfl, rfl, rfl, rfl⟩ := kv_go_inv e3
    exact lv_l2i hx hb hdg rfl (K LS H locs hW hS hl hn)
  | ifCond cnd off =>
    cases cnd with
    | eq =>
      dsimp only [kv_ex] at e1
      obtain ⟨rfl, e2⟩ := kv_ln_inv e1
      obtain ⟨x, r, rfl, e3⟩ := kv_i_inv e2
      obtain ⟨t, ht, e4⟩ := kv_tg_inv e3
      split at e4
      · rename_i hc
        obtain ⟨rfl, rfl, rfl, rfl⟩ := kv_go_inv e4
        exact lv_if_eq hx hb hdg ht (fun _ => K LS H locs hW hS hl hn) (fun hc9 => by first | exact absurd hc hc9 | exact absurd hc9 hc)
      · rename_i hc
        obtain ⟨rfl, rfl, rfl, rfl⟩ := kv_go_inv e4
        exact lv_if_eq hx hb hdg ht (fun hc9 => by first | exact absurd hc9 hc | exact absurd hc hc9) (fun _ => K LS H locs hW hS hl hn)
    | ne =>
      dsimp only [kv_ex] at e1
      obtain ⟨rfl, e2⟩ := kv_ln_inv e1
      obtain ⟨x, r, rfl, e3⟩ := kv_i_inv e2
      obtain ⟨t, ht, e4⟩ := kv_tg_inv e3
      split at e4
      · rename_i hc
        obtain ⟨rfl, rfl, rfl, rfl⟩ := kv_go_inv e4
        exact lv_if_ne hx hb hdg ht (fun _ => K LS H locs hW hS hl hn) (fun hc9 => by first | exact absurd hc hc9 | exact absurd hc9 hc)
      · rename_i hc
        obtain ⟨rfl, rfl, rfl, rfl⟩ := kv_go_inv e4
        exact lv_if_ne hx hb hdg ht (fun hc9 => by first | exact absurd hc9 hc | exact absurd hc hc9) (fun _ => K LS H locs hW hS hl hn)
    | lt =>
      dsimp only [kv_ex] at e1
      obtain ⟨rfl, e2⟩ := kv_ln_inv e1
      obtain ⟨x, r, rfl, e3⟩ := kv_i_inv e2
      obtain ⟨t, ht, e4⟩ := kv_tg_inv e3
      split at e4
      · rename_i hc
        obtain ⟨rfl, rfl, rfl, rfl⟩ := kv_go_inv e4
        exact lv_if_lt hx hb hdg ht (fun _ => K LS H locs hW hS hl hn) (fun hc9 => by first | exact absurd hc hc9 | exact absurd hc9 hc)
      · rename_i hc
        obtain ⟨rfl, rfl, rfl, rfl⟩ := kv_go_inv e4
        exact lv_if_lt hx hb hdg ht (fun hc9 => by first | exact absurd hc9 hc | exact absurd hc hc9) (fun _ => K LS H locs hW hS hl hn)
    | ge =>
      dsimp only [kv_ex] at e1
      obtain ⟨rfl, e2⟩ := kv_ln_inv e1
      obtain ⟨x, r, rfl, e3⟩ := kv_i_inv e2
      obtain ⟨t, ht, e4⟩ := kv_tg_inv e3
      split at e4
      · rename_i hc
        obtain ⟨rfl, rfl, rfl, rfl⟩ := kv_go_inv e4
        exact lv_if_ge hx hb hdg ht (fun _ => K LS H locs hW hS hl hn) (fun hc9 => by first | exact absurd hc hc9 | exact absurd hc9 hc)
      · rename_i hc
        obtain ⟨rfl, rfl, rfl, rfl⟩ := kv_go_inv e4
        exact lv_if_ge hx hb hdg ht (fun hc9 => by first | exact absurd hc9 hc | exact absurd hc hc9) (fun _ => K LS H locs hW hS hl hn)
    | gt =>
      dsimp only [kv_ex] at e1
      obtain ⟨rfl, e2⟩ := kv_ln_inv e1
      obtain ⟨x, r, rfl, e3⟩ := kv_i_inv e2
      obtain ⟨t, ht, e4⟩ := kv_tg_inv e3
      split at e4
      · rename_i hc
        obtain ⟨rfl, rfl, rfl, rfl⟩ := kv_go_inv e4
        exact lv_if_gt hx hb hdg ht (fun _ => K LS H locs hW hS hl hn) (fun hc9 => by first | exact absurd hc hc9 | exact absurd hc9 hc)
      · rename_i hc
        obtain ⟨rfl, rfl, rfl, rfl⟩ := kv_go_inv e4
        exact lv_if_gt hx hb hdg ht (fun hc9 => by first | exact absurd hc9 hc | exact absurd hc hc9) (fun _ => K LS H locs hW hS hl hn)
    | le =>
      dsimp only [kv_ex] at e1
      obtain ⟨rfl, e2⟩ := kv_ln_inv e1
      obtain ⟨x, r, rfl, e3⟩ := kv_i_inv e2
      obtain ⟨t, ht, e4⟩ := kv_tg_inv e3
      split at e4
      · rename_i hc
        obtain ⟨rfl, rfl, rfl, rfl⟩ := kv_go_inv e4
        exact lv_if_le hx hb hdg ht (fun _ => K LS H locs hW hS hl hn) (fun hc9 => by first | exact absurd hc hc9 | exact absurd hc9 hc)
      · rename_i hc
        obtain ⟨rfl, rfl, rfl, rfl⟩ := kv_go_inv e4
        exact lv_if_le hx hb hdg ht (fun hc9 => by first | exact absurd hc9 hc | exact absurd hc hc9) (fun _ => K LS H locs hW hS hl hn)
  | if_icmp cnd off =>
    cases cnd with
    | eq =>
      dsimp only [kv_ex] at e1
      obtain ⟨rfl, e2⟩ := kv_ln_inv e1
      obtain ⟨x, y, r, rfl, e3⟩ := kv_ii_inv e2
      obtain ⟨t, ht, e4⟩ := kv_tg_inv e3
      split at e4
      · rename_i hc
        obtain ⟨rfl, rfl, rfl, rfl⟩ := kv_go_inv e4
        exact lv_icmp_eq hx hb hdg ht (fun _ => K LS H locs hW hS hl hn) (fun hc9 => by first | exact absurd hc hc9 | exact absurd hc9 hc)
      · rename_i hc
        obtain ⟨rfl, rfl, rfl, rfl⟩ := kv_go_inv e4
        exact lv_icmp_eq hx hb hdg ht (fun hc9 => by first | exact absurd hc9 hc | exact absurd hc hc9) (fun _ => K LS H locs hW hS hl hn)
    | ne =>
      dsimp only [kv_ex] at e1
      obtain ⟨rfl, e2⟩ := kv_ln_inv e1
      obtain ⟨x, y, r, rfl, e3⟩ := kv_ii_inv e2
      obtain ⟨t, ht, e4⟩ := kv_tg_inv e3
      split at e4
      · rename_i hc
        obtain ⟨rfl, rfl, rfl, rfl⟩ := kv_go_inv e4
        exact lv_icmp_ne hx hb hdg ht (fun _ => K LS H locs hW hS hl hn) (fun hc9 => by first | exact absurd hc hc9 | exact absurd hc9 hc)
      · rename_i hc
        obtain ⟨rfl, rfl, rfl, rfl⟩ := kv_go_inv e4
        exact lv_icmp_ne hx hb hdg ht (fun hc9 => by first | exact absurd hc9 hc | exact absurd hc hc9) (fun _ => K LS H locs hW hS hl hn)
    | lt =>
      dsimp only [kv_ex] at e1
      obtain ⟨rfl, e2⟩ := kv_ln_inv e1
      obtain ⟨x, y, r, rfl, e3⟩ := kv_ii_inv e2
      obtain ⟨t, ht, e4⟩ := kv_tg_inv e3
      split at e4
      · rename_i hc
        obtain ⟨rfl, rfl, rfl, rfl⟩ := kv_go_inv e4
        exact lv_icmp_lt hx hb hdg ht (fun _ => K LS H locs hW hS hl hn) (fun hc9 => by first | exact absurd hc hc9 | exact absurd hc9 hc)
      · rename_i hc
        obtain ⟨rfl, rfl, rfl, rfl⟩ := kv_go_inv e4
        exact lv_icmp_lt hx hb hdg ht (fun hc9 => by first | exact absurd hc9 hc | exact absurd hc hc9) (fun _ => K LS H locs hW hS hl hn)
    | ge =>
      dsimp only [kv_ex] at e1
      obtain ⟨rfl, e2⟩ := kv_ln_inv e1
      obtain ⟨x, y, r, rfl, e3⟩ := kv_ii_inv e2
      obtain ⟨t, ht, e4⟩ := kv_tg_inv e3
      split at e4
      · rename_i hc
        obtain ⟨rfl, rfl, rfl, rfl⟩ := kv_go_inv e4
        exact lv_icmp_ge hx hb hdg ht (fun _ => K LS H locs hW hS hl hn) (fun hc9 => by first | exact absurd hc hc9 | exact absurd hc9 hc)
      · rename_i hc
        obtain ⟨rfl, rfl, rfl, rfl⟩ := kv_go_inv e4
        exact lv_icmp_ge hx hb hdg ht (fun hc9 => by first | exact absurd hc9 hc | exact absurd hc hc9) (fun _ => K LS H locs hW hS hl hn)
    | gt =>
      dsimp only [kv_ex] at e1
      obtain ⟨rfl, e2⟩ := kv_ln_inv e1
      obtain ⟨x, y, r, rfl, e3⟩ := kv_ii_inv e2
      obtain ⟨t, ht, e4⟩ := kv_tg_inv e3
      split at e4
      · rename_i hc
        obtain ⟨rfl, rfl, rfl, rfl⟩ := kv_go_inv e4
        exact lv_icmp_gt hx hb hdg ht (fun _ => K LS H locs hW hS hl hn) (fun hc9 => by first | exact absurd hc hc9 | exact absurd hc9 hc)
      · rename_i hc
        obtain ⟨rfl, rfl, rfl, rfl⟩ := kv_go_inv e4
        exact lv_icmp_gt hx hb hdg ht (fun hc9 => by first | exact absurd hc9 hc | exact absurd hc hc9) (fun _ => K LS H locs hW hS hl hn)
    | le =>
      dsimp only [kv_ex] at e1
      obtain ⟨rfl, e2⟩ := kv_ln_inv e1
      obtain ⟨x, y, r, rfl, e3⟩ := kv_ii_inv e2
      obtain ⟨t, ht, e4⟩ := kv_tg_inv e3
      split at e4
      · rename_i hc
        obtain ⟨rfl, rfl, rfl, rfl⟩ := kv_go_inv e4
        exact lv_icmp_le hx hb hdg ht (fun _ => K LS H locs hW hS hl hn) (fun hc9 => by first | exact absurd hc hc9 | exact absurd hc9 hc)
      · rename_i hc
        obtain ⟨rfl, rfl, rfl, rfl⟩ := kv_go_inv e4
        exact lv_icmp_le hx hb hdg ht (fun hc9 => by first | exact absurd hc9 hc | exact absurd hc hc9) (fun _ => K LS H locs hW hS hl hn)
  | goto off =>
    dsimp only [kv_ex] at e1
    obtain ⟨rfl, e2⟩ := kv_ln_inv e1
    obtain ⟨t, ht, e3⟩ := kv_tg_inv e2
    obtain ⟨rfl, rfl, rfl, rfl⟩ := kv_go_inv e3
    exact lv_goto hx hb hdg ht (K LS H locs hW hS hl hn)
  | ifnonnull off =>
    dsimp only [kv_ex] at e1
    obtain ⟨rfl, e2⟩ := kv_ln_inv e1
    split at e2
    · obtain ⟨t, ht, e3⟩ := kv_tg_inv e2
      obtain ⟨rfl, rfl, rfl, rfl⟩ := kv_go_inv e3
      exact lv_ifnonnull hx hb hdg ht (K LS H locs hW hS hl hn)
    · obtain ⟨rfl, rfl, rfl, rfl⟩ := kv_go_inv e2
      exact lv_ifnonnullN hx hb hdg (K LS H locs hW hS hl hn)
    · cases e2
  | dup =>
    dsimp only [kv_ex] at e1
    obtain ⟨rfl, e2⟩ := kv_ln_inv e1
    split at e2
    · split at e2
      · rename_i v r hv
        obtain ⟨rfl, rfl, rfl, rfl⟩ := kv_go_inv e2
        exact lv_dup hx hb hdg (by rw [kv_vr_cat]; exact hv) (K LS H locs hW hS hl hn)
      · cases e2
    · cases e2
  | dup2 =>
    dsimp only [kv_ex] at e1
    obtain ⟨rfl, e2⟩ := kv_ln_inv e1
    split at e2
    · split at e2
      · rename_i v w r hv
        obtain ⟨rfl, rfl, rfl, rfl⟩ := kv_go_inv e2
        exact lv_dup2_11 hx hb hdg (by rw [kv_vr_cat]; exact hv.1) (by rw [kv_vr_cat]; exact hv.2) (K LS H locs hW hS hl hn)
      · cases e2
    · cases e2
  | pop =>
    dsimp only [kv_ex] at e1
    obtain ⟨rfl, e2⟩ := kv_ln_inv e1
    split at e2
    · split at e2
      · rename_i v r hv
        obtain ⟨rfl, rfl, rfl, rfl⟩ := kv_go_inv e2
        exact lv_pop hx hb hdg (by rw [kv_vr_cat]; exact hv) (K LS H locs hW hS hl hn)
      · cases e2
    · cases e2
  | ldc k9 =>
    dsimp only [kv_ex] at e1
    obtain ⟨rfl, e2⟩ := kv_ln_inv e1
    split at e2
    · rename_i v hv
      obtain ⟨rfl, rfl, rfl, rfl⟩ := kv_go_inv e2
      have hw : (Jvm.Cond.constant (kv_R q.1) k9 v).before args s = true := kv_hw hts kv_ws_LC (List.mem_map_of_mem (f := fun q : Nat × Nat × Int32 => Jvm.Cond.constant (kv_R q.1) q.2.1 q.2.2) (kv_lk_inv hv)) rfl
      exact lv_ldc hx hb hown hw hdg (K LS H locs hW hS hl hn)
    · split at e2
      · rename_i v hv
        split at e2
        · obtain ⟨rfl, rfl, rfl, rfl⟩ := kv_go_inv e2
          exact va_ldcS hx hb hown (hB.2.2.2.2.2.2.1 _ (kv_lk_inv hv)) hdg (K LS H locs hW hS hl hn)
        · cases e2
      · cases e2
  | ldc_w k9 =>
    dsimp only [kv_ex] at e1
    obtain ⟨rfl, e2⟩ := kv_ln_inv e1
    split at e2
    · rename_i v hv
      obtain ⟨rfl, rfl, rfl, rfl⟩ := kv_go_inv e2
      have hw : (Jvm.Cond.constant (kv_R q.1) k9 v).before args s = true := kv_hw hts kv_ws_LC (List.mem_map_of_mem (f := fun q : Nat × Nat × Int32 => Jvm.Cond.constant (kv_R q.1) q.2.1 q.2.2) (kv_lk_inv hv)) rfl
      exact lv_ldcw hx hb hown hw hdg (K LS H locs hW hS hl hn)
    · cases e2
  | ldc2_w k9 =>
    dsimp only [kv_ex] at e1
    obtain ⟨rfl, e2⟩ := kv_ln_inv e1
    split at e2
    · rename_i v hv
      obtain ⟨rfl, rfl, rfl, rfl⟩ := kv_go_inv e2
      have hw : (Jvm.Cond.constantLong (kv_R q.1) k9 v).before args s = true := kv_hw hts kv_ws_LL (List.mem_map_of_mem (f := fun q : Nat × Nat × Int64 => Jvm.Cond.constantLong (kv_R q.1) q.2.1 q.2.2) (kv_lk_inv hv)) rfl
      exact lv_ldc2 hx hb hown hw hdg (K LS H locs hW hS hl hn)
    · cases e2
  | tableswitch dflt lo hi offs =>
    dsimp only [kv_ex] at e1
    obtain ⟨x, r, rfl, e2⟩ := kv_i_inv e1
    split at e2
    · rename_i hc
      obtain ⟨t, ht, e3⟩ := kv_tg_inv e2
      obtain ⟨rfl, rfl, rfl, rfl⟩ := kv_go_inv e3
      exact lv_tableOut hx hb hdg hc ht (K LS H locs hW hS hl hn)
    · rename_i hc
      split at e2
      · rename_i off ho
        obtain ⟨t, ht, e3⟩ := kv_tg_inv e2
        obtain ⟨rfl, rfl, rfl, rfl⟩ := kv_go_inv e3
        exact lv_tableIn hx hb hdg (fun z => hc (Or.inl z)) (fun z => hc (Or.inr z)) ho ht (K LS H locs hW hS hl hn)
      · cases e2
  | lookupswitch dflt ps =>
    dsimp only [kv_ex] at e1
    split at e1
    · rename_i hp
      obtain ⟨x, r, rfl, e2⟩ := kv_i_inv e1
      obtain ⟨t, ht, e3⟩ := kv_tg_inv e2
      obtain ⟨rfl, rfl, rfl, rfl⟩ := kv_go_inv e3
      exact lv_lookup hx hb hdg hp rfl ht (K LS H locs hW hS hl hn)
    · cases e1
  | getstatic k9 =>
    dsimp only [kv_ex] at e1
    obtain ⟨rfl, e2⟩ := kv_ln_inv e1
    split at e2
    · rename_i hv
      obtain ⟨rfl, rfl, rfl, rfl⟩ := kv_go_inv e2
      exact va_gets hx hb hB.2.2.2.2.2.1 hS hown (kv_hw hts kv_ws_GS (List.mem_map_of_mem (f := kv_GSw) (kv_lk_inv hv)) rfl) (fun _ z => z) hdg (K LS H locs hW hS hl hn)
    · rename_i w hne9 hv
      split at e2
      · rename_i hw6
        obtain ⟨rfl, rfl, rfl, rfl⟩ := kv_go_inv e2
        exact va_gets hx hb (hB.2.2.2.2.1 w hw6).1 hS hown (kv_hw hts kv_ws_GS (List.mem_map_of_mem (f := kv_GSw) (kv_lk_inv hv)) rfl) (fun _ z => z) hdg (K LS H locs hW hS hl hn)
      · cases e2
    · cases e2
  | getfield k9 =>
    dsimp only [kv_ex] at e1
    obtain ⟨rfl, e2⟩ := kv_ln_inv e1
    obtain ⟨a, r, rfl, e3⟩ := kv_r_inv e2
    exact kv_s_get C0 hdg e3 hW hS (fun z1 z2 => by subst z1; subst z2; exact K LS H locs hW hS hl hn)
  | putfield k9 =>
    dsimp only [kv_ex] at e1
    obtain ⟨rfl, e2⟩ := kv_ln_inv e1
    exact kv_s_put C0 hdg e2 hW hS (fun z1 z2 z3 H9 locs9 hW9 hS9 => by subst z1; rw [← z2, ← z3]; exact K LS H9 locs9 hW9 hS9 hl hn)
  | iaload =>
    dsimp only [kv_ex] at e1
    obtain ⟨rfl, e2⟩ := kv_ln_inv e1
    obtain ⟨a, i, r, rfl, e3⟩ := kv_ri_inv e2
    split at e3
    · split at e3
      · rename_i n hae
        split at e3
        · cases e3
        · rename_i hi
          obtain ⟨rfl, rfl, rfl, rfl⟩ := kv_go_inv e3
          exact va_iald (tys := kv_tys k) hx hb hB.1 hW.1 a 0 (kv_w_get hae) rfl hi hdg (K LS H locs hW hS hl hn)
      · cases e3
    · split at e3
      · rename_i ha1 ha2
        obtain ⟨w, rfl⟩ : ∃ w, a = 300 + w := ⟨a - 300, (Nat.add_sub_cancel' (Nat.not_lt.mp ‹_›)).symm⟩
        obtain ⟨l9, hl9, hi, e4⟩ := kv_ald_inv e3
        obtain ⟨hw6, hw7⟩ := kv_SA_ix hl9
        obtain ⟨rfl, rfl, rfl, rfl⟩ := kv_go_inv e4
        exact va_ti hx hb (hB.2.2.2.2.1 w hw6).2 hS (by rw [hw7]; exact hi) (by rw [hw7]; rfl) hdg (K LS H locs hW hS hl hn)
      · cases e3
  | baload =>
    dsimp only [kv_ex] at e1
    obtain ⟨rfl, e2⟩ := kv_ln_inv e1
    obtain ⟨a, i, r, rfl, e3⟩ := kv_ri_inv e2
    split at e3
    · rename_i ha2
      obtain ⟨w, rfl⟩ : ∃ w, a = 310 + w := ⟨a - 310, (Nat.add_sub_cancel' ‹_›).symm⟩
      obtain ⟨l9, hl9, hi, e4⟩ := kv_ald_inv e3
      obtain ⟨hw6, hw7⟩ := kv_SB_ix hl9
      obtain ⟨rfl, rfl, rfl, rfl⟩ := kv_go_inv e4
      exact va_tb hx hb (hB.2.2.2.2.2.2.2 w hw6).2.2.2 hS (by rw [hw7]; exact hi) (by rw [hw7]; rfl) hdg (K LS H locs hW hS hl hn)
    · cases e3
  | iastore =>
    dsimp only [kv_ex] at e1
    obtain ⟨rfl, e2⟩ := kv_ln_inv e1
    split at e2
    · rename_i v i a r
      split at e2
      · split at e2
        · rename_i n hae
          split at e2
          · cases e2
          · rename_i hi
            obtain ⟨rfl, rfl, rfl, rfl⟩ := kv_go_inv e2
            refine kv_s_iast hx hb hB.1 hW.1 hW.2.1 hS (kv_w_get hae) hi hdg (fun H1 locs1 hsz hP1 hD1 hS1 => ?_)
            refine K LS H1 locs1 (kv_W_z hW hae (fun b hb9 => ⟨kv_z_ne _ _ hb9, rfl⟩) hsz ?_ ?_) hS1 hl hn
            · rw [show kv_c ad k (h.1, kv_z h.2.1 a (upd (h.2.1 a) i.toNatClampNeg v), h.2.2) a (Sum.inl n) = Sum.inl (k.1, n, Sum.inl (upd (h.2.1 a) i.toNatClampNeg v)) from by simp only [kv_c, kv_z_same]]
              exact hP1
            · rw [show kv_c ad k (h.1, kv_z h.2.1 a (upd (h.2.1 a) i.toNatClampNeg v), h.2.2) a (Sum.inl n) = Sum.inl (k.1, n, Sum.inl (upd (h.2.1 a) i.toNatClampNeg v)) from by simp only [kv_c, kv_z_same]]
              exact hD1
        · cases e2
      · cases e2
    · cases e2
  | aaload =>
    dsimp only [kv_ex] at e1
    obtain ⟨rfl, e2⟩ := kv_ln_inv e1
    obtain ⟨a, i, r, rfl, e3⟩ := kv_ri_inv e2
    split at e3
    · split at e3
      · rename_i t l9 hae
        split at e3
        · cases e3
        · rename_i hi
          obtain ⟨rfl, rfl, rfl, rfl⟩ := kv_go_inv e3
          obtain ⟨t0, ht0⟩ := kv_kind t (hW.2.2.2.2.1 a t l9 hae) k
          have K9 := K LS H locs hW hS hl hn
          rw [List.map_cons, kv_vr_rf] at K9
          exact va_aldq (tys := kv_tys k) hx hb hB.1 hW.1 a t0 (kv_w_get hae) ht0 hi hdg K9
      · cases e3
    · cases e3
  | aastore =>
    dsimp only [kv_ex] at e1
    obtain ⟨rfl, e2⟩ := kv_ln_inv e1
    exact kv_s_ars C0 hdg e2 hW hS (fun z1 z2 z3 H9 locs9 hW9 hS9 => by subst z1; rw [← z2, ← z3]; exact K LS H9 locs9 hW9 hS9 hl hn)
  | arraylength =>
    dsimp only [kv_ex] at e1
    obtain ⟨rfl, e2⟩ := kv_ln_inv e1
    obtain ⟨a, r, rfl, e3⟩ := kv_r_inv e2
    unfold kv_len at e3
    split at e3
    · split at e3
      · rename_i n hae
        obtain ⟨rfl, rfl, rfl, rfl⟩ := kv_go_inv e3
        exact va_alen (tys := kv_tys k) hx hb hB.1 hW.1 a 0 (kv_w_get hae) rfl rfl hdg (K LS H locs hW hS hl hn)
      · rename_i t l9 hae
        obtain ⟨rfl, rfl, rfl, rfl⟩ := kv_go_inv e3
        obtain ⟨t0, ht0⟩ := kv_kind t (hW.2.2.2.2.1 a t l9 hae) k
        exact va_alen (tys := kv_tys k) hx hb hB.1 hW.1 a t0 (kv_w_get hae) ht0 rfl hdg (K LS H locs hW hS hl hn)
      · cases e3
    · split at e3
      · rename_i ha1 l9 hl9
        obtain ⟨rfl, rfl, rfl, rfl⟩ := kv_go_inv e3
        split at hl9
        · rename_i ha2
          obtain ⟨w, rfl⟩ : ∃ w, a = 300 + w := ⟨a - 300, (Nat.add_sub_cancel' (Nat.not_lt.mp ‹_›)).symm⟩
          rw [kv_sub0] at hl9
          obtain ⟨hw6, hw7⟩ := kv_SA_ix hl9
          exact va_tlen hx hb (hB.2.2.2.2.1 w hw6).2 hS (by rw [hw7]) hdg (K LS H locs hW hS hl hn)
        · split at hl9
          · obtain ⟨w, rfl⟩ : ∃ w, a = 310 + w := ⟨a - 310, (Nat.add_sub_cancel' ‹_›).symm⟩
            rw [kv_sub10] at hl9
            obtain ⟨hw6, hw7⟩ := kv_SB_ix hl9
            exact va_tlen hx hb (hB.2.2.2.2.2.2.2 w hw6).2.2.2 hS (by rw [hw7]) hdg (K LS H locs hW hS hl hn)
          · cases hl9
      · cases e3
  | newarray ty =>
    cases ty with
    | int =>
      dsimp only [kv_ex] at e1
      obtain ⟨rfl, e2⟩ := kv_ln_inv e1
      obtain ⟨n, r, rfl, e3⟩ := kv_i_inv e2
      split at e3
      · cases e3
      · rename_i hc
        obtain ⟨rfl, rfl, rfl, rfl⟩ := kv_go_inv e3
        have hlen : (h.1 ++ [Sum.inl n.toNatClampNeg] : List kv_E).length = h.1.length + 1 := by simp
        have hsl : kv_sl (h.1 ++ [Sum.inl n.toNatClampNeg] : List kv_E) = kv_sl h.1 + n.toNatClampNeg := kv_sl_push _ _
        have hR3 := hR.2.2.1
        have hR4 := hR.2.2.2
        dsimp only at hR3 hR4
        rw [hlen] at hR3
        rw [hsl] at hR4
        have hha : H.size = ad h.1.length := hW.2.2.1
        refine va_newaK hx hb (hts _ (kv_g (kv_one 5 rfl) rfl)) rfl hdg rfl (fun z => hc (Or.inl z)) rfl (by show n.toNatClampNeg * 4 ≤ _; omega) (by omega) (by omega) rfl (fun H1 cA a1 a2 a3 a4 a5 => ?_)
        have hcA : cA = k.1 := Option.some.inj (a5.symm.trans (hB.1.2 0 (k.1, .int) rfl).2)
        subst hcA
        refine W.widen (k := (h.1 ++ [Sum.inl n.toNatClampNeg] : List kv_E).length - n0) (n := kv_sl (h.1 ++ [Sum.inl n.toNatClampNeg] : List kv_E) - s0) (by omega) (by omega) ?_
        have K9 := K LS H1 locs (kv_W_push hW (hA _ (by rw [← hha]; exact hS.1)) (had _ (by omega) h0) a2 a3 (fun t l z => by cases z) (fun ci fl z => by cases z) (by
          show H1[ad h.1.length]? = some (vp_cell k.1 (n.toNatClampNeg, .inl (h.2.1 h.1.length)))
          rw [← hha, a1, vp_cell_i]
          congr 2
          funext j
          rw [(hW.2.2.2.1 h.1.length (Nat.le_refl _)).1 j]
          rfl)) ⟨Nat.le_trans hS.1 (by omega), fun x y1 y2 => (a3 x (Nat.lt_of_lt_of_le y1 hS.1)).trans (hS.2.1 x y1 y2), hS.2.2⟩ hl hn
        rw [List.map_cons, show kv_vr ad (.ref h.1.length) = .ref H.size from by rw [hha]; rfl] at K9
        exact K9
    | _ =>
      dsimp only [kv_ex] at e1
      cases e1
  | anewarray k9 =>
    dsimp only [kv_ex] at e1
    obtain ⟨rfl, e2⟩ := kv_ln_inv e1
    split at e2
    · rename_i ci hk
      obtain ⟨n, r, rfl, e3⟩ := kv_i_inv e2
      split at e3
      · cases e3
      · rename_i hc
        obtain ⟨rfl, rfl, rfl, rfl⟩ := kv_go_inv e3
        have hci : ci = 9 ∨ ci = 5 := Classical.byContradiction fun z => hc (Or.inr (Or.inr (Or.inr z)))
        have hlen : (h.1 ++ [Sum.inr (Sum.inl (ci, List.replicate n.toNatClampNeg none))] : List kv_E).length = h.1.length + 1 := by simp
        have hsl : kv_sl (h.1 ++ [Sum.inr (Sum.inl (ci, List.replicate n.toNatClampNeg none))] : List kv_E) = kv_sl h.1 + n.toNatClampNeg := by rw [kv_sl_push]; simp [kv_szE]
        have hR3 := hR.2.2.1
        have hR4 := hR.2.2.2
        dsimp only at hR3 hR4
        rw [hlen] at hR3
        rw [hsl] at hR4
        have hha : H.size = ad h.1.length := hW.2.2.1
        have hAO : va_AO (kv_R ci) s := by
          rcases hci with rfl | rfl
          · exact hB.2.2.2.1.1
          · exact hB.2.2.2.1.2
        have hw : (Jvm.Cond.classLink (kv_R q.1) k9 (kv_R ci)).before args s = true := kv_hw hts kv_ws_AN (List.mem_map_of_mem (f := fun q : Nat × Nat × Nat => Jvm.Cond.classLink (kv_R q.1) q.2.1 (kv_R q.2.2)) (kv_lk_inv hk)) rfl
        refine W.anew hx hb hown hw (va_AO.use hAO) rfl hdg rfl (fun z => hc (Or.inl z)) (by omega) (by omega) (by omega) (fun cA kA comp f1 f2 f3 f4 => ?_)
        obtain ⟨t0, ht0⟩ := kv_kind ci hci k
        have hcA : cA = kv_kc k ci := by
          obtain ⟨kA2, comp2, -, -, -, z4⟩ := (hB.1.2 t0 _ ht0).2
          exact Option.some.inj (f1.symm.trans z4)
        subst hcA
        generalize hH1 : H.push ({ cls := kv_kc k ci, slots := Array.replicate n.toNatClampNeg .null, vm := .none } : Cell) = H1
        have a2 : H1.size = H.size + 1 := by rw [← hH1, Array.size_push]
        have a1 : H1[H.size]? = some (arrV (kv_kc k ci) n.toNatClampNeg (fun _ => .null)) := by rw [← hH1, Array.getElem?_push_size, ← arrV_new]
        have a3 : ∀ z : Nat, z < H.size → H1[z]? = H[z]? := fun z hz => by rw [← hH1, Array.getElem?_push, if_neg (Nat.ne_of_lt hz)]
        refine W.widen (k := (h.1 ++ [Sum.inr (Sum.inl (ci, List.replicate n.toNatClampNeg none))] : List kv_E).length - n0) (n := kv_sl (h.1 ++ [Sum.inr (Sum.inl (ci, List.replicate n.toNatClampNeg none))] : List kv_E) - s0) (by omega) (by omega) ?_
        have K9 := K LS H1 locs (kv_W_push hW (hA _ (by rw [← hha]; exact hS.1)) (had _ (by omega) h0) a2 a3 (fun t l z => by cases z; exact hci) (fun ci fl z => by cases z) (by
          show H1[ad h.1.length]? = some (vp_cell (kv_kc k ci) ((List.replicate n.toNatClampNeg (none : Option Nat)).length, .inr (.inr (.inr (.inr (fun j => ((List.replicate n.toNatClampNeg (none : Option Nat)).getD j none).map ad))))))
          rw [← hha, a1, vp_cell_q, List.length_replicate]
          congr 2
          funext j
          rw [List.getD_eq_getElem?_getD, List.getElem?_replicate]
          split <;> rfl)) ⟨Nat.le_trans hS.1 (by omega), fun x y1 y2 => (a3 x (Nat.lt_of_lt_of_le y1 hS.1)).trans (hS.2.1 x y1 y2), hS.2.2⟩ hl hn
        rw [List.map_cons, show kv_vr ad (.ref h.1.length) = .ref H.size from by rw [hha]; rfl] at K9
        exact K9
    · cases e2
  | new k9 =>
    dsimp only [kv_ex] at e1
    obtain ⟨rfl, e2⟩ := kv_ln_inv e1
    split at e2
    · rename_i ci hk
      split at e2
      · cases e2
      · rename_i hc
        obtain ⟨rfl, rfl, rfl, rfl⟩ := kv_go_inv e2
        have hci : ci < 13 := by omega
        have hfl := kv_fl_len ci hci
        have hlen : (h.1 ++ [Sum.inr (Sum.inr (ci, kv_fl ci))] : List kv_E).length = h.1.length + 1 := by simp
        have hsl : kv_sl (h.1 ++ [Sum.inr (Sum.inr (ci, kv_fl ci))] : List kv_E) = kv_sl h.1 + kv_N ci := by rw [kv_sl_push]; show _ + (kv_fl ci).length = _; rw [hfl]
        have hR3 := hR.2.2.1
        have hR4 := hR.2.2.2
        dsimp only at hR3 hR4
        rw [hlen] at hR3
        rw [hsl] at hR4
        have hha : H.size = ad h.1.length := hW.2.2.1
        have hw : (Jvm.Cond.classLink (kv_R q.1) k9 (kv_R ci)).before args s = true := kv_hw hts kv_ws_NC (List.mem_map_of_mem (f := fun q : Nat × Nat × Nat => Jvm.Cond.classLink (kv_R q.1) q.2.1 (kv_R q.2.2)) (kv_lk_inv hk)) rfl
        have hw2 : (Jvm.Cond.instantiable (kv_R ci) (kv_N ci)).before args s = true := kv_hw hts kv_ws_ins (List.mem_map_of_mem (f := fun c => Jvm.Cond.instantiable (kv_R c) (kv_N c)) (List.mem_range.mpr hci)) rfl
        have hw3 : (Jvm.Cond.initialized (kv_R ci)).before args s = true := kv_hw hts kv_ws_init (List.mem_map_of_mem (f := fun n => Jvm.Cond.initialized n) (kv_R_mem ci (by omega))) rfl
        have hKn := hB.1.1 ci _ (kv_cl_at hci)
        refine W.newcK hx hb hown hw hw2 hw3 rfl hdg (by omega) (by omega) hKn.2.1 rfl (fun H1 kC hkC a1 a2 a3 => ?_)
        refine W.widen (k := (h.1 ++ [Sum.inr (Sum.inr (ci, kv_fl ci))] : List kv_E).length - n0) (n := kv_sl (h.1 ++ [Sum.inr (Sum.inr (ci, kv_fl ci))] : List kv_E) - s0) (by omega) (by omega) ?_
        have K9 := K LS H1 locs (kv_W_push hW (hA _ (by rw [← hha]; exact hS.1)) (had _ (by omega) h0) a2 a3 (fun t l z => by cases z) (fun ci fl z => by cases z; exact ⟨hci, hfl⟩) (by
          rw [← hha]
          refine ⟨_, kv_cl_at hci, (u_born (kv_Ty ci) hts (kv_g_lay ci hci) hKn hkC a1 (kv_ty_ok ci hci)).to (fun j hj => ?_)⟩
          rw [kv_dflt ci hci j hj]
          show _ = ((List.range (kv_fl ci).length).map (kv_fv ad h h.1.length ci (kv_fl ci))).getD j .null
          rw [List.getD_eq_getElem?_getD, kv_fv_at (by rw [hfl]; exact hj)]
          simp only [Option.getD_some, kv_fv]
          rw [kv_fl_at ci hci j hj]
          have z1 := (hW.2.2.2.1 h.1.length (Nat.le_refl _)).1 j
          have z2 := (hW.2.2.2.1 h.1.length (Nat.le_refl _)).2 j
          by_cases hq : kv_rT (kv_Ty ci j) = true
          · rw [if_pos hq, if_pos hq]
            rfl
          · rw [if_neg hq, if_neg hq]
            simp only [z1, z2])) ⟨Nat.le_trans hS.1 (by omega), fun x y1 y2 => (a3 x (Nat.lt_of_lt_of_le y1 hS.1)).trans (hS.2.1 x y1 y2), hS.2.2⟩ hl hn
        rw [List.map_cons, show kv_vr ad (.ref h.1.length) = .ref H.size from by rw [hha]; rfl] at K9
        exact K9
    · cases e2
  | invokestatic k9 =>
    dsimp only [kv_ex] at e1
    obtain ⟨rfl, e2⟩ := kv_ln_inv e1
    unfold kv_sta at e2
    split at e2
    · rename_i hk
      exact kv_s_copy C0 hdg e2 hk hW hS hml9 (by omega) (by omega) (fun z1 z2 H9 locs9 hW9 hS9 => by subst z1; rw [z2] at K; have K9 := K LS H9 locs9 hW9 hS9 hl hn; exact K9)
    · split at e2
      · rename_i w hk
        exact kv_s_math C0 hdg e2 (kv_lk_inv hk) hml9 (by omega) (by omega) (fun z => by rw [z] at hR; omega) (fun z => by rw [z] at hR; omega) (fun z1 z2 => by subst z1; subst z2; exact K LS H locs hW hS hl hn)
      · split at e2
        · exact absurd e2 (kv_call_ne _ _ _ _ _ _ _)
        · cases e2
  | invokespecial k9 =>
    dsimp only [kv_ex] at e1
    obtain ⟨rfl, e2⟩ := kv_ln_inv e1
    unfold kv_spe at e2
    split at e2
    · rename_i hk
      obtain ⟨a, r, rfl, e3⟩ := kv_r_inv e2
      split at e3
      · rename_i hcat
        obtain ⟨rfl, rfl, rfl, rfl⟩ := kv_go_inv e3
        have hw : (Jvm.Cond.methodLink (kv_R q.1) k9 Lib.objectInit).before args s = true := kv_hw hts kv_ws_LO (List.mem_map_of_mem (f := fun q : Nat × Nat => Jvm.Cond.methodLink (kv_R q.1) q.2 Lib.objectInit) (kv_lk2_inv hk)) rfl
        refine W.objInit hx hb hown hw (hts _ (kv_g (kv_one 1 rfl) rfl)) (hts _ (kv_g (kv_one 0 rfl) rfl)) rfl (by show LS.size = _; rw [← hml9]) rfl hdg hR.1 ?_ (W.eq (g2 := F0 m (pc + 3) LS (st'.map (kv_vr ad))) rfl (K LS H locs hW hS hl hn))
        have := kv_cat_map ad st'
        have h3 := lv_room (m := m) (pc := pc) (ls := LS) (rest := (Value.ref a :: st').map (kv_vr ad)) (st := st'.map (kv_vr ad)) (by rw [this]; exact hcat)
        omega
      · cases e3
    · split at e2
      · exact absurd e2 (kv_call_ne _ _ _ _ _ _ _)
      · cases e2
  | invokevirtual k9 =>
    dsimp only [kv_ex] at e1
    obtain ⟨rfl, e2⟩ := kv_ln_inv e1
    unfold kv_vir at e2
    split at e2
    · exact absurd e2 (kv_call_ne _ _ _ _ _ _ _)
    · cases e2
  | ireturn =>
    dsimp only [kv_ex] at e1
    obtain ⟨rfl, e2⟩ := kv_ln_inv e1
    unfold kv_ret at e2
    split at e2
    · split at e2 <;> cases e2
    · cases e2
  | areturn =>
    dsimp only [kv_ex] at e1
    obtain ⟨rfl, e2⟩ := kv_ln_inv e1
    split at e2
    · split at e2 <;> cases e2
    · split at e2 <;> cases e2
    · cases e2
  | return_ =>
    dsimp only [kv_ex] at e1
    obtain ⟨rfl, e2⟩ := kv_ln_inv e1
    split at e2 <;> cases e2
  | _ =>
    dsimp only [kv_ex] at e1
    cases e1
end STEP
