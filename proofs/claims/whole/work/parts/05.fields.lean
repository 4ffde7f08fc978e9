/-! inversion of the step function -/
theorem kv_ln_inv {len n : Nat} {k : Option kv_X} {X : kv_X} (e : kv_ln len n k = some X) : len = n ∧ k = some X := by
  unfold kv_ln at e
  split at e
  · exact ⟨‹_›, e⟩
  · cases e
theorem kv_tg_inv {pc : Nat} {off : Int} {k : Nat → Option kv_X} {X : kv_X} (e : kv_tg pc off k = some X) : ∃ t : Nat, (pc : Int) + off = (t : Int) ∧ k t = some X := by
  unfold kv_tg at e
  split at e
  · exact ⟨_, by omega, e⟩
  · cases e
theorem kv_st_inv {ls : kv_L} {i : Nat} {v : Value} {k : kv_L → Option kv_X} {X : kv_X} (e : kv_st ls i v k = some X) : i < ls.length ∧ kv_lg ls i = false ∧ k (ls.set i (some v)) = some X := by
  unfold kv_st at e
  split at e
  · exact ⟨‹_ ∧ _›.1, ‹_ ∧ _›.2, e⟩
  · cases e
theorem kv_st2_inv {ls : kv_L} {i : Nat} {x : Int64} {k : kv_L → Option kv_X} {X : kv_X} (e : kv_st2 ls i x k = some X) : i + 1 < ls.length ∧ kv_lg ls i = false ∧ k ((ls.set i (some (.long x))).set (i + 1) none) = some X := by
  unfold kv_st2 at e
  split at e
  · exact ⟨‹_ ∧ _›.1, ‹_ ∧ _›.2, e⟩
  · cases e
theorem kv_i_inv {st : List Value} {f : Int32 → List Value → Option kv_X} {X : kv_X} (e : kv_i st f = some X) : ∃ x r, st = .int x :: r ∧ f x r = some X := by
  unfold kv_i at e
  split at e
  · exact ⟨_, _, rfl, e⟩
  · cases e
theorem kv_ii_inv {st : List Value} {f : Int32 → Int32 → List Value → Option kv_X} {X : kv_X} (e : kv_ii st f = some X) : ∃ x y r, st = .int y :: .int x :: r ∧ f x y r = some X := by
  unfold kv_ii at e
  split at e
  · exact ⟨_, _, _, rfl, e⟩
  · cases e
theorem kv_l_inv {st : List Value} {f : Int64 → List Value → Option kv_X} {X : kv_X} (e : kv_l st f = some X) : ∃ x r, st = .long x :: r ∧ f x r = some X := by
  unfold kv_l at e
  split at e
  · exact ⟨_, _, rfl, e⟩
  · cases e
theorem kv_ll_inv {st : List Value} {f : Int64 → Int64 → List Value → Option kv_X} {X : kv_X} (e : kv_ll st f = some X) : ∃ x y r, st = .long y :: .long x :: r ∧ f x y r = some X := by
  unfold kv_ll at e
  split at e
  · exact ⟨_, _, _, rfl, e⟩
  · cases e
theorem kv_li_inv {st : List Value} {f : Int64 → Int32 → List Value → Option kv_X} {X : kv_X} (e : kv_li st f = some X) : ∃ x y r, st = .int y :: .long x :: r ∧ f x y r = some X := by
  unfold kv_li at e
  split at e
  · exact ⟨_, _, _, rfl, e⟩
  · cases e
theorem kv_ri_inv {st : List Value} {f : Nat → Int32 → List Value → Option kv_X} {X : kv_X} (e : kv_ri st f = some X) : ∃ a i r, st = .int i :: .ref a :: r ∧ f a i r = some X := by
  unfold kv_ri at e
  split at e
  · exact ⟨_, _, _, rfl, e⟩
  · cases e
theorem kv_r_inv {st : List Value} {f : Nat → List Value → Option kv_X} {X : kv_X} (e : kv_r st f = some X) : ∃ a r, st = .ref a :: r ∧ f a r = some X := by
  unfold kv_r at e
  split at e
  · exact ⟨_, _, rfl, e⟩
  · cases e
theorem kv_go_inv {pc pc' : Nat} {ls ls' : kv_L} {st st' : List Value} {h h' : kv_H} (e : kv_go pc ls st h = some (Sum.inr (Sum.inl (pc', ls', st', h')))) : pc' = pc ∧ ls' = ls ∧ st' = st ∧ h' = h := by
  unfold kv_go at e
  cases e
  exact ⟨rfl, rfl, rfl, rfl⟩
theorem kv_lk_inv {α : Type} {t : List (Nat × Nat × α)} {c i : Nat} {x : α} (e : kv_lk t c i = some x) : (c, i, x) ∈ t := by
  unfold kv_lk at e
  obtain ⟨q, hq, rfl⟩ := Option.map_eq_some_iff.mp e
  have h1 := List.find?_some hq
  simp only [Bool.and_eq_true, beq_iff_eq] at h1
  have h2 := List.mem_of_find?_eq_some hq
  obtain ⟨c', i', x⟩ := q
  dsimp only at h1 h2 ⊢
  rw [← h1.1, ← h1.2]
  exact h2
theorem kv_lk2_inv {t : List (Nat × Nat)} {c i : Nat} (e : kv_lk2 t c i = true) : (c, i) ∈ t := by
  unfold kv_lk2 at e
  obtain ⟨q, hq⟩ := Option.isSome_iff_exists.mp e
  have h1 := List.find?_some hq
  simp only [Bool.and_eq_true, beq_iff_eq] at h1
  have h2 := List.mem_of_find?_eq_some hq
  obtain ⟨c', i'⟩ := q
  dsimp only at h1 h2
  rw [← h1.1, ← h1.2]
  exact h2
theorem kv_gf_inv {c idx pc : Nat} {ls : kv_L} {h : kv_H} {a : Nat} {r : List Value} {X : kv_X} (e : kv_gf c idx pc ls h a r = some X) :
    (∃ (ci k ne : Nat) (fl : List (Option (Option Nat))), (c, idx, ci, k, ne) ∈ kv_LF ∧ h.1[a]? = some (Sum.inr (Sum.inr (ci, fl))) ∧ ((fl[k]? = some none ∧ kv_go (pc + 3) ls ((if kv_Ty ci k = .long then Value.long (h.2.2 a k) else Value.int (h.2.1 a k)) :: r) h = some X) ∨ ∃ x, fl[k]? = some (some x) ∧ kv_go (pc + 3) ls (va_rf x :: r) h = some X)) ∨
    (306 ≤ a ∧ a < 310 ∧ (((c, idx, 0) ∈ kv_SF ∧ kv_go (pc + 3) ls (.ref (a + 4) :: r) h = some X) ∨ ((c, idx, 1) ∈ kv_SF ∧ kv_go (pc + 3) ls (.int 0 :: r) h = some X))) := by
  unfold kv_gf at e
  split at e
  · split at e
    · rename_i ci k ne hk
      split at e
      · rename_i cj fl hf
        split at e
        · rename_i hj
          subst hj
          split at e
          · exact Or.inl ⟨_, _, _, _, kv_lk_inv hk, hf, Or.inl ⟨‹_›, e⟩⟩
          · exact Or.inl ⟨_, _, _, _, kv_lk_inv hk, hf, Or.inr ⟨_, ‹_›, e⟩⟩
          · cases e
        · cases e
      · cases e
    · cases e
  · split at e
    · rename_i hr
      split at e
      · exact Or.inr ⟨hr.1, hr.2, Or.inl ⟨kv_lk_inv ‹_›, e⟩⟩
      · exact Or.inr ⟨hr.1, hr.2, Or.inr ⟨kv_lk_inv ‹_›, e⟩⟩
      · cases e
    · cases e
theorem kv_z_same {α : Type} (z : Nat → Nat → α) (a : Nat) (f : Nat → α) : kv_z z a f a = f := if_pos rfl
theorem kv_z_ne {α : Type} (z : Nat → Nat → α) {a b : Nat} (f : Nat → α) (h : b ≠ a) : kv_z z a f b = z b := if_neg h
theorem kv_vr_rf (ad : Nat → Nat) (o : Option Nat) : kv_vr ad (va_rf o) = va_rf (o.map ad) := by cases o <;> rfl
theorem kv_rT_n {ty : FieldType} (h : kv_rT ty = true) (x : Nat) : narrow ty (.ref x) = .ref x ∧ fits ty (.ref x) = true := by
  cases ty <;> first | exact absurd h (by decide) | exact ⟨rfl, rfl⟩
def kv_At (p : Program) (s : State) (m : MethodId) (args : Array Value) (meth : Method) (c : Code) (ad : Nat → Nat) (A : Nat → Prop) (D : va_G) (k : kv_K) (n0 : Nat) (q : kv_M) : Prop :=
  p.tables.exec = Jvm.exec ∧ c.code = q.2.2.2.1 ∧ c.maxLocals = q.2.2.2.2.1 ∧ meth.sig.returnType = q.2.2.2.2.2.1 ∧ meth.locks = false ∧ s.vm.findClass (kv_R q.1) = some m.cls ∧ (∀ w ∈ kv_gW, w.before args s = true) ∧ (q.2.1 = "<init>" → meth.name = "<init>") ∧ kv_B ad A D k s s.heap ∧ (∀ z, s.heap.size ≤ z → A z) ∧ (∀ n, n ≤ 290 → n0 ≤ n → ad (n + 1) = ad n + 1)
theorem kv_c_put {ad : Nat → Nat} {k : kv_K} {h : kv_H} {a ci kk : Nat} {fl : List (Option (Option Nat))} {x : Int32} (hf : fl[kk]? = some none) (hl : ¬ kv_Ty ci kk = .long) :
    kv_c ad k (h.1, kv_z h.2.1 a (upd (h.2.1 a) kk x), h.2.2) a (Sum.inr (Sum.inr (ci, fl))) = Sum.inr (ci, ((List.range fl.length).map (kv_fv ad h a ci fl)).set kk (.int x)) := by
  simp only [kv_c]
  congr 2
  apply List.ext_getElem?
  intro j
  rw [List.getElem?_set]
  have hkl : kk < fl.length := (List.getElem?_eq_some_iff.mp hf).1
  by_cases hj : j < fl.length
  · rw [List.getElem?_map, List.getElem?_range hj, List.getElem?_map, List.getElem?_range hj]
    by_cases hk : kk = j
    · subst hk
      rw [if_pos rfl, if_pos (by simpa using hkl)]
      simp only [Option.map_some, kv_fv]
      rw [List.getD_eq_getElem?_getD, hf]
      simp only [Option.getD_some, if_neg hl, kv_z_same, upd, if_pos]
    · rw [if_neg hk]
      simp only [Option.map_some, kv_fv, kv_z_same, upd, if_neg (show ¬ j = kk from fun z => hk z.symm)]
  · rw [List.getElem?_eq_none (by simpa using hj), if_neg (show ¬ kk = j from fun z => hj (by rw [← z]; exact hkl)), List.getElem?_eq_none (by simpa using hj)]
theorem kv_c_putl {ad : Nat → Nat} {k : kv_K} {h : kv_H} {a ci kk : Nat} {fl : List (Option (Option Nat))} {x : Int64} (hf : fl[kk]? = some none) (hl : kv_Ty ci kk = .long) :
    kv_c ad k (h.1, h.2.1, kv_z h.2.2 a (vp_updL (h.2.2 a) kk x)) a (Sum.inr (Sum.inr (ci, fl))) = Sum.inr (ci, ((List.range fl.length).map (kv_fv ad h a ci fl)).set kk (.long x)) := by
  simp only [kv_c]
  congr 2
  apply List.ext_getElem?
  intro j
  rw [List.getElem?_set]
  have hkl : kk < fl.length := (List.getElem?_eq_some_iff.mp hf).1
  by_cases hj : j < fl.length
  · rw [List.getElem?_map, List.getElem?_range hj, List.getElem?_map, List.getElem?_range hj]
    by_cases hk : kk = j
    · subst hk
      rw [if_pos rfl, if_pos (by simpa using hkl)]
      simp only [Option.map_some, kv_fv]
      rw [List.getD_eq_getElem?_getD, hf]
      simp only [Option.getD_some, if_pos hl, kv_z_same, vp_updL, if_pos]
    · rw [if_neg hk]
      simp only [Option.map_some, kv_fv, kv_z_same, vp_updL, if_neg (show ¬ j = kk from fun z => hk z.symm)]
  · rw [List.getElem?_eq_none (by simpa using hj), if_neg (show ¬ kk = j from fun z => hj (by rw [← z]; exact hkl)), List.getElem?_eq_none (by simpa using hj)]
theorem kv_c_putr {ad : Nat → Nat} {k : kv_K} {h : kv_H} {a ci kk b : Nat} {fl : List (Option (Option Nat))} {y : Option Nat} (hf : fl[kk]? = some (some y)) :
    kv_c ad k h a (Sum.inr (Sum.inr (ci, fl.set kk (some (some b))))) = Sum.inr (ci, ((List.range fl.length).map (kv_fv ad h a ci fl)).set kk (.ref (ad b))) := by
  simp only [kv_c]
  congr 2
  apply List.ext_getElem?
  intro j
  rw [List.getElem?_set]
  have hkl : kk < fl.length := (List.getElem?_eq_some_iff.mp hf).1
  by_cases hj : j < fl.length
  · rw [List.getElem?_map, List.getElem?_range (by simpa using hj), List.getElem?_map, List.getElem?_range hj]
    by_cases hk : kk = j
    · subst hk
      rw [if_pos rfl, if_pos (by simpa using hkl)]
      simp [kv_fv, List.getD_eq_getElem?_getD, hkl, va_rf]
    · rw [if_neg hk]
      simp only [Option.map_some, kv_fv, List.getD_eq_getElem?_getD, List.getElem?_set_ne hk]
  · rw [List.getElem?_eq_none (by simpa using hj), if_neg (show ¬ kk = j from fun z => hj (by rw [← z]; exact hkl)), List.getElem?_eq_none (by simpa using hj)]
theorem kv_fv_at {ad : Nat → Nat} {h : kv_H} {a ci kk : Nat} {fl : List (Option (Option Nat))} (hkl : kk < fl.length) : ((List.range fl.length).map (kv_fv ad h a ci fl))[kk]? = some (kv_fv ad h a ci fl kk) := by
  rw [List.getElem?_map, List.getElem?_range hkl]
  rfl
theorem kv_va_in {i : Int32} {n : Nat} (h : ¬ (i < 0 ∨ n ≤ i.toNatClampNeg)) : vp_in i n := h
theorem kv_acw : nativeFrameWords "java/lang/System" "arraycopy" 5 + 11 + 8 ≤ 60 := by decide +kernel
theorem kv_SA_ix {w : Nat} {l : List Int32} (h : kv_SA[w]? = some l) : w < 6 ∧ kv_SA.getD w [] = l := by
  refine ⟨(List.getElem?_eq_some_iff.mp h).1, ?_⟩
  rw [List.getD_eq_getElem?_getD, h]
  rfl
theorem kv_SB_ix {w : Nat} {l : List Int32} (h : kv_SB[w]? = some l) : w < 4 ∧ kv_SB.getD w [] = l := by
  refine ⟨(List.getElem?_eq_some_iff.mp h).1, ?_⟩
  rw [List.getD_eq_getElem?_getD, h]
  rfl
/-- a field's store, with the heap's size kept: the kit's row, by either link -/
theorem kv_put {p : Program} {l : Launch} {e : Env} {R : Room} {s : State} {m : MethodId} {args : Array Value} {below : List Frame} {meth : Method} {c : Code} {H : Heap} {locs : List Loc} {cells slots : Nat} {Q : State → Prop} {cc : ByteArray} {pc : Nat} {ls : Array Slot} {rest : List Value} {D : va_G} {A : Nat → Prop} {a : Nat} {tys : List (ClassId × FieldType)} {ws : va_W} {H0 : Heap}
    (hx : p.tables.exec = Jvm.exec) (hb : c.code = cc) {own ref : String} {ci index : Nat} {Ts : List Jvm.Cond} (hts : ∀ w ∈ Ts, w.before args s = true) (hin : ∀ w ∈ u_ws (kv_R ci) (kv_T ci) (kv_N ci), w ∈ Ts) (hci : ci < 13) (hown : s.vm.findClass own = some m.cls) (hK : va_K D kv_cl tys s) (hP : va_P D kv_cl ws H) (hD : va_D A ws) (hS : va_S A H0 H locs) (q0 : Nat) {fs : List Value} (he : ws[q0]? = some (a, .inr (ci, fs))) (k : Nat) (hk : k < kv_N ci)
    (hlink : (Jvm.Cond.fieldLink own index ref (kv_T ci k).2.1 (kv_T ci k).2.2.1).before args s = true ∨ (Jvm.Cond.fieldLinkNest own index ref (kv_T ci k).2.1 (kv_T ci k).2.2.1 "KiteVote").before args s = true) (hsame : ∀ x, s.fieldFound? (kv_T ci k).1 (kv_T ci k).2.1 (kv_T ci k).2.2.1 = some x → s.fieldFound? ref (kv_T ci k).2.1 (kv_T ci k).2.2.1 = some x) (hfin : (kv_T ci k).2.2.2 = false) {v : Value} (hn : narrow (kv_Ty ci k) v = v) (hfit : fits (kv_Ty ci k) v = true) (hl : k < fs.length)
    (hdg : decode cc pc = .ok (.putfield index, 3)) (kk : ∀ (H1 : Heap) (locs1 : List Loc), H1.size = H.size → va_P D kv_cl (ws.set q0 (a, .inr (ci, fs.set k v))) H1 → va_D A (ws.set q0 (a, .inr (ci, fs.set k v))) → va_S A H0 H1 locs1 → W p l e R s m args below meth c H1 locs1 cells slots Q (F0 m (pc + 3) ls rest)) : W p l e R s m args below meth c H locs cells slots Q (F0 m pc ls (v :: .ref a :: rest)) := by
  have hap := va_apart (own := own) hts hin (kv_Ty ci) (kv_ty_ok ci hci) (kv_nm_ok ci hci) hK (kv_cl_at hci)
  obtain ⟨r, h1, cell, q1, q2, q3, q4⟩ := hP q0 _ he
  have hr : r = (kv_R ci, kv_T ci, kv_N ci) := Option.some.inj (h1.symm.trans (kv_cl_at hci))
  subst hr
  obtain ⟨hS1, hfc, kC, hkC, hkind⟩ := hK.1 ci _ (kv_cl_at hci)
  obtain ⟨cf, kf, fi, f, hi, hsl⟩ := hS1 k hk
  have hlay := hts _ (hin _ (u_in_lay hk))
  unfold u_lay at hlay
  rw [if_neg (by rw [hfin]; decide)] at hlay
  have hst := (u_facts hfc hkC (u_lays hts hin hk) hi).1
  have h6 := u_store hfc hkC hkind hlay hi (kv_ty_ok ci hci k hk) hn hfit
  have fin : ∀ H1 : Heap, H1[a]? = some (cell.setSlot f.slot v) → H1.size = H.size → (∀ q, q ≠ a → H1[q]? = H[q]?) → W p l e R s m args below meth c H1 (locs ++ [⟨a, f.slot⟩]) cells slots Q (F0 m (pc + 3) ls rest) := by
    intro H1 e1 e2 e3
    rw [hsl] at e1
    exact kk H1 _ e2 (hP.set hD he ⟨_, kv_cl_at hci, t_OB.to (V := updV (vp_V fs) k v) ⟨_, e1, q2, q3, t_set q4 hap hk v⟩ (fun j _ => vp_updV_set hl v j)⟩ e3) (hD.set he) (hS.put e2 e3 (hD.2 q0 _ he))
  rcases hlink with hlink | hlink
  · exact W.putK hx hb (f := f) ⟨hown, hlink, ⟨_, _, _, hsame _ hi⟩, hst⟩ (by rw [q2]; exact h6) q1 q3 (by rw [hsl]; exact k2_hasslot (q4 k hk)) rfl rfl hdg fin
  · exact va_WputK hx hb (f := f) hown hlink (hsame _ hi) hst (by rw [q2]; exact h6) q1 q3 (by rw [hsl]; exact k2_hasslot (q4 k hk)) rfl rfl hdg fin
theorem kv_putF {p : Program} {l : Launch} {e : Env} {R : Room} {s : State} {m : MethodId} {args : Array Value} {below : List Frame} {meth : Method} {c : Code} {H : Heap} {locs : List Loc} {cells slots : Nat} {Q : State → Prop} {cc : ByteArray} {pc : Nat} {ls : Array Slot} {rest : List Value} {D : va_G} {A : Nat → Prop} {a : Nat} {tys : List (ClassId × FieldType)} {ws : va_W} {H0 : Heap}
    (hx : p.tables.exec = Jvm.exec) (hb : c.code = cc) {own ref : String} {ci index : Nat} {Ts : List Jvm.Cond} (hts : ∀ w ∈ Ts, w.before args s = true) (hin : ∀ w ∈ u_ws (kv_R ci) (kv_T ci) (kv_N ci), w ∈ Ts) (hci : ci < 13) (hown : s.vm.findClass own = some m.cls) (hK : va_K D kv_cl tys s) (hP : va_P D kv_cl ws H) (hD : va_D A ws) (hS : va_S A H0 H locs) (q0 : Nat) {fs : List Value} (he : ws[q0]? = some (a, .inr (ci, fs))) (k : Nat) (hk : k < kv_N ci)
    (hlink : (Jvm.Cond.fieldLink own index ref (kv_T ci k).2.1 (kv_T ci k).2.2.1).before args s = true) (hsame : ∀ x, s.fieldFound? (kv_T ci k).1 (kv_T ci k).2.1 (kv_T ci k).2.2.1 = some x → s.fieldFound? ref (kv_T ci k).2.1 (kv_T ci k).2.2.1 = some x) (hfin : (kv_T ci k).2.2.2 = true) (hin2 : meth.name = "<init>") (hdecl : (kv_T ci k).1 = own) {v : Value} (hn : narrow (kv_Ty ci k) v = v) (hfit : fits (kv_Ty ci k) v = true) (hl : k < fs.length)
    (hdg : decode cc pc = .ok (.putfield index, 3)) (kk : ∀ (H1 : Heap) (locs1 : List Loc), H1.size = H.size → va_P D kv_cl (ws.set q0 (a, .inr (ci, fs.set k v))) H1 → va_D A (ws.set q0 (a, .inr (ci, fs.set k v))) → va_S A H0 H1 locs1 → W p l e R s m args below meth c H1 locs1 cells slots Q (F0 m (pc + 3) ls rest)) : W p l e R s m args below meth c H locs cells slots Q (F0 m pc ls (v :: .ref a :: rest)) := by
  have hap := va_apart (own := own) hts hin (kv_Ty ci) (kv_ty_ok ci hci) (kv_nm_ok ci hci) hK (kv_cl_at hci)
  obtain ⟨r, h1, cell, q1, q2, q3, q4⟩ := hP q0 _ he
  have hr : r = (kv_R ci, kv_T ci, kv_N ci) := Option.some.inj (h1.symm.trans (kv_cl_at hci))
  subst hr
  obtain ⟨hS1, hfc, kC, hkC, hkind⟩ := hK.1 ci _ (kv_cl_at hci)
  obtain ⟨cf, kf, fi, f, hi, hsl⟩ := hS1 k hk
  have hlay := hts _ (hin _ (u_in_lay hk))
  unfold u_lay at hlay
  rw [if_pos hfin] at hlay
  have hst := (u_facts hfc hkC (u_lays hts hin hk) hi).1
  have hcf : m.cls = cf := by
    obtain ⟨_, _, c', _, _, _, -, -, hf', -, -, -, hown2, -⟩ := Cond.laysFinal_spec hlay
    have e1 : c' = cf := by have := hi.symm.trans hf'; simp at this; exact this.1.symm
    rw [hdecl] at hown2
    rw [← e1]
    exact Option.some.inj (hown.symm.trans hown2)
  have h6 := u_fits hfc hkC hkind (Or.inr hlay) hi (kv_ty_ok ci hci k hk) hn hfit
  refine W.putFinK hx hb hown hlink (hsame _ hi) hst hcf hin2 (by rw [q2]; exact h6) q1 q3 (by rw [hsl]; exact k2_hasslot (q4 k hk)) rfl rfl hdg fun H1 e1 e2 e3 => ?_
  rw [hsl] at e1
  exact kk H1 _ e2 (hP.set hD he ⟨_, kv_cl_at hci, t_OB.to (V := updV (vp_V fs) k v) ⟨_, e1, q2, q3, t_set q4 hap hk v⟩ (fun j _ => vp_updV_set hl v j)⟩ e3) (hD.set he) (hS.put e2 e3 (hD.2 q0 _ he))
section GO
variable {p : Program} {l : Launch} {e : Env} {R : Room} {s : State} {m : MethodId} {args : Array Value} {below : List Frame} {meth : Method} {c : Code} {H : Heap} {locs : List Loc} {Q : State → Prop}
variable {ad : Nat → Nat} {A : Nat → Prop} {D : va_G} {k : kv_K} {n0 s0 : Nat} {q : kv_M} {LS : Array Slot} {pc : Nat} {ls : kv_L} {h : kv_H}

theorem kv_s_get (C0 : kv_At p s m args meth c ad A D k n0 q) {idx a : Nat} {r : List Value} {pc' : Nat} {ls' : kv_L} {st' : List Value} {h' : kv_H} {cells slots : Nat} (hdg : decode q.2.2.2.1 pc = .ok (.getfield idx, 3)) (e1 : kv_gf q.1 idx pc ls h a r = some (Sum.inr (Sum.inl (pc', ls', st', h')))) (hW : kv_W ad A D k h H) (hS : va_S A s.heap H locs)
    (K : h' = h → ls' = ls → W p l e R s m args below meth c H locs cells slots Q (F0 m pc' LS (st'.map (kv_vr ad)))) : W p l e R s m args below meth c H locs cells slots Q (F0 m pc LS (.ref (ad a) :: r.map (kv_vr ad))) := by
  obtain ⟨hx, hb, hml, hr, hlk, hown, hts, hin, hB, hA, had⟩ := C0
  rcases kv_gf_inv e1 with ⟨ci, kk, ne, fl, hmem, hae, hv⟩ | ⟨ha1, ha2, hv⟩
  · obtain ⟨hci, hfl⟩ := hW.2.2.2.2.2 a ci fl hae
    have hword := kv_ws_LF _ (List.mem_map_of_mem (f := kv_LFw) hmem)
    have hns := hB.2.1 _ hmem
    have hsame : ∀ {kk : Nat}, kk < kv_N ci → ∀ x, s.fieldFound? (kv_T ci kk).1 (kv_T ci kk).2.1 (kv_T ci kk).2.2.1 = some x → s.fieldFound? (kv_R ci) (kv_T ci kk).2.1 (kv_T ci kk).2.2.1 = some x := fun hk x hx => by rw [kv_own ci hci _ hk] at hx; exact hx
    have main : ∀ v : Value, kk < fl.length → kv_fv ad h a ci fl kk = v → W p l e R s m args below meth c H locs cells slots Q (F0 m (pc + 3) LS (v :: r.map (kv_vr ad))) → W p l e R s m args below meth c H locs cells slots Q (F0 m pc LS (.ref (ad a) :: r.map (kv_vr ad))) := by
      intro v hkl hv1 K1
      have hkN : kk < kv_N ci := by rw [← hfl]; exact hkl
      have hv2 : ((List.range fl.length).map (kv_fv ad h a ci fl))[kk]? = some v := by rw [kv_fv_at hkl, hv1]
      by_cases hne : ne = 0
      · subst hne
        have hw : (Jvm.Cond.fieldLink (kv_R q.1) idx (kv_R ci) (kv_T ci kk).2.1 (kv_T ci kk).2.2.1).before args s = true := hts _ (kv_g hword rfl)
        exact va_get (D := D) (ci := ci) (C := kv_R ci) (T := kv_T ci) (N := kv_N ci) hx hb hts (kv_g_lay ci hci) hown hB.1 hW.1 a (kv_w_get hae) (kv_cl_at hci) kk hkN hw (hsame hkN) hv2 hdg K1
      · have hw9 := hns hne
        unfold kv_LFw at hw9
        rw [if_neg hne] at hw9
        have hw : (Jvm.Cond.fieldLinkNest (kv_R q.1) idx (kv_R ci) (kv_T ci kk).2.1 (kv_T ci kk).2.2.1 "KiteVote").before args s = true := va_Nw.use rfl hw9
        exact va_getN (D := D) (ci := ci) (C := kv_R ci) (T := kv_T ci) (N := kv_N ci) hx hb hts (kv_g_lay ci hci) hown hB.1 hW.1 a (kv_w_get hae) (kv_cl_at hci) kk hkN hw (hsame hkN) hv2 hdg K1
    rcases hv with ⟨hv, e1⟩ | ⟨x, hv, e1⟩
    · obtain ⟨rfl, rfl, rfl, rfl⟩ := kv_go_inv e1
      refine main (kv_vr ad (if kv_Ty ci kk = .long then Value.long (h'.2.2 a kk) else Value.int (h'.2.1 a kk))) (List.getElem?_eq_some_iff.mp hv).1 ?_ (K rfl rfl)
      simp only [kv_fv, List.getD_eq_getElem?_getD, hv, Option.getD_some]
      split <;> rfl
    · obtain ⟨rfl, rfl, rfl, rfl⟩ := kv_go_inv e1
      refine main (kv_vr ad (va_rf x)) (List.getElem?_eq_some_iff.mp hv).1 ?_ (K rfl rfl)
      simp only [kv_fv, List.getD_eq_getElem?_getD, hv, Option.getD_some, kv_vr_rf]
  · obtain ⟨w, rfl⟩ : ∃ w, a = 306 + w := ⟨a - 306, by omega⟩
    have h8 := hB.2.2.2.2.2.2.2 w (by omega)
    rcases hv with ⟨hmem, e1⟩ | ⟨hmem, e1⟩
    · obtain ⟨rfl, rfl, rfl, rfl⟩ := kv_go_inv e1
      have hw : (Jvm.Cond.fieldLink (kv_R q.1) idx "java/lang/String" "value" "[B").before args s = true := hts _ (kv_g (kv_ws_SF _ (List.mem_map_of_mem (f := kv_SFw) hmem)) rfl)
      exact vk_getf hx hb h8.2.2.1 hS hown hw (fun _ z => z) hdg (K rfl rfl)
    · obtain ⟨rfl, rfl, rfl, rfl⟩ := kv_go_inv e1
      have hw : (Jvm.Cond.fieldLink (kv_R q.1) idx "java/lang/String" "coder" "B").before args s = true := hts _ (kv_g (kv_ws_SF _ (List.mem_map_of_mem (f := kv_SFw) hmem)) rfl)
      exact vk_getf hx hb h8.2.1 hS hown hw (fun _ z => z) hdg (K rfl rfl)

theorem kv_s_put (C0 : kv_At p s m args meth c ad A D k n0 q) {idx : Nat} {st : List Value} {pc' : Nat} {ls' : kv_L} {st' : List Value} {h' : kv_H} {cells slots : Nat} (hdg : decode q.2.2.2.1 pc = .ok (.putfield idx, 3)) (e1 : kv_pf q.1 q.2.1 idx pc ls st h = some (Sum.inr (Sum.inl (pc', ls', st', h')))) (hW : kv_W ad A D k h H) (hS : va_S A s.heap H locs)
    (K : ls' = ls → h'.1.length = h.1.length → kv_sl h'.1 = kv_sl h.1 → ∀ (H' : Heap) (locs' : List Loc), kv_W ad A D k h' H' → va_S A s.heap H' locs' → W p l e R s m args below meth c H' locs' cells slots Q (F0 m pc' LS (st'.map (kv_vr ad)))) : W p l e R s m args below meth c H locs cells slots Q (F0 m pc LS (st.map (kv_vr ad))) := by
  obtain ⟨hx, hb, hml, hr, hlk, hown, hts, hin, hB, hA, had⟩ := C0
  unfold kv_pf at e1
  split at e1
  · rename_i v a r
    split at e1
    · split at e1
      · rename_i ci kk ne hk
        have hmem := kv_lk_inv hk
        split at e1
        · rename_i cj fl hae
          split at e1
          · rename_i hj
            subst hj
            obtain ⟨hci, hfl⟩ := hW.2.2.2.2.2 a _ fl hae
            have hword := kv_ws_LF _ (List.mem_map_of_mem (f := kv_LFw) hmem)
            have hns := hB.2.1 _ hmem
            have hsame : ∀ {kk : Nat}, kk < kv_N cj → ∀ x, s.fieldFound? (kv_T cj kk).1 (kv_T cj kk).2.1 (kv_T cj kk).2.2.1 = some x → s.fieldFound? (kv_R cj) (kv_T cj kk).2.1 (kv_T cj kk).2.2.1 = some x := fun hk x hx => by rw [kv_own cj hci _ hk] at hx; exact hx
            have alt : a < h.1.length := (List.getElem?_eq_some_iff.mp hae).1
            have num : ∀ v : Value, kk < fl.length → narrow (kv_Ty cj kk) v = v → fits (kv_Ty cj kk) v = true → (kv_T cj kk).2.2.2 = false →
                (∀ (H1 : Heap) (locs1 : List Loc), H1.size = H.size → va_P D kv_cl ((kv_w ad k h).set a (ad a, .inr (cj, ((List.range fl.length).map (kv_fv ad h a cj fl)).set kk v))) H1 → va_D A ((kv_w ad k h).set a (ad a, .inr (cj, ((List.range fl.length).map (kv_fv ad h a cj fl)).set kk v))) → va_S A s.heap H1 locs1 → W p l e R s m args below meth c H1 locs1 cells slots Q (F0 m (pc + 3) LS (r.map (kv_vr ad)))) →
                W p l e R s m args below meth c H locs cells slots Q (F0 m pc LS (v :: .ref (ad a) :: r.map (kv_vr ad))) := by
              intro v hkl hn9 hf9 hfin K1
              have hkN : kk < kv_N cj := by rw [← hfl]; exact hkl
              have hsz : ∀ (H1 : Heap) (locs1 : List Loc), H1.size = H.size → H1.size = H.size := fun _ _ z => z
              by_cases hne : ne = 0
              · subst hne
                have hw : (Jvm.Cond.fieldLink (kv_R q.1) idx (kv_R cj) (kv_T cj kk).2.1 (kv_T cj kk).2.2.1).before args s = true := hts _ (kv_g hword rfl)
                exact kv_put (ref := kv_R cj) hx hb hts (kv_g_lay cj hci) hci hown hB.1 hW.1 hW.2.1 hS a (kv_w_get hae) kk hkN (Or.inl hw) (hsame hkN) hfin hn9 hf9 (by simpa using hkl) hdg K1
              · have hw9 := hns hne
                unfold kv_LFw at hw9
                rw [if_neg hne] at hw9
                have hw : (Jvm.Cond.fieldLinkNest (kv_R q.1) idx (kv_R cj) (kv_T cj kk).2.1 (kv_T cj kk).2.2.1 "KiteVote").before args s = true := va_Nw.use rfl hw9
                exact kv_put (ref := kv_R cj) hx hb hts (kv_g_lay cj hci) hci hown hB.1 hW.1 hW.2.1 hS a (kv_w_get hae) kk hkN (Or.inr hw) (hsame hkN) hfin hn9 hf9 (by simpa using hkl) hdg K1
            split at e1
            · rename_i x hf
              split at e1
              · rename_i hc9
                obtain ⟨rfl, rfl, rfl, rfl⟩ := kv_go_inv e1
                refine num (.int x) (List.getElem?_eq_some_iff.mp hf).1 hc9.1 hc9.2.1 hc9.2.2.2 (fun H1 locs1 hsz hP1 hD1 hS1 => ?_)
                have hcp := kv_c_put (ad := ad) (k := k) (h := h) (a := a) (x := x) hf hc9.2.2.1
                exact K rfl rfl rfl H1 locs1 (kv_W_z hW hae (fun b hb9 => ⟨kv_z_ne _ _ hb9, rfl⟩) hsz (by rw [hcp]; exact hP1) (by rw [hcp]; exact hD1)) hS1
              · cases e1
            · rename_i x hf
              split at e1
              · rename_i hc9
                obtain ⟨rfl, rfl, rfl, rfl⟩ := kv_go_inv e1
                refine num (.long x) (List.getElem?_eq_some_iff.mp hf).1 (by rw [hc9.1]; rfl) (by rw [hc9.1]; rfl) hc9.2 (fun H1 locs1 hsz hP1 hD1 hS1 => ?_)
                have hcp := kv_c_putl (ad := ad) (k := k) (h := h) (a := a) (x := x) hf hc9.1
                exact K rfl rfl rfl H1 locs1 (kv_W_z hW hae (fun b hb9 => ⟨rfl, kv_z_ne _ _ hb9⟩) hsz (by rw [hcp]; exact hP1) (by rw [hcp]; exact hD1)) hS1
              · cases e1
            · rename_i y b hf
              split at e1
              · rename_i hc9
                obtain ⟨rfl, rfl, rfl, rfl⟩ := kv_go_inv e1
                obtain ⟨hrT, hfin, hdecl, hnm, hne⟩ := hc9
                subst hne
                have hkl : kk < fl.length := (List.getElem?_eq_some_iff.mp hf).1
                have hkN : kk < kv_N cj := by rw [← hfl]; exact hkl
                have hw : (Jvm.Cond.fieldLink (kv_R q.1) idx (kv_R cj) (kv_T cj kk).2.1 (kv_T cj kk).2.2.1).before args s = true := hts _ (kv_g hword rfl)
                have hcp := kv_c_putr (ad := ad) (k := k) (h := h) (a := a) (ci := cj) (b := b) hf
                refine kv_putF (ref := kv_R cj) hx hb hts (kv_g_lay cj hci) hci hown hB.1 hW.1 hW.2.1 hS a (kv_w_get hae) kk hkN hw (hsame hkN) hfin (hin hnm) hdecl (kv_rT_n hrT _).1 (kv_rT_n hrT _).2 (by simpa using hkl) hdg (fun H1 locs1 hsz hP1 hD1 hS1 => ?_)
                refine K rfl (by simp) (kv_sl_set hae (by simp [kv_szE])) H1 locs1 (kv_W_s hW alt hsz (fun t l z => by cases z) (fun ci' fl' z => by cases z; exact ⟨hci, by simpa using hfl⟩) (by rw [hcp]; exact hP1) (by rw [hcp]; exact hD1)) hS1
              · cases e1
            · cases e1
          · cases e1
        · cases e1
      · cases e1
    · cases e1
  · cases e1
end GO
