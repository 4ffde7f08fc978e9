/-! kite: what throws, and what catches it -/
def kz_E : String := "java/util/NoSuchElementException"
def kz_qk : kv_M := (11, "kite", "(II)I", prog_1_method_7_code, 3, (some .int), 2, false)
def kz_yl : MethodName := ⟨R_law, "kite", "(LKiteVote;II[J)I"⟩
theorem kz_k0 : decode prog_1_method_7_code 0 = .ok (.aload_n 0, 1) := by decide +kernel
theorem kz_k1 : decode prog_1_method_7_code 1 = .ok (.iload_n 1, 1) := by decide +kernel
theorem kz_k2 : decode prog_1_method_7_code 2 = .ok (.invokevirtual 143, 3) := by decide +kernel
theorem kz_k5 : decode prog_1_method_7_code 5 = .ok (.ifCond .eq 13, 3) := by decide +kernel
theorem kz_k8 : decode prog_1_method_7_code 8 = .ok (.iload_n 2, 1) := by decide +kernel
theorem kz_k9 : decode prog_1_method_7_code 9 = .ok (.ifCond .lt 9, 3) := by decide +kernel
theorem kz_k12 : decode prog_1_method_7_code 12 = .ok (.iload_n 2, 1) := by decide +kernel
theorem kz_k13 : decode prog_1_method_7_code 13 = .ok (.bipush 12, 2) := by decide +kernel
theorem kz_k15 : decode prog_1_method_7_code 15 = .ok (.if_icmp .lt 11, 3) := by decide +kernel
theorem kz_k18 : decode prog_1_method_7_code 18 = .ok (.new 147, 3) := by decide +kernel
theorem kz_k21 : decode prog_1_method_7_code 21 = .ok (.dup, 1) := by decide +kernel
theorem kz_k22 : decode prog_1_method_7_code 22 = .ok (.invokespecial 149, 3) := by decide +kernel
theorem kz_k25 : decode prog_1_method_7_code 25 = .ok (.athrow, 1) := by decide +kernel
theorem kz_k26 : decode prog_1_method_7_code 26 = .ok (.aload_n 0, 1) := by decide +kernel
theorem kz_k27 : decode prog_1_method_7_code 27 = .ok (.getfield 58, 3) := by decide +kernel
theorem kz_k30 : decode prog_1_method_7_code 30 = .ok (.iload_n 1, 1) := by decide +kernel
theorem kz_k31 : decode prog_1_method_7_code 31 = .ok (.iload_n 2, 1) := by decide +kernel
theorem kz_k32 : decode prog_1_method_7_code 32 = .ok (.invokevirtual 150, 3) := by decide +kernel
theorem kz_k35 : decode prog_1_method_7_code 35 = .ok (.ireturn, 1) := by decide +kernel
theorem kz_l0 : decode method_3_code 0 = .ok (.aload_n 3, 1) := by decide +kernel
theorem kz_l1 : decode method_3_code 1 = .ok (.iconst 0, 1) := by decide +kernel
theorem kz_l2 : decode method_3_code 2 = .ok (.aload_n 0, 1) := by decide +kernel
theorem kz_l3 : decode method_3_code 3 = .ok (.iload_n 1, 1) := by decide +kernel
theorem kz_l4 : decode method_3_code 4 = .ok (.iload_n 2, 1) := by decide +kernel
theorem kz_l5 : decode method_3_code 5 = .ok (.invokevirtual 7, 3) := by decide +kernel
theorem kz_l8 : decode method_3_code 8 = .ok (.i2l, 1) := by decide +kernel
theorem kz_l9 : decode method_3_code 9 = .ok (.lastore, 1) := by decide +kernel
theorem kz_l10 : decode method_3_code 10 = .ok (.goto 7, 3) := by decide +kernel
theorem kz_l13 : decode method_3_code 13 = .ok (.astore 4, 2) := by decide +kernel
theorem kz_l15 : decode method_3_code 15 = .ok (.iconst 1, 1) := by decide +kernel
theorem kz_l16 : decode method_3_code 16 = .ok (.ireturn, 1) := by decide +kernel
theorem kz_l17 : decode method_3_code 17 = .ok (.iconst 0, 1) := by decide +kernel
theorem kz_l18 : decode method_3_code 18 = .ok (.ireturn, 1) := by decide +kernel
def kz_thr : List Cond := vx_at0 "KiteVote" 149 kz_E ["java/lang/RuntimeException", "java/lang/Exception"]
theorem kz_thr_in : ∀ w ∈ kz_thr, w ∈ lw_tbl := by decide +kernel
def kz_kind (w : Cond) : Bool := match w with
  | .castable _ _ => true
  | .declares _ => true
  | w => goodWord w
theorem kz_kind_of {w : Cond} (h : kz_kind w = true) : goodWord w = true ∨ (∃ C T, w = .castable C T) ∨ ∃ x, w = .declares x := by
  unfold kz_kind at h
  split at h
  · exact Or.inr (Or.inl ⟨_, _, rfl⟩)
  · exact Or.inr (Or.inr ⟨_, rfl⟩)
  · exact Or.inl h
theorem kz_nw_warm {w : Cond} {s U : State} (hk : kz_kind w = true) (hW : s.WarmedH U.vm) (h : va_Nw w s) : va_Nw w U := by
  rcases kz_kind_of hk with g | ⟨C, T, rfl⟩ | ⟨x, rfl⟩
  · exact word_at hW (good_of_word g) h
  · exact va_Nw.warmC hW h
  · exact va_tabs rfl (rfl : (s.setVm U.vm).vm = U.vm) (by rw [Cond.declares_setVm hW.alike]; exact h)
theorem kz_thr_kind : ∀ w ∈ kz_thr, kz_kind w = true := by decide +kernel
theorem kz_thr_tab : ∀ w ∈ kz_thr, w.onTables = true := by decide +kernel
theorem kz_thr_cast : Cond.castable kz_E kz_E ∈ kz_thr := by decide +kernel
theorem kz_thr_ot : ∀ w ∈ Cond.classLink "KiteVote" 147 kz_E :: Cond.initialized kz_E :: kz_thr, vx_ot w = true := by decide +kernel
def kz_kws : List Cond := [.code (kv_y kz_qk) prog_1_method_7_code 3 (some .int), .instanceMethod (kv_y kz_qk), .selects "KiteVote" (kv_y kz_qk) (kv_y kz_qk), .methodLink R_law 7 (kv_y kz_qk), .initialized "KiteVote", .classLink "KiteVote" 147 kz_E, .initialized kz_E,
  .methodLink "KiteVote" 143 (kv_y (kv_Ms.getD 138 kv_dM)), .methodLink "KiteVote" 150 (kv_y (kv_Ms.getD 59 kv_dM)), .classLink R_law 13 kz_E, .static kz_yl, .initialized R_law, .codeWith kz_yl method_3_code 5 (some .int) [(0, 10, 13, 13)], .methodLink R_law 38 kz_yl]
theorem kz_kws_in : ∀ w ∈ kz_kws, w ∈ lw_tbl := by decide +kernel
theorem kz_kws_good : ∀ w ∈ kz_kws, goodWord w = true := by decide +kernel
theorem kz_kws_g : ∀ w ∈ kz_kws, w ∈ kv_gW := fun w h => kv_g (kz_kws_in w h) (kz_kws_good w h)
/-- what a throw asks of the statics and the classes -/
def kz_T (A : Nat → Prop) (U : State) (H : Heap) : Prop := vx_Zq Bundle.tN "UNASSIGNED_STACK" Bundle.steD A U H ∧ vx_Zq Bundle.tN "SUPPRESSED_SENTINEL" Bundle.listD A U H ∧ ∀ w ∈ kz_thr, va_Nw w U
theorem kz_T.kept {A : Nat → Prop} {U : State} {H H1 : Heap} (h : kz_T A U H) (hq : ∀ a : Nat, a < H.size → ¬ A a → H1[a]? = H[a]?) : kz_T A U H1 := ⟨h.1.kept hq, h.2.1.kept hq, h.2.2⟩
theorem kz_T.narrow {A B : Nat → Prop} {U : State} {H : Heap} (h : kz_T A U H) (hAB : ∀ q, B q → A q) : kz_T B U H := ⟨h.1.narrow hAB, h.2.1.narrow hAB, h.2.2⟩
theorem kz_T.warm {A : Nat → Prop} {s U : State} {H : Heap} (hW : s.WarmedH U.vm) (h : kz_T A s H) : kz_T A U H := ⟨vx_Zq.moved hW.alike h.1, vx_Zq.moved hW.alike h.2.1, fun w hw => kz_nw_warm (kz_thr_kind w hw) hW (h.2.2 w hw)⟩
theorem kz_T.same {A : Nat → Prop} {u U : State} {H : Heap} (hv : u.vm = U.vm) (h : kz_T A u H) : kz_T A U H := ⟨vx_Zq.moved (by rw [hv]; exact Vm.Alike.refl _) h.1, vx_Zq.moved (by rw [hv]; exact Vm.Alike.refl _) h.2.1, fun w hw => va_Nw.same (kz_thr_tab w hw) hv (h.2.2 w hw)⟩
def kz_rmk (d mc ms : Nat) : Room := { frames := d + 12, cells := mc, slots := ms, locals := 40 * d + 400 }
theorem kz_g138 : kv_Ms[138]? = some (kv_Ms.getD 138 kv_dM) := by rw [List.getD_eq_getElem?_getD, List.getElem?_eq_getElem (by decide +kernel)]; rfl
theorem kz_g59 : kv_Ms[59]? = some (kv_Ms.getD 59 kv_dM) := by rw [List.getD_eq_getElem?_getD, List.getElem?_eq_getElem (by decide +kernel)]; rfl
theorem kz_q138 : (kv_Ms.getD 138 kv_dM).1 = 11 ∧ (kv_Ms.getD 138 kv_dM).2.2.2.2.2.2.2 = false ∧ (¬ (kv_Ms.getD 138 kv_dM).2.1 = "<init>") ∧ (kv_Ms.getD 138 kv_dM).2.2.2.2.2.2.1 = 1 ∧ (kv_Ms.getD 138 kv_dM).2.2.2.2.1 = 2 := by decide +kernel
theorem kz_q59 : (kv_Ms.getD 59 kv_dM).1 = 9 ∧ (kv_Ms.getD 59 kv_dM).2.2.2.2.2.2.2 = false ∧ (¬ (kv_Ms.getD 59 kv_dM).2.1 = "<init>") ∧ (kv_Ms.getD 59 kv_dM).2.2.2.2.2.2.1 = 2 ∧ (kv_Ms.getD 59 kv_dM).2.2.2.2.1 = 4 := by decide +kernel
theorem kz_is0 : kv_is kv_shK 0 11 = true := by decide +kernel
theorem kz_is36 : kv_is kv_shK 36 9 = true := by decide +kernel
section
variable {ad : Nat → Nat} {A : Nat → Prop} {D : va_G} {k : kv_K} {d sz : Nat} {x w bb v : Int32} {z : Nat → Nat → Int32} {zl : Nat → Nat → Int64}
def kz_Pk (ad : Nat → Nat) (A : Nat → Prop) (D : va_G) (k : kv_K) (sz : Nat) (x w : Int32) (z : Nat → Nat → Int32) (zl : Nat → Nat → Int64) : Array Value → State → Prop := fun v U => kv_Pc ad A D k sz [.ref 0, .int x, .int w] (kv_shK, z, zl) v U ∧ kz_T A U U.heap
theorem kz_Pk_blind : FrameBlind (kz_Pk ad A D k sz x w z zl) := fun a U g mk ⟨q1, q2⟩ => ⟨kv_blind ad A D k sz _ _ a U g mk q1, kz_T.same (U := U.calling g mk a) (rfl : U.vm = (U.calling g mk a).vm) q2⟩
set_option maxHeartbeats 4000000 in
set_option maxRecDepth 100000 in
/-- kite throws -/
theorem kz_kite_t (l : Launch) (hlt : l.stackTraces = false) (hA : ∀ q, sz ≤ q → A q) (had : ∀ n, n ≤ 290 → 172 ≤ n → ad (n + 1) = ad n + 1) (run : kv_Rn d 138 0 (kv_en 138 [.ref 0, .int x]) [] (kv_shK, z, zl) = some (some (.int bb), (kv_shK, z, zl))) (hbad : bb = 0 ∨ (w < 0 ∨ 12 ≤ w)) :
    vx_Met l (kv_y kz_qk) (kv_wsj kz_qk) (kz_rmk d 1 6) (kz_Pk ad A D k sz x w z zl) (va_Qi (fun _ (_ : Unit) => False) (fun _ _ => True) A) (vx_X (fun _ : Unit => True) (fun E _ t => E = kz_E ∧ va_P D kv_cl (kv_w ad k (kv_shK, z, zl)) t.heap) A) 1 6 A := by
  refine vx_ofW (cc := prog_1_method_7_code) (maxL := 3) (ret := some .int) (by decide +kernel) rfl ?_
  intro p e s m args below meth c s₁ B hml hxt hv
  obtain ⟨⟨hv1, hW, hB, hsz⟩, hT⟩ := hv
  have hv1 : args = ([.ref (ad 0), .int x, .int w] : List Value).toArray := hv1
  subst hv1
  have hx := B.exec
  have hb := B.bytes
  have hlocks := B.notSynchronized
  have hts0 := atoms_spec (ws := kv_wsj kz_qk) B.pre
  have hts : ∀ w' ∈ kv_gW, w'.before ([.ref (ad 0), .int x, .int w] : List Value).toArray s = true := fun w hw => hts0 w (List.mem_cons_of_mem _ hw)
  have hown : s.vm.findClass "KiteVote" = some m.cls := findClass_of_methodNamed B.named
  have hl9 := lv_entry ([.ref (ad 0), .int x, .int w]) (n := 3) (Nat.le_of_ble_eq_true rfl)
  rw [lg_entry_eq]
  generalize (lg_sl ([.ref (ad 0), .int x, .int w]) ++ List.replicate (3 - (lg_sl ([.ref (ad 0), .int x, .int w])).length) Slot.unset).toArray = ls at hl9 ⊢
  have hlo : lv_has ls 3 [(0, .ref (ad 0)), (1, .int x), (2, .int w)] := hl9
  obtain ⟨q1, q2, q3, q4, q5⟩ := kz_q138
  have thr : ∀ (H1 : Heap) (locs1 : List Loc), kv_W ad A D k (kv_shK, z, zl) H1 → va_S A s.heap H1 locs1 → W p l e (kz_rmk d 1 6) s m ([.ref (ad 0), .int x, .int w] : List Value).toArray below meth c H1 locs1 0 0 (vx_MQ below (va_Qi (fun _ (_ : Unit) => False) (fun _ _ => True) A) (vx_X (fun _ : Unit => True) (fun E _ t => E = kz_E ∧ va_P D kv_cl (kv_w ad k (kv_shK, z, zl)) t.heap) A) ([.ref (ad 0), .int x, .int w] : List Value).toArray s 1 6 A) (F0 m 18 ls []) := by
    intro H1 locs1 hW1 hS1
    refine vx_throw0 (own := "KiteVote") (cls := kz_E) (names := ["java/lang/RuntimeException", "java/lang/Exception"]) (A := A) hx hb hlt hown (by decide +kernel) (by decide +kernel) (hts _ (kz_kws_g _ (by decide +kernel))) (hts _ (kz_kws_g _ (by decide +kernel)))
      (fun w' hw => va_Nw.use (kz_thr_tab w' hw) (hT.2.2 w' hw)) kz_thr_ot hT.1 hT.2.1 hS1 (hlo.1.trans hml.symm) kz_k18 kz_k21 kz_k22 kz_k25 (fun y hy => (hxt y hy).elim) (by show 2 + 3 < d + 12; omega) (by show 0 + (13 * (2 + 1) + 42) ≤ 40 * d + 400; omega) (by show 0 + 1 ≤ 1; omega) (by show 0 + 6 ≤ 6; omega) hlocks
      (fun t _ h1 h2 => ⟨(), trivial, ⟨rfl, hW1.1.kept (fun k9 q9 h9 => h2 _ ((hW1.1 k9 q9 h9).lt))⟩, Nat.le_trans hS1.1 h1, fun q9 a9 b9 => (h2 q9 (Nat.lt_of_lt_of_le a9 hS1.1)).trans (hS1.2.1 q9 a9 b9)⟩) hS1.2.2 (by omega) (by omega)
  refine lv_aload_n hx hb kz_k0 rfl (lv_at hlo 0 rfl) ?_
  refine lv_iload_n hx hb kz_k1 rfl (lv_at hlo 1 rfl) ?_
  refine kz_runV (own := "KiteVote") (j := 138) (b := 0) (as' := [.int x]) (q := kv_Ms.getD 138 kv_dM) (A := A) (A0 := A) (hF := (kv_shK, z, zl)) (rest := []) hx hb hml hown hts (hts _ (kz_kws_g _ (by decide +kernel))) kz_g138 q2 q3 q4 (by rw [q5]; exact Nat.le_of_ble_eq_true rfl) (by rw [q1]; exact kz_is0) hB hW va_S.rf (fun _ h => h) (fun z9 h9 => hA z9 (Nat.le_trans hsz h9)) (by rw [kz_lenK]; exact had) (fun _ _ _ => rfl) run hlo.1 (by decide) kz_k2 ⟨by show d + 2 ≤ d + 12; omega, by rw [q5]; show 8 + (2 + 11) + (40 * d + 60) ≤ 40 * d + 400; omega⟩ ⟨by show 0 + (_ - _) ≤ 1; omega, by show 0 + (_ - _) ≤ 6; omega⟩ (fun H1 locs1 w1 w2 w3 w4 => ?_)
  · refine W.widen (k := 0) (n := 0) (by omega) (by omega) ?_
    refine lv_if_eq (tgt := 18) hx hb kz_k5 (by decide) (fun c1 => thr H1 locs1 w1 w4) (fun c1 => ?_)
    have hbad : w < 0 ∨ 12 ≤ w := hbad.resolve_left c1
    refine lv_iload_n hx hb kz_k8 rfl (lv_at hlo 2 rfl) ?_
    refine lv_if_lt (tgt := 18) hx hb kz_k9 (by decide) (fun c2 => thr H1 locs1 w1 w4) (fun c2 => ?_)
    have hbad : 12 ≤ w := hbad.resolve_left c2
    refine lv_iload_n hx hb kz_k12 rfl (lv_at hlo 2 rfl) ?_
    refine lv_bipush (v := 12) hx hb kz_k13 (by decide) ?_
    refine lv_icmp_lt (tgt := 26) hx hb kz_k15 (by decide) (fun c3 => absurd c3 (Int32.not_lt.mpr hbad)) (fun c3 => thr H1 locs1 w1 w4)
end
