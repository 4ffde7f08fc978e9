/-! kite answers; the law's own kite, that catches -/
section
variable {ad : Nat → Nat} {A : Nat → Prop} {D : va_G} {k : kv_K} {d sz oa : Nat} {x w bb v : Int32} {z : Nat → Nat → Int32} {zl : Nat → Nat → Int64} {oc : ClassId} {out : Nat → Int64}
theorem kz_gf36 (ls : kv_L) (r : List Value) : kv_gf 11 58 27 ls (kv_shK, z, zl) 0 r = some (.inr (.inl (30, ls, .ref 36 :: r, (kv_shK, z, zl)))) := rfl
set_option maxHeartbeats 4000000 in
set_option maxRecDepth 100000 in
/-- kite answers -/
theorem kz_kite_r (l : Launch) (hA : ∀ q, sz ≤ q → A q) (had : ∀ n, n ≤ 290 → 172 ≤ n → ad (n + 1) = ad n + 1) (run : kv_Rn d 138 0 (kv_en 138 [.ref 0, .int x]) [] (kv_shK, z, zl) = some (some (.int 1), (kv_shK, z, zl))) (hw : ¬ w < 0 ∧ ¬ 12 ≤ w) (run2 : kv_Rn d 59 0 (kv_en 59 [.ref 36, .int x, .int w]) [] (kv_shK, z, zl) = some (some (.int v), (kv_shK, z, zl))) :
    Met l (kv_y kz_qk) (kv_wsj kz_qk) (kz_rmk d 0 0) (kz_Pk ad A D k sz x w z zl) (va_Qi (fun r (_ : Unit) => r = v) (fun _ t => va_P D kv_cl (kv_w ad k (kv_shK, z, zl)) t.heap) A) 0 0 A := by
  refine Met.ofW (cc := prog_1_method_7_code) (maxL := 3) (ret := some .int) (by decide +kernel) rfl ?_
  intro p e s m args below meth c s₁ B hml hv
  obtain ⟨⟨hv1, hW, hB, hsz⟩, hT⟩ := hv
  have hv1 : args = ([.ref (ad 0), .int x, .int w] : List Value).toArray := hv1
  subst hv1
  have hx := B.exec
  have hb := B.bytes
  have hr := B.returns
  have hlocks := B.notSynchronized
  have hts0 := atoms_spec (ws := kv_wsj kz_qk) B.pre
  have hts : ∀ w' ∈ kv_gW, w'.before ([.ref (ad 0), .int x, .int w] : List Value).toArray s = true := fun w hw => hts0 w (List.mem_cons_of_mem _ hw)
  have hown : s.vm.findClass "KiteVote" = some m.cls := findClass_of_methodNamed B.named
  have hl9 := lv_entry ([.ref (ad 0), .int x, .int w]) (n := 3) (Nat.le_of_ble_eq_true rfl)
  rw [lg_entry_eq]
  generalize (lg_sl ([.ref (ad 0), .int x, .int w]) ++ List.replicate (3 - (lg_sl ([.ref (ad 0), .int x, .int w])).length) Slot.unset).toArray = ls at hl9 ⊢
  have hlo : lv_has ls 3 [(0, .ref (ad 0)), (1, .int x), (2, .int w)] := hl9
  obtain ⟨q1, q2, q3, q4, q5⟩ := kz_q138
  obtain ⟨g1, g2, g3, g4, g5⟩ := kz_q59
  refine lv_aload_n hx hb kz_k0 rfl (lv_at hlo 0 rfl) ?_
  refine lv_iload_n hx hb kz_k1 rfl (lv_at hlo 1 rfl) ?_
  refine kz_runV (own := "KiteVote") (j := 138) (b := 0) (as' := [.int x]) (q := kv_Ms.getD 138 kv_dM) (A := A) (A0 := A) (hF := (kv_shK, z, zl)) (rest := []) hx hb hml hown hts (hts _ (kz_kws_g _ (by decide +kernel))) kz_g138 q2 q3 q4 (by rw [q5]; exact Nat.le_of_ble_eq_true rfl) (by rw [q1]; exact kz_is0) hB hW va_S.rf (fun _ h => h) (fun z9 h9 => hA z9 (Nat.le_trans hsz h9)) (by rw [kz_lenK]; exact had) (fun _ _ _ => rfl) run hlo.1 (by decide) kz_k2 ⟨by show d + 2 ≤ d + 12; omega, by rw [q5]; show 8 + (2 + 11) + (40 * d + 60) ≤ 40 * d + 400; omega⟩ ⟨by show 0 + (_ - _) ≤ 0; omega, by show 0 + (_ - _) ≤ 0; omega⟩ (fun H1 locs1 w1 w2 w3 w4 => ?_)
  refine W.widen (k := 0) (n := 0) (by omega) (by omega) ?_
  refine lv_if_eq (tgt := 18) hx hb kz_k5 (by decide) (fun c1 => absurd c1 (by decide)) (fun c1 => ?_)
  refine lv_iload_n hx hb kz_k8 rfl (lv_at hlo 2 rfl) ?_
  refine lv_if_lt (tgt := 18) hx hb kz_k9 (by decide) (fun c2 => absurd c2 hw.1) (fun c2 => ?_)
  refine lv_iload_n hx hb kz_k12 rfl (lv_at hlo 2 rfl) ?_
  refine lv_bipush (v := 12) hx hb kz_k13 (by decide) ?_
  refine lv_icmp_lt (tgt := 26) hx hb kz_k15 (by decide) (fun c3 => ?_) (fun c3 => absurd (Int32.not_lt.mp c3) hw.2)
  refine lv_aload_n hx hb kz_k26 rfl (lv_at hlo 0 rfl) ?_
  have C0 : kv_At p s m ([.ref (ad 0), .int x, .int w] : List Value).toArray meth c ad A D k 172 kz_qk := ⟨hx, hb, hml, hr, hlocks, hown, hts, fun h9 => absurd h9 (by decide), hB, fun z9 h9 => hA z9 (Nat.le_trans hsz h9), had⟩
  refine kv_s_get C0 kz_k27 (kz_gf36 [] []) w1 w4 (fun _ _ => ?_)
  refine lv_iload_n hx hb kz_k30 rfl (lv_at hlo 1 rfl) ?_
  refine lv_iload_n hx hb kz_k31 rfl (lv_at hlo 2 rfl) ?_
  refine kz_runV (own := "KiteVote") (j := 59) (b := 36) (as' := [.int x, .int w]) (q := kv_Ms.getD 59 kv_dM) (A := A) (A0 := A) (hF := (kv_shK, z, zl)) (rest := []) hx hb hml hown hts (hts _ (kz_kws_g _ (by decide +kernel))) kz_g59 g2 g3 g4 (by rw [g5]; exact Nat.le_of_ble_eq_true rfl) (by rw [g1]; exact kz_is36) hB w1 w4 (fun _ h => h) (fun z9 h9 => hA z9 (Nat.le_trans hsz (Nat.le_trans w2 h9))) (by rw [kz_lenK]; exact had) w4.2.1 run2 hlo.1 (by decide) kz_k32 ⟨by show d + 2 ≤ d + 12; omega, by rw [g5]; show 8 + (4 + 11) + (40 * d + 60) ≤ 40 * d + 400; omega⟩ ⟨by show 0 + (_ - _) ≤ 0; omega, by show 0 + (_ - _) ≤ 0; omega⟩ (fun H2 locs2 y1 y2 y3 y4 => ?_)
  refine W.widen (k := 0) (n := 0) (by omega) (by omega) ?_
  exact W.iret hx hb hr (fun t ht _ => ⟨⟨v, (), rfl, rfl, by show va_P D kv_cl _ t.heap; rw [ht]; exact y1.1⟩, y4.F ht⟩) y4.2.2 kz_k35
/-- what the law's kite finds -/
def kz_Pl (ad : Nat → Nat) (A : Nat → Prop) (D : va_G) (k : kv_K) (sz oa : Nat) (oc : ClassId) (out : Nat → Int64) (x w : Int32) (z : Nat → Nat → Int32) (zl : Nat → Nat → Int64) : Array Value → State → Prop := fun v U => v = ([.ref (ad 0), .int x, .int w, .ref oa] : List Value).toArray ∧ (kv_W ad A D k (kv_shK, z, zl) U.heap ∧ kv_B ad A D k U U.heap ∧ kz_T A U U.heap) ∧ va_P D kv_cl [(oa, .inl (oc, 1, .inr (.inl out)))] U.heap ∧ va_K D kv_cl [(oc, .long)] U ∧ (¬ A oa) ∧ U.heap.size = sz
theorem kz_Pl_blind : FrameBlind (kz_Pl ad A D k sz oa oc out x w z zl) := fun a U g mk ⟨q1, ⟨q2, q3, q4⟩, q5, q6, q7, q8⟩ => ⟨q1, ⟨q2, kv_B.same (U := U.calling g mk a) (rfl : U.vm = (U.calling g mk a).vm) q3, kz_T.same (U := U.calling g mk a) (rfl : U.vm = (U.calling g mk a).vm) q4⟩, q5, va_K.moved (u := U) (U := U.calling g mk a) (Vm.Alike.refl U.vm) q6, q7, q8⟩
def kz_wsl : List Cond := .codeWith kz_yl method_3_code 5 (some .int) [(0, 10, 13, 13)] :: kv_gW
def kz_rml (d mc ms : Nat) : Room := { frames := d + 14, cells := mc, slots := ms, locals := 40 * d + 500 }
theorem kz_kdesc : (kv_y kz_qk).cls ≠ "java/lang/invoke/MethodHandle" ∧ (kv_y kz_qk).cls ≠ "java/lang/invoke/VarHandle" ∧ (parseMethodDescriptor (kv_y kz_qk).desc).map (fun d => d.parameters.length) = some 2 := by decide +kernel
theorem kz_kgood : GoodIn kv_gW (kv_wsj kz_qk) := by
  intro w hw
  rcases List.mem_cons.mp hw with rfl | hw
  · exact ⟨kz_kws_g _ (by decide +kernel), good_of_word rfl⟩
  · exact ⟨hw, good_of_word (List.mem_filter.mp hw).2⟩
set_option maxHeartbeats 4000000 in
set_option maxRecDepth 100000 in
/-- the law's kite: what kite answers goes into the row -/
theorem kz_law_r (l : Launch) (hA : ∀ q, sz ≤ q → A q) (had : ∀ n, n ≤ 290 → 172 ≤ n → ad (n + 1) = ad n + 1) (hM : Met l (kv_y kz_qk) (kv_wsj kz_qk) (kz_rmk d 0 0) (kz_Pk ad A D k sz x w z zl) (va_Qi (fun r (_ : Unit) => r = v) (fun _ t => va_P D kv_cl (kv_w ad k (kv_shK, z, zl)) t.heap) A) 0 0 A) :
    Met l kz_yl kz_wsl (kz_rml d 0 0) (kz_Pl ad A D k sz oa oc out x w z zl) (va_Qi (fun r (_ : Unit) => r = 0) (fun _ t => va_P D kv_cl (kv_w ad k (kv_shK, z, zl)) t.heap ∧ va_P D kv_cl [(oa, .inl (oc, 1, .inr (.inl (vp_updL out 0 v.toInt64))))] t.heap) (fun q => A q ∨ q = oa)) 0 0 (fun q => A q ∨ q = oa) := by
  refine va_MetW (cc := method_3_code) (maxL := 5) (ret := some .int) (hh := [(0, 10, 13, 13)]) (by decide +kernel) rfl ?_
  intro p e s m args below meth c s₁ B hml hv
  obtain ⟨hv1, ⟨hW, hB, hT⟩, hPo, hKo, hAo, hsz⟩ := hv
  subst hv1
  have hx := B.exec
  have hb := B.bytes
  have hr := B.returns
  have hlocks := B.notSynchronized
  have hts0 := atoms_spec (ws := kz_wsl) B.pre
  have hts : ∀ w' ∈ kv_gW, w'.before ([.ref (ad 0), .int x, .int w, .ref oa] : List Value).toArray s = true := fun w hw => hts0 w (List.mem_cons_of_mem _ hw)
  have hown : s.vm.findClass R_law = some m.cls := findClass_of_methodNamed B.named
  have hl9 := lv_entry ([.ref (ad 0), .int x, .int w, .ref oa]) (n := 5) (Nat.le_of_ble_eq_true rfl)
  rw [lg_entry_eq]
  generalize (lg_sl ([.ref (ad 0), .int x, .int w, .ref oa]) ++ List.replicate (5 - (lg_sl ([.ref (ad 0), .int x, .int w, .ref oa])).length) Slot.unset).toArray = ls at hl9 ⊢
  have hlo : lv_has ls 5 [(0, .ref (ad 0)), (1, .int x), (2, .int w), (3, .ref oa)] := hl9
  have hre : ∃ cell : Cell, s.heap[ad 0]? = some cell ∧ cell.vm.isStatics = false ∧ s.vm.findClass "KiteVote" = some cell.cls := kv_recv (c := 11) hB hW (A := A) (locs := []) va_S.rf kz_is0
  refine lv_aload_n hx hb kz_l0 rfl (lv_at hlo 3 rfl) ?_
  refine lv_iconst (v := 0) hx hb kz_l1 (by decide) ?_
  refine lv_aload_n hx hb kz_l2 rfl (lv_at hlo 0 rfl) ?_
  refine lv_iload_n hx hb kz_l3 rfl (lv_at hlo 1 rfl) ?_
  refine lv_iload_n hx hb kz_l4 rfl (lv_at hlo 2 rfl) ?_
  refine va_calli (A0 := fun q => A q ∨ q = oa) (va_runV (C := "KiteVote") (As := [.int x, .int w]) (rest := [.int 0, .ref oa]) ⟨hx, hb, hml, hown, hts⟩ hM ⟨callB_of 2 hts kz_kgood rfl rfl rfl (hts _ (kz_kws_g _ (by decide +kernel))) (hts _ (kz_kws_g (.methodLink R_law 7 (kv_y kz_qk)) (by decide +kernel))) kz_kdesc ⟨by show d + 12 + 1 ≤ d + 14; omega, by show 8 + (3 + 11) + (40 * d + 400) ≤ 40 * d + 500; omega⟩, hts _ (kz_kws_g _ (by decide +kernel)), hts _ (kz_kws_g _ (by decide +kernel))⟩
    ⟨kz_Pk_blind, hre, fun U hU hWm => ⟨⟨rfl, by rw [hU]; exact hW, by rw [hU]; exact hB.warm hWm, by rw [hU, hsz]; exact Nat.le_refl _⟩, by rw [hU]; exact hT.warm hWm⟩⟩ rfl rfl hlo.1 rfl (lv_room (Nat.le_of_ble_eq_true rfl)) kz_l5 ⟨Nat.le_refl _, Nat.le_refl _⟩) va_S.rf (fun q _ h => Or.inl h) (fun q h => Or.inl h) (fun r u t H1 locs1 ht hvm hrv hBt hz1 hk1 hS1 => ?_)
  subst hrv
  rw [ht] at hBt
  refine lv_i2l hx hb kz_l8 rfl ?_
  have hPo1 : va_P D kv_cl [(oa, .inl (oc, 1, .inr (.inl out)))] H1 := hPo.kept (fun k9 q9 h9 => by
    have h8 := List.mem_singleton.mp (List.mem_of_getElem? h9)
    subst h8
    exact hk1 oa (hPo 0 _ rfl).lt hAo)
  have hD9 : va_D (fun q => A q ∨ q = oa) (kv_w ad k (kv_shK, z, zl) ++ [(oa, .inl (oc, 1, .inr (.inl out)))]) := va_D.app (hW.2.1.weaken (fun _ _ _ h => Or.inl h)) ⟨fun i j p9 q9 hp hq _ => by have := (List.getElem?_eq_some_iff.mp hp).1; have := (List.getElem?_eq_some_iff.mp hq).1; simp at *; omega, fun k9 q9 h9 => by have h8 := List.mem_singleton.mp (List.mem_of_getElem? h9); subst h8; exact Or.inr rfl⟩ (fun i j p9 q9 hp hq h9 => by
    have h8 := List.mem_singleton.mp (List.mem_of_getElem? hq)
    subst h8
    have h7 := hW.2.1.2 i p9 hp
    have h6 : p9.1 = oa := h9
    rw [h6] at h7
    exact hAo h7)
  have hi9 : (kv_w ad k (kv_shK, z, zl) ++ [(oa, .inl (oc, 1, .inr (.inl out)))])[172]? = some (oa, .inl (oc, 1, .inr (.inl out))) := by
    rw [List.getElem?_append_right (by rw [kv_w_len, kz_lenK]; exact Nat.le_refl _), kv_w_len, kz_lenK]
    rfl
  refine va_last hx hb hKo (hBt.app hPo1) hD9 hS1 172 0 hi9 rfl (show ¬ ((0 : Int32) < 0 ∨ 1 ≤ (0 : Int32).toNatClampNeg) from by decide) kz_l9 (fun H2 locs2 y1 y2 y3 => ?_)
  refine lv_goto (tgt := 17) hx hb kz_l10 (by decide) ?_
  refine lv_iconst (v := 0) hx hb kz_l17 (by decide) ?_
  have e9 : (kv_w ad k (kv_shK, z, zl) ++ [((oa, Sum.inl (oc, 1, Sum.inr (Sum.inl out))) : Nat × va_E)]).set 172 ((oa, Sum.inl (oc, 1, Sum.inr (Sum.inl (vp_updL out (0 : Int32).toNatClampNeg r.toInt64)))) : Nat × va_E) = kv_w ad k (kv_shK, z, zl) ++ [((oa, Sum.inl (oc, 1, Sum.inr (Sum.inl (vp_updL out 0 r.toInt64)))) : Nat × va_E)] := by
    rw [List.set_append_right _ _ (by rw [kv_w_len, kz_lenK]; exact Nat.le_refl _), kv_w_len, kz_lenK]
    rfl
  rw [e9] at y1
  have yP : va_P D kv_cl (kv_w ad k (kv_shK, z, zl)) H2 := fun i q h => y1 i q (by rw [List.getElem?_append_left (List.getElem?_eq_some_iff.mp h).1]; exact h)
  have yO : va_P D kv_cl [(oa, .inl (oc, 1, .inr (.inl (vp_updL out 0 r.toInt64))))] H2 := fun i q h => y1 (172 + i) q (by rw [List.getElem?_append_right (by rw [kv_w_len, kz_lenK]; omega), kv_w_len, kz_lenK, Nat.add_sub_cancel_left]; exact h)
  exact W.iret hx hb hr (fun t9 ht9 _ => ⟨⟨0, (), rfl, rfl, by show va_P D kv_cl _ t9.heap ∧ va_P D kv_cl _ t9.heap; rw [ht9]; exact ⟨yP, yO⟩⟩, y3.F ht9⟩) y3.2.2 kz_l18
set_option maxHeartbeats 4000000 in
set_option maxRecDepth 100000 in
/-- the law's kite: what kite throws is caught -/
theorem kz_law_t (l : Launch) (hA : ∀ q, sz ≤ q → A q) (hM : vx_Met l (kv_y kz_qk) (kv_wsj kz_qk) (kz_rmk d 1 6) (kz_Pk ad A D k sz x w z zl) (va_Qi (fun _ (_ : Unit) => False) (fun _ _ => True) A) (vx_X (fun _ : Unit => True) (fun E _ t => E = kz_E ∧ va_P D kv_cl (kv_w ad k (kv_shK, z, zl)) t.heap) A) 1 6 A) :
    Met l kz_yl kz_wsl (kz_rml d 1 6) (kz_Pl ad A D k sz oa oc out x w z zl) (va_Qi (fun r (_ : Unit) => r = 1) (fun _ t => va_P D kv_cl (kv_w ad k (kv_shK, z, zl)) t.heap ∧ va_P D kv_cl [(oa, .inl (oc, 1, .inr (.inl out)))] t.heap) (fun q => A q ∨ q = oa)) 1 6 (fun q => A q ∨ q = oa) := by
  refine va_MetW (cc := method_3_code) (maxL := 5) (ret := some .int) (hh := [(0, 10, 13, 13)]) (by decide +kernel) rfl ?_
  intro p e s m args below meth c s₁ B hml hv
  obtain ⟨hv1, ⟨hW, hB, hT⟩, hPo, hKo, hAo, hsz⟩ := hv
  subst hv1
  have hx := B.exec
  have hb := B.bytes
  have hr := B.returns
  have hlocks := B.notSynchronized
  have hts0 := atoms_spec (ws := kz_wsl) B.pre
  have hts : ∀ w' ∈ kv_gW, w'.before ([.ref (ad 0), .int x, .int w, .ref oa] : List Value).toArray s = true := fun w hw => hts0 w (List.mem_cons_of_mem _ hw)
  have htab := vx_table (x := kz_yl) B (hts0 _ List.mem_cons_self)
  have hown : s.vm.findClass R_law = some m.cls := findClass_of_methodNamed B.named
  have hl9 := lv_entry ([.ref (ad 0), .int x, .int w, .ref oa]) (n := 5) (Nat.le_of_ble_eq_true rfl)
  rw [lg_entry_eq]
  generalize (lg_sl ([.ref (ad 0), .int x, .int w, .ref oa]) ++ List.replicate (5 - (lg_sl ([.ref (ad 0), .int x, .int w, .ref oa])).length) Slot.unset).toArray = ls at hl9 ⊢
  have hlo : lv_has ls 5 [(0, .ref (ad 0)), (1, .int x), (2, .int w), (3, .ref oa)] := hl9
  have hre : ∃ cell : Cell, s.heap[ad 0]? = some cell ∧ cell.vm.isStatics = false ∧ s.vm.findClass "KiteVote" = some cell.cls := kv_recv (c := 11) hB hW (A := A) (locs := []) va_S.rf kz_is0
  refine lv_aload_n hx hb kz_l0 rfl (lv_at hlo 3 rfl) ?_
  refine lv_iconst (v := 0) hx hb kz_l1 (by decide) ?_
  refine lv_aload_n hx hb kz_l2 rfl (lv_at hlo 0 rfl) ?_
  refine lv_iload_n hx hb kz_l3 rfl (lv_at hlo 1 rfl) ?_
  refine lv_iload_n hx hb kz_l4 rfl (lv_at hlo 2 rfl) ?_
  refine vx_calli (A0 := fun q => A q ∨ q = oa) (vx_runV (C := "KiteVote") (As := [.int x, .int w]) (rest := [.int 0, .ref oa]) ⟨hx, hb, hml, hown, hts⟩ hM ⟨callB_of 2 hts kz_kgood rfl rfl rfl (hts _ (kz_kws_g _ (by decide +kernel))) (hts _ (kz_kws_g (.methodLink R_law 7 (kv_y kz_qk)) (by decide +kernel))) kz_kdesc ⟨by show d + 12 + 1 ≤ d + 14; omega, by show 8 + (3 + 11) + (40 * d + 400) ≤ 40 * d + 500; omega⟩, hts _ (kz_kws_g _ (by decide +kernel)), hts _ (kz_kws_g _ (by decide +kernel))⟩
    ⟨kz_Pk_blind, hre, fun U hU hWm => ⟨⟨rfl, by rw [hU]; exact hW, by rw [hU]; exact hB.warm hWm, by rw [hU, hsz]; exact Nat.le_refl _⟩, by rw [hU]; exact hT.warm hWm⟩⟩ rfl rfl hlo.1 rfl (lv_room (Nat.le_of_ble_eq_true rfl)) kz_l5 ⟨by show 0 + 1 ≤ 1; omega, by show 0 + 6 ≤ 6; omega⟩) va_S.rf (fun q _ h => Or.inl h) (fun q h => Or.inl h) (fun q _ h => Or.inl h) (fun E ce q9 u t H1 locs1 ht hvm _ hBt hz1 hk1 hS1 hce hcv hcl => ?_) (fun r u t H1 locs1 ht hvm hrv hBt hz1 hk1 hS1 => hrv.elim)
  obtain ⟨rfl, hBt⟩ := hBt
  rw [ht] at hBt
  have hPo1 : va_P D kv_cl [(oa, .inl (oc, 1, .inr (.inl out)))] H1 := hPo.kept (fun k9 q9 h9 => by
    have h8 := List.mem_singleton.mp (List.mem_of_getElem? h9)
    subst h8
    exact hk1 oa (hPo 0 _ rfl).lt hAo)
  refine vx_catch (own := R_law) (name := kz_E) hown [] _ [] htab (fun z9 h9 => nomatch h9) (by decide +kernel) (by decide +kernel) (hts _ (kz_kws_g _ (by decide +kernel))) (va_Nw.use (kz_thr_tab _ kz_thr_cast) (hT.2.2 _ kz_thr_cast)) hce hcv hcl ?_
  refine lv_astore (lv' := [(4, .ref q9), (0, .ref (ad 0)), (1, .int x), (2, .int w), (3, .ref oa)]) hx hb kz_l13 hlo (by decide) rfl (fun ls hl => ?_)
  refine lv_iconst (v := 1) hx hb kz_l15 (by decide) ?_
  exact W.iret hx hb hr (fun t9 ht9 _ => ⟨⟨1, (), rfl, rfl, by show va_P D kv_cl _ t9.heap ∧ va_P D kv_cl _ t9.heap; rw [ht9]; exact ⟨hBt, hPo1⟩⟩, hS1.F ht9⟩) hS1.2.2 kz_l16
end
