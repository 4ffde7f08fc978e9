/-! the law's round of kite -/
theorem kz_d388 : decode code 388 = .ok (.aload_n 1, 1) := by decide +kernel
theorem kz_d389 : kz_ar 389 1 ∧ kz_ar 395 2 ∧ kz_ar 408 1 ∧ kz_ar 414 2 := ⟨by decide +kernel, by decide +kernel, by decide +kernel, by decide +kernel⟩
theorem kz_d401 : decode code 401 = .ok (.aload_n 3, 1) := by decide +kernel
theorem kz_d402 : decode code 402 = .ok (.invokestatic 38, 3) := by decide +kernel
theorem kz_d405 : decode code 405 = .ok (.istore 5, 2) := by decide +kernel
theorem kz_d407 : decode code 407 = .ok (.aload_n 2, 1) := by decide +kernel
theorem kz_d420 : decode code 420 = .ok (.invokevirtual 43, 3) := by decide +kernel
theorem kz_d423 : decode code 423 = .ok (.istore 6, 2) := by decide +kernel
theorem kz_d425 : decode code 425 = .ok (.aload_n 2, 1) := by decide +kernel
theorem kz_d426 : decode code 426 = .ok (.invokevirtual 44, 3) := by decide +kernel
theorem kz_d429 : decode code 429 = .ok (.iload 5, 2) := by decide +kernel
theorem kz_d431 : decode code 431 = .ok (.if_icmp .eq 5, 3) := by decide +kernel
theorem kz_d436 : decode code 436 = .ok (.iload 5, 2) := by decide +kernel
theorem kz_d438 : decode code 438 = .ok (.ifCond .ne 15, 3) := by decide +kernel
theorem kz_d441 : decode code 441 = .ok (.aload_n 3, 1) := by decide +kernel
theorem kz_d442 : decode code 442 = .ok (.iconst 0, 1) := by decide +kernel
theorem kz_d443 : decode code 443 = .ok (.laload, 1) := by decide +kernel
theorem kz_d444 : decode code 444 = .ok (.iload 6, 2) := by decide +kernel
theorem kz_d446 : decode code 446 = .ok (.i2l, 1) := by decide +kernel
theorem kz_d447 : decode code 447 = .ok (.lcmp, 1) := by decide +kernel
theorem kz_d448 : decode code 448 = .ok (.ifCond .eq 5, 3) := by decide +kernel
theorem kz_d453 : decode code 453 = .ok (.goto 1216, 3) := by decide +kernel
theorem kz_q200 : kz_qd (kv_Ms.getD 200 kv_dM) 12 2 := by decide +kernel
theorem kz_q152 : kz_qd (kv_Ms.getD 152 kv_dM) 12 0 := by decide +kernel
theorem kz_g200 : kv_Ms[200]? = some (kv_Ms.getD 200 kv_dM) := by rw [List.getD_eq_getElem?_getD, List.getElem?_eq_getElem (by decide +kernel)]; rfl
theorem kz_g152 : kv_Ms[152]? = some (kv_Ms.getD 152 kv_dM) := by rw [List.getD_eq_getElem?_getD, List.getElem?_eq_getElem (by decide +kernel)]; rfl
theorem kz_l43 : Cond.methodLink R_law 43 (kv_y (kv_Ms.getD 200 kv_dM)) ∈ lw_tbl := List.mem_of_getElem? (i := 1481) (by decide +kernel)
theorem kz_l44 : Cond.methodLink R_law 44 (kv_y (kv_Ms.getD 152 kv_dM)) ∈ lw_tbl := List.mem_of_getElem? (i := 1327) (by decide +kernel)
theorem kz_lgood : GoodIn kv_gW (va_wsS R_law 38 kz_yl kz_wsl) := by
  intro w hw
  unfold va_wsS kz_wsl at hw
  rcases List.mem_append.mp hw with hw | hw
  · have h1 : ∀ w ∈ ([.methodLink R_law 38 kz_yl, .static kz_yl, .initialized kz_yl.cls] : List Cond), w ∈ kz_kws := by decide +kernel
    exact ⟨kz_kws_g _ (h1 w hw), good_of_word (kz_kws_good _ (h1 w hw))⟩
  · rcases List.mem_cons.mp hw with rfl | hw
    · have h1 : Cond.codeWith kz_yl method_3_code 5 (some .int) [(0, 10, 13, 13)] ∈ kz_kws := by decide +kernel
      exact ⟨kz_kws_g _ h1, good_of_word (kz_kws_good _ h1)⟩
    · exact ⟨hw, good_of_word (List.mem_filter.mp hw).2⟩
theorem kz_ldesc : kz_yl.cls ≠ "java/lang/invoke/MethodHandle" ∧ kz_yl.cls ≠ "java/lang/invoke/VarHandle" ∧ (parseMethodDescriptor kz_yl.desc).map (fun d => d.parameters.length) = some 4 := by decide +kernel
section
variable {p : Program} {l : Launch} {e : Env} {s : State} {m : MethodId} {below : List Frame} {meth : Method} {c : Code} {H : Heap} {locs : List Loc} {cells slots : Nat} {Q : State → Prop}
variable {pc b L oa i : Nat} {xs : Nat → Int32} {ls : Array Slot} {rest : List Value} {D : va_G} {adK adM : Nat → Nat} {k : kv_K} {oc : ClassId}
/-- what both sides look up: the same, or neither -/
def kz_KH (S : (Nat → Nat → Int32) → (Nat → Nat → Int32) → Prop) (zK zM : Nat → Nat → Int32) (zlK zlM : Nat → Nat → Int64) (x w : Int32) : Prop :=
  (∃ (v : Int32) (zM' : Nat → Nat → Int32) (zlM' : Nat → Nat → Int64), (¬ w < 0 ∧ ¬ 12 ≤ w) ∧ kv_Rn 130 138 0 (kv_en 138 [.ref 0, .int x]) [] (kv_shK, zK, zlK) = some (some (.int 1), (kv_shK, zK, zlK)) ∧ kv_Rn 130 59 0 (kv_en 59 [.ref 36, .int x, .int w]) [] (kv_shK, zK, zlK) = some (some (.int v), (kv_shK, zK, zlK)) ∧
    kv_Rn 132 200 0 (kv_en 200 [.ref 0, .int x, .int w]) [] (kv_shM, zM, zlM) = some (some (.int v), (kv_shM, zM', zlM')) ∧ zM' 0 0 = 0 ∧ S zK zM') ∨
  (∃ (bb r : Int32) (zM' : Nat → Nat → Int32) (zlM' : Nat → Nat → Int64), (bb = 0 ∨ (w < 0 ∨ 12 ≤ w)) ∧ kv_Rn 130 138 0 (kv_en 138 [.ref 0, .int x]) [] (kv_shK, zK, zlK) = some (some (.int bb), (kv_shK, zK, zlK)) ∧
    kv_Rn 132 200 0 (kv_en 200 [.ref 0, .int x, .int w]) [] (kv_shM, zM, zlM) = some (some (.int r), (kv_shM, zM', zlM')) ∧ zM' 0 0 = 1 ∧ S zK zM')
/-- behind the law's kite: the model's, and the comparing -/
theorem kz_kite2 {S : (Nat → Nat → Int32) → (Nat → Nat → Int32) → Prop} {zK zM zM' : Nat → Nat → Int32} {zlK zlM zlM' : Nat → Nat → Int64} {out : Nat → Int64} {r v : Int32} (hSc : kz_cutS S) (hThr : ∀ z zl, kv_Rn 132 152 0 (kv_en 152 [.ref 0]) [] (kv_shM, z, zl) = some (some (.int (z 0 0)), (kv_shM, z, zl))) (F : kz_L p s m meth c b L xs adK adM oa D k oc)
    (hH : kz_H adK adM oa D k oc zK zM zlK zlM out H) (hS : va_S (fun q : Nat => s.heap.size ≤ q) s.heap H locs) (hl : lv_has ls 7 [(0, .ref b), (1, .ref (adK 0)), (2, .ref (adM 0)), (3, .ref oa), (4, .int (Int32.ofNat i))]) (hi : i + 2 < L)
    (run : kv_Rn 132 200 0 (kv_en 200 [.ref 0, .int (xs (i + 1)), .int (xs (i + 2))]) [] (kv_shM, zM, zlM) = some (some (.int v), (kv_shM, zM', zlM'))) (hr0 : zM' 0 0 = r) (hov : r = 0 → out 0 = v.toInt64) (hSS : S zK zM') (hC : cells + 2 ≤ 601024 ∧ slots + 2 ≤ 7293034)
    (kk : ∀ (zM' : Nat → Nat → Int32) (zlM' : Nat → Nat → Int64) (H1 : Heap) (locs1 : List Loc) (ls : Array Slot), S zK zM' → kz_H adK adM oa D k oc zK zM' zlK zlM' out H1 → va_S (fun q : Nat => s.heap.size ≤ q) s.heap H1 locs1 → lv_has ls 7 [(0, .ref b), (1, .ref (adK 0)), (2, .ref (adM 0)), (3, .ref oa), (4, .int (Int32.ofNat i))] → W p l e room_1 s m #[Value.ref b] below meth c H1 locs1 (cells + 2) (slots + 2) Q (F0 m 1669 ls [])) :
    W p l e room_1 s m #[Value.ref b] below meth c H locs cells slots Q (F0 m 405 ls [.int r]) := by
  have F' := F
  obtain ⟨⟨hx, hb, hml, hown, hr, hlk⟩, hts, ⟨hX, hbl, hL⟩, hB, hg, hdd, hKo⟩ := F'
  obtain ⟨a1, a2, a3, a4⟩ := kz_d389
  obtain ⟨n1, n2, n3, n4, n5⟩ := kz_q200
  obtain ⟨t1, t2, t3, t4, t5⟩ := kz_q152
  refine lv_istore (lv' := [(5, .int r), (0, .ref b), (1, .ref (adK 0)), (2, .ref (adM 0)), (3, .ref oa), (4, .int (Int32.ofNat i))]) hx hb kz_d405 hl (by decide) rfl (fun ls hl => ?_)
  have hl2 := lv_sub (l' := [(0, .ref b), (1, .ref (adK 0)), (2, .ref (adM 0)), (3, .ref oa), (4, .int (Int32.ofNat i))]) hl [1, 2, 3, 4, 5] rfl
  refine lv_aload_n hx hb kz_d407 rfl (lv_at hl2 2 rfl) ?_
  refine kz_arg F hS a3 hl2 (by omega) ?_
  refine kz_arg F hS a4 hl2 (by omega) ?_
  refine kz_callM (as' := [.int (xs (i + 1)), .int (xs (i + 2))]) F kz_l43 kz_g200 ⟨n2, n3, n4, n5⟩ n1 (fun f => rfl) hH hS run hl.1 (by decide) kz_d420 ⟨by omega, by omega⟩ (fun H1 locs1 w1 w2 => ?_)
  refine lv_istore (lv' := [(6, .int v), (5, .int r), (0, .ref b), (1, .ref (adK 0)), (2, .ref (adM 0)), (3, .ref oa), (4, .int (Int32.ofNat i))]) hx hb kz_d423 hl (by decide) rfl (fun ls hl => ?_)
  refine lv_aload_n hx hb kz_d425 rfl (lv_at hl 4 rfl) ?_
  refine kz_callM (as' := []) F kz_l44 kz_g152 ⟨t2, t3, t4, t5⟩ t1 (fun f => rfl) w1 w2 (hThr _ _) hl.1 (by decide) kz_d426 ⟨by omega, by omega⟩ (fun H2 locs2 w3 w4 => ?_)
  have e0 : kz_cz 26 zM' 0 0 = r := hr0
  rw [e0]
  have hl3 := lv_sub (l' := [(0, .ref b), (1, .ref (adK 0)), (2, .ref (adM 0)), (3, .ref oa), (4, .int (Int32.ofNat i))]) hl [2, 3, 4, 5, 6] rfl
  have fin : W p l e room_1 s m #[Value.ref b] below meth c H2 locs2 (cells + 1 + 1) (slots + 1 + 1) Q (F0 m 453 ls []) := by
    refine lv_goto (tgt := 1669) hx hb kz_d453 (by decide) ?_
    exact kk _ _ H2 locs2 ls (hSc _ _ _ _ hSS (fun c hc => rfl) (fun c hc => (if_pos hc).trans (if_pos hc))) w3 w4 hl3
  refine lv_iload hx hb kz_d429 (lv_at hl 1 rfl) ?_
  refine lv_icmp_eq (tgt := 436) hx hb kz_d431 (by decide) (fun h9 => ?_) (fun h9 => absurd rfl h9)
  refine lv_iload hx hb kz_d436 (lv_at hl 1 rfl) ?_
  refine lv_if_ne (tgt := 453) hx hb kz_d438 (by decide) (fun h9 => fin) (fun h9 => ?_)
  refine lv_aload_n hx hb kz_d441 rfl (lv_at hl 5 rfl) ?_
  refine lv_iconst (v := 0) hx hb kz_d442 (by decide) ?_
  refine va_lald hx hb hKo w3.2.2.1 0 0 rfl rfl (show ¬ ((0 : Int32) < 0 ∨ 1 ≤ (0 : Int32).toNatClampNeg) from by decide) kz_d443 ?_
  refine lv_iload hx hb kz_d444 (lv_at hl 0 rfl) ?_
  refine lv_i2l hx hb kz_d446 rfl ?_
  refine W.lcmp hx hb kz_d447 ?_
  have e1 : out (0 : Int32).toNatClampNeg = v.toInt64 := hov h9
  rw [e1, show lg_cmp v.toInt64 v.toInt64 = 0 by simp [lg_cmp]]
  exact lv_if_eq (tgt := 453) hx hb kz_d448 (by decide) (fun h9 => fin) (fun h9 => absurd rfl h9)
set_option maxHeartbeats 4000000 in
theorem kz_kite {S : (Nat → Nat → Int32) → (Nat → Nat → Int32) → Prop} {zK zM : Nat → Nat → Int32} {zlK zlM : Nat → Nat → Int64} {out : Nat → Int64} (hSc : kz_cutS S) (hlt : l.stackTraces = false) (hTs : kz_T (fun q : Nat => s.heap.size ≤ q) s s.heap) (hThr : ∀ z zl, kv_Rn 132 152 0 (kv_en 152 [.ref 0]) [] (kv_shM, z, zl) = some (some (.int (z 0 0)), (kv_shM, z, zl))) (F : kz_L p s m meth c b L xs adK adM oa D k oc)
    (hH : kz_H adK adM oa D k oc zK zM zlK zlM out H) (hS : va_S (fun q : Nat => s.heap.size ≤ q) s.heap H locs) (hl : lv_has ls 7 [(0, .ref b), (1, .ref (adK 0)), (2, .ref (adM 0)), (3, .ref oa), (4, .int (Int32.ofNat i))]) (hi : i + 2 < L)
    (run : kz_KH S zK zM zlK zlM (xs (i + 1)) (xs (i + 2))) (hC : cells + 3 ≤ 601024 ∧ slots + 8 ≤ 7293034)
    (kk : ∀ (zM' : Nat → Nat → Int32) (zlM' : Nat → Nat → Int64) (out' : Nat → Int64) (H1 : Heap) (locs1 : List Loc) (ls : Array Slot), S zK zM' → kz_H adK adM oa D k oc zK zM' zlK zlM' out' H1 → va_S (fun q : Nat => s.heap.size ≤ q) s.heap H1 locs1 → lv_has ls 7 [(0, .ref b), (1, .ref (adK 0)), (2, .ref (adM 0)), (3, .ref oa), (4, .int (Int32.ofNat i))] → W p l e room_1 s m #[Value.ref b] below meth c H1 locs1 (cells + 3) (slots + 8) Q (F0 m 1669 ls [])) :
    W p l e room_1 s m #[Value.ref b] below meth c H locs cells slots Q (F0 m 388 ls []) := by
  have F' := F
  obtain ⟨⟨hx, hb, hml, hown, hr, hlk⟩, hts, ⟨hX, hbl, hL⟩, ⟨hBK, hBM⟩, ⟨iK, iM, gK, gM, go⟩, ⟨dKM, dKo, dMo⟩, hKo⟩ := F'
  obtain ⟨a1, a2, a3, a4⟩ := kz_d389
  have hH' := hH
  obtain ⟨hPK, hPM, hPo, zK0, zM0⟩ := hH'
  have hlen := kz_lenK
  have hA0 : ∀ q, kz_A adK 172 H.size q → s.heap.size ≤ q := by
    intro q hq
    rcases hq with ⟨a, ha, rfl⟩ | h
    · exact gK a ha
    · exact Nat.le_trans hS.1 h
  have hA1 : ∀ q, (kz_A adK 172 H.size q ∨ q = oa) → s.heap.size ≤ q := by
    intro q hq
    rcases hq with h | rfl
    · exact hA0 q h
    · exact go
  have hgw : ∀ w ∈ kv_gW, w.before #[Value.ref b] s = true := fun w hw => hts w (List.mem_filter.mp hw).1
  have hW := kz_W kz_okK (by omega) (by rw [hlen]; exact iK) (by rw [hlen]; exact zK0) hPK
  rw [hlen] at hW
  have hoA : ¬ kz_A adK 172 H.size oa := by
    intro h
    rcases h with ⟨a, ha, e9⟩ | h
    · exact dKo a ha e9.symm
    · have := (hPo 0 _ rfl).lt
      have h9 : oa < H.size := this
      omega
  have had : ∀ n, n ≤ 290 → 172 ≤ n → kz_ad adK 172 H.size (n + 1) = kz_ad adK 172 H.size n + 1 := by
    intro n h1 h2
    rw [kz_ad_ge (n := n + 1) (by omega) (by omega), kz_ad_ge (n := n) h2 (by omega)]
    omega
  have hpre : PreS s H (kz_Pl (kz_ad adK 172 H.size) (kz_A adK 172 H.size) D k H.size oa oc out (xs (i + 1)) (xs (i + 2)) zK zlK) [.ref (adK 0), .int (xs (i + 1)), .int (xs (i + 2)), .ref oa] := by
    refine ⟨kz_Pl_blind, fun U hU hWm => ?_⟩
    have keep : ∀ a : Nat, a < s.heap.size → ¬ kz_A adK 172 H.size a → H[a]? = s.heap[a]? := fun a ha _ => hS.2.1 a ha (by omega)
    refine ⟨by rw [kz_ad_lt (by omega)], ⟨by rw [hU]; exact hW, ?_, ?_⟩, by rw [hU]; exact hPo, va_K.moved hWm.alike hKo, hoA, by rw [hU]⟩
    · rw [hU]
      exact (kz_B ((hBK.warm hWm)) hA0 (fun n hn => kz_ad_st (by omega) hn)).kept keep
    · rw [hU]
      exact ((hTs.warm hWm).narrow hA0).kept keep
  have back : ∀ (out' : Nat → Int64) (H1 : Heap), va_P D kv_cl (kv_w (kz_ad adK 172 H.size) k (kv_shK, zK, zlK)) H1 → va_P D kv_cl [(oa, .inl (oc, 1, .inr (.inl out')))] H1 → (∀ q : Nat, q < H.size → ¬ (kz_A adK 172 H.size q ∨ q = oa) → H1[q]? = H[q]?) → kz_H adK adM oa D k oc zK zM zlK zlM out' H1 := by
    intro out' H1 h1 h2 h3
    refine ⟨kz_P (e' := []) (z := zK) (zl := zlK) kz_okK (fun n hn => (kz_ad_lt (by rw [hlen] at hn; exact hn)).symm) (fun a _ => ⟨rfl, rfl⟩) (by rw [List.append_nil]; exact h1), kz_keepP hPM (fun x hx => ?_), h2, zK0, zM0⟩
    obtain ⟨a, ha, e1⟩ := kz_inW hx
    have ha : a < 26 := ha
    rw [e1]
    have hlt := kz_ltW hPM (a := a) (by rw [kz_lenM]; exact ha)
    refine h3 _ hlt (fun h => ?_)
    rcases h with (⟨a2, ha2, e9⟩ | h) | h
    · exact dKM a2 a ha2 ha e9.symm
    · omega
    · exact dMo a ha h
  refine lv_aload_n hx hb kz_d388 rfl (lv_at hl 1 rfl) ?_
  refine kz_arg F hS a1 hl (by omega) ?_
  refine kz_arg F hS a2 hl (by omega) ?_
  refine lv_aload_n hx hb kz_d401 rfl (lv_at hl 3 rfl) ?_
  rcases run with ⟨v, zM', zlM', hw, r1, r2, r3, r4, r5⟩ | ⟨bb, v, zM', zlM', hw, r1, r3, r4, r5⟩
  · have hM := kz_law_r (A := kz_A adK 172 H.size) (sz := H.size) (oa := oa) (oc := oc) (out := out) l (fun q h => Or.inr h) had (kz_kite_r (A := kz_A adK 172 H.size) (sz := H.size) (D := D) (k := k) l (fun q h => Or.inr h) had r1 hw r2)
    refine va_calli (A0 := fun q : Nat => s.heap.size ≤ q) (vx_runSW (As := [.ref (adK 0), .int (xs (i + 1)), .int (xs (i + 2)), .ref oa]) (rest := []) ⟨hx, hb, hml, hown, hgw⟩ hM (vx_cwSW 4 hgw kz_lgood rfl rfl rfl kz_ldesc ⟨by decide, by decide⟩) hpre rfl rfl hl.1 rfl (lv_room (Nat.le_of_ble_eq_true rfl)) kz_d402 ⟨by show cells + 0 ≤ 601024; omega, by show slots + 0 ≤ 7293034; omega⟩) hS (fun q _ h => hA1 q h) hA1 (fun r u t H1 locs1 ht hvm hrv hBt hz1 hk1 hS1 => ?_)
    subst hrv
    rw [ht] at hBt
    refine W.widen (k := cells + 1) (n := slots + 6) (by omega) (by omega) ?_
    exact kz_kite2 hSc hThr F (back _ H1 hBt.1 hBt.2 hk1) hS1 hl hi r3 r4 (fun _ => rfl) r5 ⟨by omega, by omega⟩ (fun zM2 zlM2 H2 locs2 ls2 y1 y2 y3 y4 => kk zM2 zlM2 _ H2 locs2 ls2 y1 y2 y3 y4)
  · have hM := kz_law_t (A := kz_A adK 172 H.size) (sz := H.size) (oa := oa) (oc := oc) (out := out) l (fun q h => Or.inr h) (kz_kite_t (A := kz_A adK 172 H.size) (sz := H.size) (D := D) (k := k) l hlt (fun q h => Or.inr h) had r1 hw)
    refine va_calli (A0 := fun q : Nat => s.heap.size ≤ q) (vx_runSW (As := [.ref (adK 0), .int (xs (i + 1)), .int (xs (i + 2)), .ref oa]) (rest := []) ⟨hx, hb, hml, hown, hgw⟩ hM (vx_cwSW 4 hgw kz_lgood rfl rfl rfl kz_ldesc ⟨by decide, by decide⟩) hpre rfl rfl hl.1 rfl (lv_room (Nat.le_of_ble_eq_true rfl)) kz_d402 ⟨by show cells + 1 ≤ 601024; omega, by show slots + 6 ≤ 7293034; omega⟩) hS (fun q _ h => hA1 q h) hA1 (fun r u t H1 locs1 ht hvm hrv hBt hz1 hk1 hS1 => ?_)
    subst hrv
    rw [ht] at hBt
    exact kz_kite2 hSc hThr F (back _ H1 hBt.1 hBt.2 hk1) hS1 hl hi r3 r4 (fun h9 => absurd h9 (by decide)) r5 ⟨by omega, by omega⟩ (fun zM2 zlM2 H2 locs2 ls2 y1 y2 y3 y4 => kk zM2 zlM2 _ H2 locs2 ls2 y1 y2 y3 y4)
end
