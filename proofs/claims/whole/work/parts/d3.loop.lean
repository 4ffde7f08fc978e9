/-! the law's loop -/
theorem kz_and63 (x : Int32) : ∃ v : Nat, v < 64 ∧ (x &&& 63).toInt = (v : Int) := by
  have h1 : (x &&& 63).toBitVec.toNat < 64 := by
    rw [Int32.toBitVec_and, BitVec.toNat_and]
    exact Nat.lt_of_le_of_lt Nat.and_le_right (by decide)
  refine ⟨(x &&& 63).toBitVec.toNat, h1, ?_⟩
  show (x &&& 63).toBitVec.toInt = _
  rw [BitVec.toInt_eq_toNat_cond, if_pos (by omega)]
theorem kz_off {L i : Nat} (hL : L ≤ 3072) (hi : i ≤ 3072) : (Int32.ofNat L - 6 < Int32.ofNat i) ↔ L < i + 6 := by
  rw [Int32.lt_iff_toInt_lt, Int32.toInt_sub, Int32.toInt_ofNat_of_lt (by omega), Int32.toInt_ofNat_of_lt (by omega), show (6 : Int32).toInt = 6 from by decide, Int.bmod_eq_of_le (by omega) (by omega)]
  omega
def kz_isN (o : Option (Option kz_Row)) : Bool := match o with
  | some none => true
  | _ => false
theorem kz_none0 : ∀ v, v < 46 → kz_isN (kz_Tb[v]?) = true → v = 4 ∨ v = 19 := by decide +kernel
theorem kz_none (v : Nat) (hv : v < 46) (h : kz_Tb[v]? = some none) : v = 4 ∨ v = 19 := kz_none0 v hv (by rw [h]; rfl)
theorem kz_lenT : kz_Tb.length = 46 := by decide +kernel
theorem kz_o4 : kz_offs[4]? = some 348 := by decide +kernel
theorem kz_o19 : kz_offs[19]? = some 850 := by decide +kernel
section
variable {p : Program} {l : Launch} {e : Env} {s : State} {m : MethodId} {below : List Frame} {meth : Method} {c : Code}
variable {b L oa : Nat} {xs : Nat → Int32} {D : va_G} {adK adM : Nat → Nat} {k : kv_K} {oc : ClassId}
set_option maxHeartbeats 4000000 in
set_option maxRecDepth 100000 in
theorem kz_loop {S : (Nat → Nat → Int32) → (Nat → Nat → Int32) → Prop} (hSc : kz_cutS S) (hlt : l.stackTraces = false) (hTs : kz_T (fun q : Nat => s.heap.size ≤ q) s s.heap) (hThr : ∀ z zl, kv_Rn 132 152 0 (kv_en 152 [.ref 0]) [] (kv_shM, z, zl) = some (some (.int (z 0 0)), (kv_shM, z, zl))) (F : kz_L p s m meth c b L xs adK adM oa D k oc)
    (hstep : ∀ (v : Nat) (t : kz_Row), kz_Tb[v]? = some (some t) → ∀ (i : Nat) (zK zM : Nat → Nat → Int32) (zlK zlM : Nat → Nat → Int64), S zK zM → kz_A2 S t.2.2.2.2.2.1 t.2.2.2.2.2.2 (kz_as xs i t.1) zK zM zlK zlM)
    (hgust : ∀ (x : Int32) (V : Int64) (zK zM : Nat → Nat → Int32) (zlK zlM : Nat → Nat → Int64), S zK zM → kz_A2 S 102 232 [.int x, .long V] zK zM zlK zlM)
    (hkite : ∀ (x w : Int32) (zK zM : Nat → Nat → Int32) (zlK zlM : Nat → Nat → Int64), S zK zM → kz_KH S zK zM zlK zlM x w) :
    ∀ (n i : Nat) (zK zM : Nat → Nat → Int32) (zlK zlM : Nat → Nat → Int64) (out : Nat → Int64) (H : Heap) (locs : List Loc) (ls : Array Slot), L ≤ i + n → i ≤ 3072 → S zK zM → kz_H adK adM oa D k oc zK zM zlK zlM out H → va_S (fun q : Nat => s.heap.size ≤ q) s.heap H locs → lv_has ls 7 [(0, .ref b), (1, .ref (adK 0)), (2, .ref (adM 0)), (3, .ref oa), (4, .int (Int32.ofNat i))] →
      W p l e room_1 s m #[Value.ref b] below meth c H locs (1000 + i) (40000 + 4 * i) (lw_Z below #[Value.ref b] s) (F0 m 23 ls []) := by
  have F' := F
  obtain ⟨⟨hx, hb, hml, hown, hr, hlk⟩, hts, ⟨hX, hbl, hL⟩, hB, hg, hdd, hKo⟩ := F'
  have hbA : ¬ (fun q : Nat => s.heap.size ≤ q) b := Nat.not_le.mpr hbl
  intro n
  induction n with
  | zero =>
    intro i zK zM zlK zlM out H locs ls hn hi hSS hH hS hl
    refine lv_iload hx hb kz_jL_23 (lv_at hl 4 rfl) ?_
    refine lv_aload_n hx hb kz_jL_25 rfl (lv_at hl 0 rfl) ?_
    refine va_slen hx hb hX hbl hbA hS kz_jL_26 ?_
    refine lv_bipush (v := 6) hx hb kz_jL_27 (by decide) ?_
    refine lv_isub hx hb kz_jL_29 ?_
    refine lv_icmp_gt (tgt := 1675) hx hb kz_jL_30 (by decide) (fun h9 => ?_) (fun h9 => absurd ((kz_off hL hi).mpr (by omega)) h9)
    refine lv_iconst (v := 1) hx hb kz_jL_1675 (by decide) ?_
    refine va_forget (fun q hq => hS.2.2 q hq) ?_
    refine W.widen (k := 601024) (n := 7293034) (by omega) (by omega) ?_
    exact lw_ret hx hb hr hlk kz_jL_1676
  | succ n ih =>
    intro i zK zM zlK zlM out H locs ls hn hi hSS hH hS hl
    refine lv_iload hx hb kz_jL_23 (lv_at hl 4 rfl) ?_
    refine lv_aload_n hx hb kz_jL_25 rfl (lv_at hl 0 rfl) ?_
    refine va_slen hx hb hX hbl hbA hS kz_jL_26 ?_
    refine lv_bipush (v := 6) hx hb kz_jL_27 (by decide) ?_
    refine lv_isub hx hb kz_jL_29 ?_
    refine lv_icmp_gt (tgt := 1675) hx hb kz_jL_30 (by decide) (fun h9 => ?_) (fun h9 => ?_)
    · refine lv_iconst (v := 1) hx hb kz_jL_1675 (by decide) ?_
      refine va_forget (fun q hq => hS.2.2 q hq) ?_
      refine W.widen (k := 601024) (n := 7293034) (by omega) (by omega) ?_
      exact lw_ret hx hb hr hlk kz_jL_1676
    · have h6 : i + 6 ≤ L := by
        rcases Nat.lt_or_ge L (i + 6) with q | q
        · exact absurd ((kz_off hL hi).mpr q) h9
        · exact q
      have tail : ∀ (zK' zM' : Nat → Nat → Int32) (zlK' zlM' : Nat → Nat → Int64) (out' : Nat → Int64) (H1 : Heap) (locs1 : List Loc) (ls1 : Array Slot) (cs ss : Nat), cs ≤ 1000 + (i + 6) → ss ≤ 40000 + 4 * (i + 6) → S zK' zM' → kz_H adK adM oa D k oc zK' zM' zlK' zlM' out' H1 → va_S (fun q : Nat => s.heap.size ≤ q) s.heap H1 locs1 → lv_has ls1 7 [(0, .ref b), (1, .ref (adK 0)), (2, .ref (adM 0)), (3, .ref oa), (4, .int (Int32.ofNat i))] → W p l e room_1 s m #[Value.ref b] below meth c H1 locs1 cs ss (lw_Z below #[Value.ref b] s) (F0 m 1669 ls1 []) := by
        intro zK' zM' zlK' zlM' out' H1 locs1 ls1 cs ss hcs hss g1 g2 g3 g4
        refine lv_iinc (v := Int32.ofNat (i + 6)) (lv' := [(4, .int (Int32.ofNat (i + 6))), (0, .ref b), (1, .ref (adK 0)), (2, .ref (adM 0)), (3, .ref oa)]) hx hb kz_jL_1669 g4 (k := 4) rfl (by rw [Int32.ofNat_add]; rfl) (by decide) rfl (fun ls2 hl2 => ?_)
        refine lv_goto (tgt := 23) hx hb kz_jL_1672 (by decide) ?_
        refine W.widen hcs hss ?_
        exact ih (i + 6) zK' zM' zlK' zlM' out' H1 locs1 ls2 (by omega) (by omega) g1 g2 g3 (lv_sub hl2 [1, 2, 3, 4, 0] rfl)
      refine lv_aload_n hx hb kz_jL_33 rfl (lv_at hl 0 rfl) ?_
      refine lv_iload hx hb kz_jL_34 (lv_at hl 4 rfl) ?_
      refine va_sld hx hb hX hbl hbA hS (kz_inN (by omega) (by omega)) kz_jL_36 ?_
      refine lv_bipush (v := 63) hx hb kz_jL_37 (by decide) ?_
      refine lv_iand hx hb kz_jL_39 ?_
      generalize xs (Int32.ofNat i).toNatClampNeg = y
      obtain ⟨v, hv, ev⟩ := kz_and63 y
      rcases Nat.lt_or_ge v 46 with hv46 | hv46
      · have tin : ∀ {off : Int} {tgt : Nat}, kz_offs[v]? = some off → ((40 : Nat) : Int) + off = (tgt : Int) → W p l e room_1 s m #[Value.ref b] below meth c H locs (1000 + i) (40000 + 4 * i) (lw_Z below #[Value.ref b] s) (F0 m tgt ls []) → W p l e room_1 s m #[Value.ref b] below meth c H locs (1000 + i) (40000 + 4 * i) (lw_Z below #[Value.ref b] s) (F0 m 40 ls [.int (y &&& 63)]) := by
          intro off tgt ho ht kk
          refine lv_tableIn (tgt := tgt) hx hb kz_jL_40 (by rw [ev]; omega) (by rw [ev]; omega) ?_ ht kk
          rw [ev]
          have e9 : ((v : Int) - 0).toNat = v := by omega
          rw [e9]
          exact ho
        cases hT9 : kz_Tb[v]? with
        | none =>
          have := List.getElem?_eq_none_iff.mp hT9
          rw [kz_lenT] at this
          omega
        | some o =>
          cases o with
          | none =>
            rcases kz_none v hv46 hT9 with rfl | rfl
            · refine tin kz_o4 (tgt := 388) (by decide) ?_
              exact kz_kite hSc hlt hTs hThr F hH hS hl (by omega) (hkite _ _ zK zM zlK zlM hSS) ⟨by omega, by omega⟩ (fun zM' zlM' out' H1 locs1 ls1 g1 g2 g3 g4 => tail _ _ _ _ out' H1 locs1 ls1 _ _ (by omega) (by omega) g1 g2 g3 g4)
            · refine tin kz_o19 (tgt := 890) (by decide) ?_
              exact kz_gust hSc F hH hS hl (by omega) (fun x V => hgust x V zK zM zlK zlM hSS) ⟨by omega, by omega⟩ (fun zK' zM' zlK' zlM' H1 locs1 g1 g2 g3 => tail _ _ _ _ out H1 locs1 ls _ _ (by omega) (by omega) g1 g2 g3 hl)
          | some t =>
            obtain ⟨t1, t2, t3, t4, t5, t6, t7, t8, t9⟩ := kz_okT hT9
            refine tin t1 (tgt := t.2.1) (by omega) ?_
            exact kz_case hSc F t2 (kz_lk t3) (kz_lk t4) t5 t6 t7 t8 hH hS hl (by omega) (hstep v t hT9 i zK zM zlK zlM hSS) ⟨by omega, by omega⟩ (fun zK' zM' zlK' zlM' H1 locs1 g1 g2 g3 => tail _ _ _ _ out H1 locs1 ls _ _ (by omega) (by omega) g1 g2 g3 hl)
      · refine lv_tableOut (tgt := 1669) hx hb kz_jL_40 (Or.inr (by rw [ev]; omega)) (by decide) ?_
        exact tail zK zM zlK zlM out H locs ls _ _ (by omega) (by omega) hSS hH hS hl
end
