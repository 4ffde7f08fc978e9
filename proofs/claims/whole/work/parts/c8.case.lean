/-! one round of the law's loop, the calls of ints alone -/
theorem kz_jL_23 : decode code 23 = .ok (.iload 4, 2) := by decide +kernel
theorem kz_jL_25 : decode code 25 = .ok (.aload_n 0, 1) := by decide +kernel
theorem kz_jL_26 : decode code 26 = .ok (.arraylength, 1) := by decide +kernel
theorem kz_jL_27 : decode code 27 = .ok (.bipush 6, 2) := by decide +kernel
theorem kz_jL_29 : decode code 29 = .ok (.isub, 1) := by decide +kernel
theorem kz_jL_30 : decode code 30 = .ok (.if_icmp .gt 1645, 3) := by decide +kernel
theorem kz_jL_33 : decode code 33 = .ok (.aload_n 0, 1) := by decide +kernel
theorem kz_jL_34 : decode code 34 = .ok (.iload 4, 2) := by decide +kernel
theorem kz_jL_36 : decode code 36 = .ok (.iaload, 1) := by decide +kernel
theorem kz_jL_37 : decode code 37 = .ok (.bipush 63, 2) := by decide +kernel
theorem kz_jL_39 : decode code 39 = .ok (.iand, 1) := by decide +kernel
def kz_offs : Array Int := #[200, 273, 298, 323, 348, 416, 441, 478, 515, 540, 577, 602, 615, 652, 677, 714, 763, 800, 825, 850, 919, 932, 957, 970, 1019, 1044, 1069, 1082, 1119, 1156, 1193, 1218, 1243, 1256, 1281, 1306, 1367, 1416, 1453, 1502, 1527, 1552, 1565, 1578, 1591, 1604]
theorem kz_jL_40 : decode code 40 = .ok (.tableswitch 1629 0 45 kz_offs, 200) := by decide +kernel
theorem kz_jL_1669 : decode code 1669 = .ok (.iinc 4 6, 3) := by decide +kernel
theorem kz_jL_1672 : decode code 1672 = .ok (.goto (-1649), 3) := by decide +kernel
theorem kz_jL_1675 : decode code 1675 = .ok (.iconst 1, 1) := by decide +kernel
theorem kz_jL_1676 : decode code 1676 = .ok (.ireturn, 1) := by decide +kernel
abbrev kz_ar (pc t : Nat) : Prop := decode code pc = .ok (.aload_n 0, 1) ∧ decode code (pc + 1) = .ok (.iload 4, 2) ∧ decode code (pc + 3) = .ok (.iconst (t : Int), 1) ∧ decode code (pc + 4) = .ok (.iadd, 1) ∧ decode code (pc + 5) = .ok (.iaload, 1)
abbrev kz_ch (n P iK iM : Nat) (off : Int) : Prop := decode code P = .ok (.aload_n 1, 1) ∧ (∀ t, t < n → kz_ar (P + 1 + 6 * t) (t + 1)) ∧ decode code (P + 1 + 6 * n) = .ok (.invokevirtual iK, 3) ∧ decode code (P + 1 + 6 * n + 3) = .ok (.aload_n 2, 1) ∧ (∀ t, t < n → kz_ar (P + 1 + 6 * n + 4 + 6 * t) (t + 1)) ∧
  decode code (P + 1 + 6 * n + 4 + 6 * n) = .ok (.invokevirtual iM, 3) ∧ decode code (P + 1 + 6 * n + 4 + 6 * n + 3) = .ok (.if_icmp .eq off, 3) ∧ ((P + 1 + 6 * n + 4 + 6 * n + 3 : Nat) : Int) + off = 1669
def kz_as (xs : Nat → Int32) (i n : Nat) : List Value := (List.range n).map (fun t => .int (xs (i + (t + 1))))
theorem kz_as_s (xs : Nat → Int32) (i n : Nat) : kz_as xs i (n + 1) = kz_as xs i n ++ [.int (xs (i + (n + 1)))] := by
  unfold kz_as
  rw [List.range_succ, List.map_append]
  rfl
theorem kz_as_vr (xs : Nat → Int32) (i n : Nat) (f : Nat → Nat) : (kz_as xs i n).map (kv_vr f) = kz_as xs i n := by
  unfold kz_as
  rw [List.map_map]
  rfl
theorem kz_as_len (xs : Nat → Int32) (i n : Nat) : (kz_as xs i n).length = n := by unfold kz_as; rw [List.length_map, List.length_range]
theorem kz_lvi {l : List Value} (h : ∀ v ∈ l, v.category = 1) : (kv_lv l).length = l.length := by
  induction l with
  | nil => rfl
  | cons v vs ih =>
    unfold kv_lv
    rw [if_neg (by rw [h v List.mem_cons_self]; decide), List.length_cons, List.length_cons, ih (fun w hw => h w (List.mem_cons_of_mem _ hw))]
theorem kz_as_lv (xs : Nat → Int32) (i n : Nat) : (kv_lv (.ref 0 :: kz_as xs i n)).length = n + 1 := by
  rw [kz_lvi (fun v hv => ?_), List.length_cons, kz_as_len]
  rcases List.mem_cons.mp hv with rfl | hv
  · rfl
  · unfold kz_as at hv
    obtain ⟨t, -, rfl⟩ := List.mem_map.mp hv
    rfl
section
variable {p : Program} {l : Launch} {e : Env} {s : State} {m : MethodId} {below : List Frame} {meth : Method} {c : Code} {H : Heap} {locs : List Loc} {cells slots : Nat} {Q : State → Prop}
variable {pc b L oa i : Nat} {xs : Nat → Int32} {ls : Array Slot} {rest : List Value} {D : va_G} {adK adM : Nat → Nat} {k : kv_K} {oc : ClassId}
theorem kz_iadd {a t : Nat} (h : a + t < 2147483648) : (Int32.ofNat a + Int32.ofNat t).toNatClampNeg = a + t := by
  rw [← Int32.ofNat_add]
  exact Int32.toNatClampNeg_ofNat_of_lt (by omega)
theorem kz_inN {a n : Nat} (h : a < n) (h2 : n < 2147483648) : vp_in (Int32.ofNat a) n := vp_in_nI h h2
theorem kz_arg {t : Nat} (F : kz_L p s m meth c b L xs adK adM oa D k oc) (hS : va_S (fun q : Nat => s.heap.size ≤ q) s.heap H locs) (hd : kz_ar pc t) (hl : lv_has ls 7 [(0, .ref b), (1, .ref (adK 0)), (2, .ref (adM 0)), (3, .ref oa), (4, .int (Int32.ofNat i))]) (hi : i + t < L)
    (kk : W p l e room_1 s m #[Value.ref b] below meth c H locs cells slots Q (F0 m (pc + 6) ls (.int (xs (i + t)) :: rest))) : W p l e room_1 s m #[Value.ref b] below meth c H locs cells slots Q (F0 m pc ls rest) := by
  obtain ⟨⟨hx, hb, hml, hown, hr, hlk⟩, hts, ⟨hX, hbl, hL⟩, hB, hg, hdd, hKo⟩ := F
  obtain ⟨d1, d2, d3, d4, d5⟩ := hd
  have hbA : ¬ (fun q : Nat => s.heap.size ≤ q) b := Nat.not_le.mpr hbl
  refine lv_aload_n hx hb d1 rfl (lv_at hl 0 rfl) ?_
  refine lv_iload hx hb d2 (lv_at hl 4 rfl) ?_
  refine lv_iconst (v := Int32.ofNat t) hx hb d3 rfl ?_
  refine lv_iadd hx hb d4 ?_
  have e1 := kz_iadd (a := i) (t := t) (by omega)
  refine va_sld hx hb hX hbl hbA hS ?_ d5 ?_
  · rw [← Int32.ofNat_add]
    exact kz_inN hi (by omega)
  · rw [e1]
    exact kk
theorem kz_args (F : kz_L p s m meth c b L xs adK adM oa D k oc) (hS : va_S (fun q : Nat => s.heap.size ≤ q) s.heap H locs) (hl : lv_has ls 7 [(0, .ref b), (1, .ref (adK 0)), (2, .ref (adM 0)), (3, .ref oa), (4, .int (Int32.ofNat i))]) :
    ∀ n : Nat, (∀ t, t < n → kz_ar (pc + 6 * t) (t + 1)) → i + n < L → W p l e room_1 s m #[Value.ref b] below meth c H locs cells slots Q (F0 m (pc + 6 * n) ls ((kz_as xs i n).reverse ++ rest)) → W p l e room_1 s m #[Value.ref b] below meth c H locs cells slots Q (F0 m pc ls rest) := by
  intro n
  induction n with
  | zero => intro _ _ kk; exact kk
  | succ n ih =>
    intro hd hi kk
    refine ih (fun t ht => hd t (by omega)) (by omega) ?_
    refine kz_arg (t := n + 1) F hS (hd n (by omega)) hl (by omega) ?_
    rw [kz_as_s, List.reverse_append] at kk
    exact kk
/-- the class's call and the model's, answers alike -/
def kz_A2 (S : (Nat → Nat → Int32) → (Nat → Nat → Int32) → Prop) (jK jM : Nat) (as : List Value) (zK zM : Nat → Nat → Int32) (zlK zlM : Nat → Nat → Int64) : Prop :=
  ∃ (r : Int32) (e' : List kv_E) (zK' : Nat → Nat → Int32) (zl' : Nat → Nat → Int64) (zM' : Nat → Nat → Int32) (zlM' : Nat → Nat → Int64), (kv_Rn 132 jK 0 (kv_en jK (.ref 0 :: as)) [] (kv_shK, zK, zlK) = some (some (.int r), (kv_shK ++ e', zK', zl')) ∧ kv_Rn 132 jM 0 (kv_en jM (.ref 0 :: as)) [] (kv_shM, zM, zlM) = some (some (.int r), (kv_shM, zM', zlM'))) ∧ S zK' zM' ∧ e'.length ≤ 1 ∧ kv_sl e' ≤ 1
def kz_cutS (S : (Nat → Nat → Int32) → (Nat → Nat → Int32) → Prop) : Prop := ∀ zK zM zK' zM', S zK zM → (∀ c, c < 172 → zK' c = zK c) → (∀ c, c < 26 → zM' c = zM c) → S zK' zM'
abbrev kz_qd (q : kv_M) (cl n : Nat) : Prop := q.1 = cl ∧ q.2.2.2.2.2.2.2 = false ∧ (¬ q.2.1 = "<init>") ∧ q.2.2.2.2.2.2.1 = n ∧ n + 1 ≤ q.2.2.2.2.1
theorem kz_case {S : (Nat → Nat → Int32) → (Nat → Nat → Int32) → Prop} {n P iK iM jK jM : Nat} {off : Int} {zK zM : Nat → Nat → Int32} {zlK zlM : Nat → Nat → Int64} {out : Nat → Int64} (hSc : kz_cutS S) (F : kz_L p s m meth c b L xs adK adM oa D k oc) (hch : kz_ch n P iK iM off)
    (hlK : Cond.methodLink R_law iK (kv_y (kv_Ms.getD jK kv_dM)) ∈ lw_tbl) (hlM : Cond.methodLink R_law iM (kv_y (kv_Ms.getD jM kv_dM)) ∈ lw_tbl) (hjK : jK < kv_Ms.length) (hjM : jM < kv_Ms.length) (hqK : kz_qd (kv_Ms.getD jK kv_dM) 11 n) (hqM : kz_qd (kv_Ms.getD jM kv_dM) 12 n)
    (hH : kz_H adK adM oa D k oc zK zM zlK zlM out H) (hS : va_S (fun q : Nat => s.heap.size ≤ q) s.heap H locs) (hl : lv_has ls 7 [(0, .ref b), (1, .ref (adK 0)), (2, .ref (adM 0)), (3, .ref oa), (4, .int (Int32.ofNat i))]) (hi : i + n < L)
    (run : kz_A2 S jK jM (kz_as xs i n) zK zM zlK zlM) (hC : cells + 2 ≤ 601024 ∧ slots + 2 ≤ 7293034)
    (kk : ∀ (zK' zM' : Nat → Nat → Int32) (zlK' zlM' : Nat → Nat → Int64) (H1 : Heap) (locs1 : List Loc), S zK' zM' → kz_H adK adM oa D k oc zK' zM' zlK' zlM' out H1 → va_S (fun q : Nat => s.heap.size ≤ q) s.heap H1 locs1 → W p l e room_1 s m #[Value.ref b] below meth c H1 locs1 (cells + 2) (slots + 2) Q (F0 m 1669 ls [])) :
    W p l e room_1 s m #[Value.ref b] below meth c H locs cells slots Q (F0 m P ls []) := by
  have F' := F
  obtain ⟨⟨hx, hb, hml, hown, hr, hlk⟩, hts, ⟨hX, hbl, hL⟩, hB, hg, hdd, hKo⟩ := F'
  obtain ⟨c1, c2, c3, c4, c5, c6, c7, c8⟩ := hch
  obtain ⟨r, e', zK', zl', zM', zlM', ⟨r1, r2⟩, hR, he1, he2⟩ := run
  have gK : kv_Ms[jK]? = some (kv_Ms.getD jK kv_dM) := by rw [List.getD_eq_getElem?_getD, List.getElem?_eq_getElem hjK]; rfl
  have gM : kv_Ms[jM]? = some (kv_Ms.getD jM kv_dM) := by rw [List.getD_eq_getElem?_getD, List.getElem?_eq_getElem hjM]; rfl
  obtain ⟨k1, k2, k3, k4, k5⟩ := hqK
  obtain ⟨n1, n2, n3, n4, n5⟩ := hqM
  refine lv_aload_n hx hb c1 rfl (lv_at hl 1 rfl) ?_
  refine kz_args F hS hl n c2 hi ?_
  refine kz_callK F hlK gK ⟨k2, k3, by rw [kz_as_len]; exact k4, by rw [kz_as_lv]; exact k5⟩ k1 (fun f => kz_as_vr xs i n f) hH hS r1 ⟨he1, he2⟩ hl.1 (by decide) c3 ⟨by omega, by omega⟩ (fun H1 locs1 w1 w2 => ?_)
  refine lv_aload_n hx hb c4 rfl (lv_at hl 2 rfl) ?_
  refine kz_args F w2 hl n c5 hi ?_
  refine kz_callM F hlM gM ⟨n2, n3, by rw [kz_as_len]; exact n4, by rw [kz_as_lv]; exact n5⟩ n1 (fun f => kz_as_vr xs i n f) w1 w2 r2 hl.1 (Nat.le_of_ble_eq_true rfl) c6 ⟨by omega, by omega⟩ (fun H2 locs2 w3 w4 => ?_)
  refine lv_icmp_eq (tgt := 1669) hx hb c7 c8 (fun h9 => ?_) (fun h9 => absurd rfl h9)
  exact kk _ _ _ _ H2 locs2 (hSc _ _ _ _ hR (fun c hc => if_pos hc) (fun c hc => if_pos hc)) w3 w4
end
