/-! acts -/
section
variable {d n B W : Nat} {e : List kv_E} {zK zM zK' zM' : Nat → Nat → Int32} {zl zlM : Nat → Nat → Int64}
theorem kw_RT_fr (h : kw_RT zK zM) (k1 : zK' 1 = zK 1) (k2 : zK' 2 = zK 2) (m0 : zM' 0 2 = zM 0 2) (m1 : zM' 1 = zM 1) : kw_RT zK' zM' := by
  unfold kw_RT
  rw [k1, k2, m0, m1]
  exact h
theorem kw_RA_fr (h : kw_RA zK zM) (k : ∀ c, 3 ≤ c → c ≤ 6 → zK' c = zK c) (m0 : zM' 0 25 = zM 0 25) (m15 : zM' 15 = zM 15) : kw_RA zK' zM' := by
  unfold kw_RA
  rw [k 3 (by omega) (by omega), k 4 (by omega) (by omega), k 5 (by omega) (by omega), k 6 (by omega) (by omega), m0, m15]
  exact h
theorem kw_RF_fr (h : kw_RF n B W zK zM) (k3 : zK' 3 = zK 3) (m0 : zM' 0 24 = zM 0 24) (m14 : zM' 14 = zM 14) : kw_RF n B W zK' zM' := by
  unfold kw_RF
  rw [k3, m0, m14]
  exact h
theorem kw_RL_fr (h : kw_RL zK zM) (k : ∀ c, 7 ≤ c → c ≤ 29 → zK' c = zK c) (m0 : zM' 0 13 = zM 0 13 ∧ zM' 0 27 = zM 0 27 ∧ zM' 0 28 = zM 0 28) (ml : ∀ c, 2 ≤ c → c ≤ 8 → zM' c = zM c) : kw_RL zK' zM' := by
  obtain ⟨b0, l, l1, l2, l3, l4, l5⟩ := h
  refine ⟨by rw [k 29 (by omega) (by omega)]; exact b0, l, l1, by rw [k 7 (by omega) (by omega), m0.1]; exact l2, by rw [k 7 (by omega) (by omega), m0.2.1]; exact l3, by rw [k 7 (by omega) (by omega), m0.2.2]; exact l4, fun i hi => ?_⟩
  rw [k (9 + 2 * i + 1) (by omega) (by omega), k (9 + 2 * i) (by omega) (by omega)]
  exact kw_ML_fr (l5 i hi) (kw_AG_of ml)
theorem kw_RN_fr (h : kw_RN n B W zK zM) (k : ∀ c, 36 ≤ c → c ≤ 38 → zK' c = zK c) (m16 : zM' 16 = zM 16) : kw_RN n B W zK' zM' := by
  unfold kw_RN
  rw [kw_vk_fr (z' := zK') (z := zK) (a := 36) (fun c hc => k c (by omega) (by omega)), kw_vm_fr m16]
  exact h
theorem kw_RI_fr (h : kw_RI n B W zK zM) (k0 : zK' 0 9 = zK 0 9) (k : ∀ c, 42 ≤ c → c ≤ 44 → zK' c = zK c) (m0 : zM' 0 42 = zM 0 42) (m25 : zM' 25 = zM 25) : kw_RI n B W zK' zM' := by
  unfold kw_RI
  rw [k0, m0, kw_vk_fr (z' := zK') (z := zK) (a := 42) (fun c hc => k c (by omega) (by omega)), kw_vm_fr m25]
  exact h
theorem kw_at_lt (p q i : Nat) : 47 ≤ kw_at_ p q i ∧ kw_at_ p q i ≤ 164 := by
  unfold kw_at_
  have := Nat.mod_lt (p + 40 - q + i) (show 40 > 0 by omega)
  omega
theorem kw_RC_fr (h : kw_RC n B W zK zM) (k : ∀ c, 45 ≤ c → c ≤ 166 → zK' c = zK c) (m0 : zM' 0 33 = zM 0 33) (m19 : zM' 19 = zM 19) : kw_RC n B W zK' zM' := by
  obtain ⟨q, p, c1, c2, c3⟩ := h
  refine ⟨q, p, c1, by rw [k 45 (by omega) (by omega), m0]; exact c2, fun i hi => ?_⟩
  have := kw_at_lt p q i
  rw [kw_vk_fr (z' := zK') (z := zK) (a := kw_at_ p q i) (fun c hc => k c (by omega) (by omega)), kw_vm_fr m19]
  exact c3 i hi
theorem kw_RE_fr (h : kw_RE zK zM) (k : ∀ c, 167 ≤ c → c ≤ 170 → zK' c = zK c) (m0 : zM' 0 40 = zM 0 40) (m : ∀ c, 22 ≤ c → c ≤ 24 → zM' c = zM c) : kw_RE zK' zM' := by
  unfold kw_RE
  rw [k 167 (by omega) (by omega), k 168 (by omega) (by omega), k 169 (by omega) (by omega), k 170 (by omega) (by omega), m0, m 22 (by omega) (by omega), m 23 (by omega) (by omega), m 24 (by omega) (by omega)]
  exact h
theorem kw_RG_fr (h : kw_RG zK zM) (k0 : zK' 0 13 = zK 0 13) (m0 : zM' 0 29 = zM 0 29) : kw_RG zK' zM' := by
  unfold kw_RG
  rw [k0, m0]
  exact h
theorem kw_R_now (h : kw_R n B W zK zM) (k : ∀ c, c < 36 ∨ 38 < c → zK' c = zK c) (m : ∀ c, c ≠ 16 → zM' c = zM c) (hN : kw_RN n B W zK' zM') : kw_R n B W zK' zM' := by
  obtain ⟨⟨hT, hA, hF, hL⟩, ⟨-, hI, hC⟩, hE, hG⟩ := h
  have m0 := m 0 (by omega)
  exact ⟨⟨kw_RT_fr hT (k 1 (by omega)) (k 2 (by omega)) (by rw [m0]) (m 1 (by omega)), kw_RA_fr hA (fun c a b => k c (by omega)) (by rw [m0]) (m 15 (by omega)), kw_RF_fr hF (k 3 (by omega)) (by rw [m0]) (m 14 (by omega)), kw_RL_fr hL (fun c a b => k c (by omega)) (by rw [m0]; exact ⟨rfl, rfl, rfl⟩) (fun c a b => m c (by omega))⟩, ⟨hN, kw_RI_fr hI (by rw [k 0 (by omega)]) (fun c a b => k c (by omega)) (by rw [m0]) (m 25 (by omega)), kw_RC_fr hC (fun c a b => k c (by omega)) (by rw [m0]) (m 19 (by omega))⟩, kw_RE_fr hE (fun c a b => k c (by omega)) (by rw [m0]) (fun c a b => m c (by omega)), kw_RG_fr hG (by rw [k 0 (by omega)]) (by rw [m0])⟩
theorem kw_isSn {s : Nat} (h : s < 40) : kv_isS e (47 + 3 * s) := by
  match s, h with
  | 0, _ => exact kv_isS47 e
  | 1, _ => exact kv_isS50 e
  | 2, _ => exact kv_isS53 e
  | 3, _ => exact kv_isS56 e
  | 4, _ => exact kv_isS59 e
  | 5, _ => exact kv_isS62 e
  | 6, _ => exact kv_isS65 e
  | 7, _ => exact kv_isS68 e
  | 8, _ => exact kv_isS71 e
  | 9, _ => exact kv_isS74 e
  | 10, _ => exact kv_isS77 e
  | 11, _ => exact kv_isS80 e
  | 12, _ => exact kv_isS83 e
  | 13, _ => exact kv_isS86 e
  | 14, _ => exact kv_isS89 e
  | 15, _ => exact kv_isS92 e
  | 16, _ => exact kv_isS95 e
  | 17, _ => exact kv_isS98 e
  | 18, _ => exact kv_isS101 e
  | 19, _ => exact kv_isS104 e
  | 20, _ => exact kv_isS107 e
  | 21, _ => exact kv_isS110 e
  | 22, _ => exact kv_isS113 e
  | 23, _ => exact kv_isS116 e
  | 24, _ => exact kv_isS119 e
  | 25, _ => exact kv_isS122 e
  | 26, _ => exact kv_isS125 e
  | 27, _ => exact kv_isS128 e
  | 28, _ => exact kv_isS131 e
  | 29, _ => exact kv_isS134 e
  | 30, _ => exact kv_isS137 e
  | 31, _ => exact kv_isS140 e
  | 32, _ => exact kv_isS143 e
  | 33, _ => exact kv_isS146 e
  | 34, _ => exact kv_isS149 e
  | 35, _ => exact kv_isS152 e
  | 36, _ => exact kv_isS155 e
  | 37, _ => exact kv_isS158 e
  | 38, _ => exact kv_isS161 e
  | 39, _ => exact kv_isS164 e
  | s + 40, h => exact absurd h (by omega)
theorem kw_mod40 {p : Nat} (h : p < 41) : Int32.ofNat p - Int32.ofNat p / 40 * 40 = Int32.ofNat (p % 40) := by
  have : ∀ p, p < 41 → Int32.ofNat p - Int32.ofNat p / 40 * 40 = Int32.ofNat (p % 40) := by decide +kernel
  exact this p h
theorem kw_min40 {q : Nat} (h : q ≤ 40) : kv_mn 40 (Int32.ofNat (q + 1)) = Int32.ofNat (min 40 (q + 1)) := by
  have : ∀ q, q < 41 → kv_mn 40 (Int32.ofNat (q + 1)) = Int32.ofNat (min 40 (q + 1)) := by decide +kernel
  exact this q (by omega)
def kw_kK (z : Nat → Nat → Int32) (p q : Nat) : Nat → Nat → Int32 := kv_f3 (kv_f3 (kv_sc z (47 + 3 * p) 36) 45 1 (Int32.ofNat ((p + 1) % 40))) 45 2 (Int32.ofNat (min 40 (q + 1)))
theorem kw_sc45 (z : Nat → Nat → Int32) (p : Nat) : kv_sc z (47 + 3 * p) 36 45 = z 45 := kw_sc_fr z (by omega) (by omega) (by omega)
theorem kw_keepK {p q : Nat} (hp : p < 40) (hq : q ≤ 40) (h1 : zK 45 1 = Int32.ofNat p) (h2 : zK 45 2 = Int32.ofNat q) : kv_Rn (d + 2) 1 0 [some (.ref 45), some (.ref 36)] [] (kv_h e zK zl) = some (none, kv_h e (kw_kK zK p q) zl) := by
  have hp2 : p < 2147483648 := by omega
  have h40 : (40 ≤ Int32.ofNat p) = False := kv_ln_ (m := 40) hp (by omega)
  have p40 : (Int32.ofNat p < 40) = True := by
    rw [show (40 : Int32) = Int32.ofNat 40 from rfl, kv_nlt hp2 (by omega)]
    exact eq_true hp
  have l45 : ∀ (z : Nat → Nat → Int32) (f : Nat → Int32), kv_z z 45 f 45 = f := fun z f => kv_zs _ _ _
  simp only [kv_e1_0, kv_e1_1, kv_e1_4, kv_e1_7, kv_e1_8, kv_e1_11, kv_e1_12, kv_e1_15, kv_e1_16, kv_e1_19, kv_e1_20, kv_e1_21, kv_e1_24, kv_e1_25, kv_e1_28, kv_e1_29, kv_e1_32, kv_e1_33, kv_e1_34, kv_e1_37, kv_e1_38, kv_e1_39, kv_e1_42, kv_e1_43, kv_e1_44, kv_e1_46, kv_e1_47, kv_e1_50, kv_e1_51, kv_e1_53, kv_e1_54, kv_e1_57, kv_e1_58, kv_e1_59, kv_e1_62, kv_e1_65, kv_o10, not_false_eq_true, not_true, if_true, if_false, kv_then_s, kv_then_v, kv_then_n, List.cons_append, List.nil_append, kv_Ci, kv_Cr, kv_Cn, kv_Cu, kv_C0, kv_catc, kv_gCi, kv_gCl, kv_gCr, kv_nb0, kv_nb1, kv_nbi, kv_nb01, Nat.reduceAdd, Nat.reduceLeDiff, h1, h2, kw_n0 hp2, h40, p40, kv_tn hp2, kv_lN hp, or_self, kv_isS36, kw_isSn hp, kv_copyS, kw_sc45, kv_suc, kw_mod40 (show p + 1 < 41 by omega), show ((40 : Int32) = 0) = False from by decide, kw_min40 hq, l45]
  simp only [upd, show (2 : Nat) = 1 ↔ False from by decide, if_false, h2, kv_suc, kw_min40 hq, kv_e1_0, kv_e1_1, kv_e1_4, kv_e1_7, kv_e1_8, kv_e1_11, kv_e1_12, kv_e1_15, kv_e1_16, kv_e1_19, kv_e1_20, kv_e1_21, kv_e1_24, kv_e1_25, kv_e1_28, kv_e1_29, kv_e1_32, kv_e1_33, kv_e1_34, kv_e1_37, kv_e1_38, kv_e1_39, kv_e1_42, kv_e1_43, kv_e1_44, kv_e1_46, kv_e1_47, kv_e1_50, kv_e1_51, kv_e1_53, kv_e1_54, kv_e1_57, kv_e1_58, kv_e1_59, kv_e1_62, kv_e1_65, kv_o10, not_false_eq_true, not_true, if_true, if_false, kv_then_s, kv_then_v, kv_then_n, List.cons_append, List.nil_append, kv_Ci, kv_Cr, kv_Cn, kv_Cu, kv_C0, kv_catc, kv_gCi, kv_gCl, kv_gCr, kv_nb0, kv_nb1, kv_nbi, kv_nb01, Nat.reduceAdd, Nat.reduceLeDiff, l45]
  unfold kw_kK kv_f3
  rw [kv_zs, kw_sc45]
theorem kw_kK_fr (z : Nat → Nat → Int32) {p q c : Nat} (h0 : c ≠ 45) (h1 : c ≠ 47 + 3 * p) (h2 : c ≠ 47 + 3 * p + 1) (h3 : c ≠ 47 + 3 * p + 2) : kw_kK z p q c = z c := by
  unfold kw_kK kv_f3
  rw [kv_zne _ _ h0, kv_zne _ _ h0, kw_sc_fr z h1 h2 h3]
theorem kw_kK_vk (z : Nat → Nat → Int32) {p q : Nat} : kw_vk (kw_kK z p q) (47 + 3 * p) = kw_vk z 36 := by
  rw [← kw_sc_vk z (a := 47 + 3 * p) (b := 36) (by omega)]
  refine kw_vk_fr (fun c hc => ?_)
  unfold kw_kK kv_f3
  rw [kv_zne _ _ (by omega), kv_zne _ _ (by omega)]
theorem kw_vm_ov (z z' : Nat → Nat → Int32) (c c' o o' : Nat) (h : ∀ i, i < 147 → z' c' (o' + i) = z c (o + i)) : kw_vm z' c' o' = kw_vm z c o := by
  unfold kw_vm
  refine Prod.ext ?_ (Prod.ext ?_ (Prod.ext ?_ (Prod.ext ?_ ?_)))
  · funext k w
    dsimp only
    by_cases hk : k < 8 ∧ w < 13
    · have := kw_sg_lt hk.2
      rw [if_pos hk, if_pos hk, h _ (by omega)]
    · rw [if_neg hk, if_neg hk]
  · funext i
    dsimp only
    by_cases hi : i < 40
    · rw [if_pos hi, if_pos hi, Nat.add_assoc, Nat.add_assoc, h _ (by omega)]
    · rw [if_neg hi, if_neg hi]
  · exact h 106 (by omega)
  · exact h 104 (by omega)
  · exact h 105 (by omega)
theorem kw_keepR {dM : Nat} (h : kw_R n B W zK zM) : ∃ zK1 zM1, (kv_Rn (d + 2) 1 0 [some (.ref 45), some (.ref 36)] [] (kv_h e zK zl) = some (none, kv_h e zK1 zl) ∧ kv_Rn dM 220 0 [some (.ref 0), none] [] (kv_m zM zlM) = some (none, kv_m zM1 zlM)) ∧ kw_R n B W zK1 zM1 ∧ (∀ c, c < 45 ∨ 166 < c → zK1 c = zK c) ∧ (∀ c, c ≠ 0 → c ≠ 19 → zM1 c = zM c) ∧ ∀ j, j ≠ 33 → zM1 0 j = zM 0 j := by
  obtain ⟨⟨hT, hA, hF, hL⟩, ⟨hN, hI, q, p, ⟨q1, q2⟩, ⟨q3, q4, q5⟩, q6⟩, hE, hG⟩ := h
  have hk : ∀ c, c < 45 ∨ 166 < c → kw_kK zK p q c = zK c := fun c hc => kw_kK_fr zK (by omega) (by omega) (by omega) (by omega)
  -- what a row of the model is after the keeping gives the relation
  have fin : ∀ zM1 : Nat → Nat → Int32, (∀ c, c ≠ 0 → c ≠ 19 → zM1 c = zM c) → (∀ j, j ≠ 33 → zM1 0 j = zM 0 j) → zM1 0 33 = Int32.ofNat (min 40 (q + 1)) → (∀ i, i < min 40 (q + 1) → kw_vk (kw_kK zK p q) (kw_at_ ((p + 1) % 40) (min 40 (q + 1)) i) = kw_vm zM1 19 (147 * i) ∧ kw_SV n B W (kw_vk (kw_kK zK p q) (kw_at_ ((p + 1) % 40) (min 40 (q + 1)) i))) → kw_R n B W (kw_kK zK p q) zM1 := by
    intro zM1 m m0 m33 m19
    refine ⟨⟨kw_RT_fr hT (hk 1 (by omega)) (hk 2 (by omega)) (m0 2 (by omega)) (m 1 (by omega) (by omega)), kw_RA_fr hA (fun c a b => hk c (by omega)) (m0 25 (by omega)) (m 15 (by omega) (by omega)), kw_RF_fr hF (hk 3 (by omega)) (m0 24 (by omega)) (m 14 (by omega) (by omega)), kw_RL_fr hL (fun c a b => hk c (by omega)) ⟨m0 13 (by omega), m0 27 (by omega), m0 28 (by omega)⟩ (fun c a b => m c (by omega) (by omega))⟩, ⟨kw_RN_fr hN (fun c a b => hk c (by omega)) (m 16 (by omega) (by omega)), kw_RI_fr hI (by rw [hk 0 (by omega)]) (fun c a b => hk c (by omega)) (m0 42 (by omega)) (m 25 (by omega) (by omega)), min 40 (q + 1), (p + 1) % 40, ⟨by omega, Nat.mod_lt _ (by omega)⟩, ⟨rfl, m33, rfl⟩, m19⟩, kw_RE_fr hE (fun c a b => hk c (by omega)) (m0 40 (by omega)) (fun c a b => m c (by omega) (by omega)), kw_RG_fr hG (by rw [hk 0 (by omega)]) (m0 29 (by omega))⟩
  have oth : ∀ s, s < 40 → s ≠ p → kw_vk (kw_kK zK p q) (47 + 3 * s) = kw_vk zK (47 + 3 * s) := fun s hs hne => kw_vk_fr (fun c hc => kw_kK_fr zK (by omega) (by omega) (by omega) (by omega))
  by_cases hq : q < 40
  · refine ⟨kw_kK zK p q, _, ⟨kw_keepK q2 q1 q5 q3, kw_keep_lt hq q4⟩, ?_, hk, fun c h1 h2 => (kv_zne _ _ h1).trans (kv_zne _ _ h2), fun j hj => by rw [kv_zs]; unfold upd; rw [if_neg hj]⟩
    have e19 : kv_z (kv_z zM 19 (kw_ov (zM 19) (fun i => zM 16 (i - 147 * q)) (147 * q) 147)) 0 (upd (zM 0) 33 (Int32.ofNat (q + 1))) 19 = kw_ov (zM 19) (fun i => zM 16 (i - 147 * q)) (147 * q) 147 := by rw [kv_zne _ _ (by omega), kv_zs]
    refine fin _ (fun c h1 h2 => (kv_zne _ _ h1).trans (kv_zne _ _ h2)) (fun j hj => by rw [kv_zs]; unfold upd; rw [if_neg hj]) (by rw [kv_zs, show min 40 (q + 1) = q + 1 by omega]; rfl) (fun i hi => ?_)
    rw [show min 40 (q + 1) = q + 1 by omega] at hi ⊢
    by_cases hiq : i = q
    · subst hiq
      have ea : kw_at_ ((p + 1) % 40) (i + 1) i = 47 + 3 * p := by
        unfold kw_at_
        omega
      rw [ea, kw_kK_vk, hN.1]
      refine ⟨(kw_vm_ov _ _ 16 19 0 (147 * i) (fun j hj => ?_)).symm, by rw [← hN.1]; exact hN.2⟩
      rw [e19]
      unfold kw_ov
      rw [if_pos (by omega)]
      show zM 16 (147 * i + j - 147 * i) = zM 16 (0 + j)
      rw [Nat.add_sub_cancel_left, Nat.zero_add]
    · have ea : kw_at_ ((p + 1) % 40) (q + 1) i = kw_at_ p q i := by
        unfold kw_at_
        omega
      have eb : kw_at_ p q i = 47 + 3 * ((p + 40 - q + i) % 40) := rfl
      rw [ea, eb, oth _ (Nat.mod_lt _ (by omega)) (by omega), ← eb]
      refine ⟨(q6 i (by omega)).1.trans (kw_vm_ov _ _ 19 19 (147 * i) (147 * i) (fun j hj => ?_)).symm, (q6 i (by omega)).2⟩
      rw [e19]
      unfold kw_ov
      rw [if_neg (by omega)]
  · have hq4 : q = 40 := by omega
    subst hq4
    obtain ⟨z1, r1, r2, r3, r4⟩ := kw_keep_40 (d := dM) (zl := zlM) q4
    have r5 := kw_keep2 (d := dM) (zl := zlM) (z := z1) (na := 39) (by omega) (by rw [r2]; rfl)
    refine ⟨kw_kK zK p 40, _, ⟨kw_keepK q2 q1 q5 q3, r1.trans r5⟩, ?_, hk, fun c h1 h2 => (kv_zne _ _ h1).trans ((kv_zne _ _ h2).trans (r4 c h1 h2)), fun j hj => by rw [kv_zs, r2]; unfold upd; rw [if_neg hj, if_neg hj]⟩
    have e19 : kv_z (kv_z z1 19 (kw_ov (z1 19) (fun i => z1 16 (i - 147 * 39)) (147 * 39) 147)) 0 (upd (z1 0) 33 (Int32.ofNat (39 + 1))) 19 = kw_ov (z1 19) (fun i => zM 16 (i - 147 * 39)) (147 * 39) 147 := by rw [kv_zne _ _ (by omega), kv_zs, r4 16 (by omega) (by omega)]
    refine fin _ (fun c h1 h2 => (kv_zne _ _ h1).trans ((kv_zne _ _ h2).trans (r4 c h1 h2))) (fun j hj => by rw [kv_zs, r2]; unfold upd; rw [if_neg hj, if_neg hj]) (by rw [kv_zs]; rfl) (fun i hi => ?_)
    rw [show min 40 (40 + 1) = 40 by omega] at hi ⊢
    by_cases hiq : i = 39
    · subst hiq
      have ea : kw_at_ ((p + 1) % 40) 40 39 = 47 + 3 * p := by
        unfold kw_at_
        omega
      rw [ea, kw_kK_vk, hN.1]
      refine ⟨(kw_vm_ov _ _ 16 19 0 (147 * 39) (fun j hj => ?_)).symm, by rw [← hN.1]; exact hN.2⟩
      rw [e19]
      unfold kw_ov
      rw [if_pos (by omega)]
      show zM 16 (147 * 39 + j - 147 * 39) = zM 16 (0 + j)
      rw [Nat.add_sub_cancel_left, Nat.zero_add]
    · have ea : kw_at_ ((p + 1) % 40) 40 i = kw_at_ p 40 (i + 1) := by
        unfold kw_at_
        omega
      have eb : kw_at_ p 40 (i + 1) = 47 + 3 * ((p + 40 - 40 + (i + 1)) % 40) := rfl
      rw [ea, eb, oth _ (Nat.mod_lt _ (by omega)) (by omega), ← eb]
      refine ⟨(q6 (i + 1) (by omega)).1.trans (kw_vm_ov _ _ 19 19 (147 * (i + 1)) (147 * i) (fun j hj => ?_)).symm, (q6 (i + 1) (by omega)).2⟩
      rw [e19]
      unfold kw_ov
      rw [if_neg (by omega), r3]
      unfold kw_ov
      rw [if_pos (by omega)]
      show zM 19 (147 * i + j + 147) = zM 19 (147 * (i + 1) + j)
      congr 1
      omega
end
