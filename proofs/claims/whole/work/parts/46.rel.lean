/-! what holds between the class's cells and the model's -/
section
variable {d n B W : Nat} {e : List kv_E} {zK zM : Nat → Nat → Int32} {zl zlM : Nat → Nat → Int64}
def kw_vm (z : Nat → Nat → Int32) (c o : Nat) : kw_V := (fun k w => if k < 8 ∧ w < 13 then z c (o + (13 * k + kw_sg w)) else 0, fun i => if i < 40 then z c (o + 107 + i) else 0, z c (o + 106), z c (o + 104), z c (o + 105))
theorem kw_vm_km (z : Nat → Nat → Int32) : (kw_vm z 16 0).1 = km z := by
  unfold kw_vm km
  funext k w
  dsimp only
  rw [Nat.zero_add]
def kw_SV (n B W : Nat) (v : kw_V) : Prop := (kw_okc v.1 ∧ kw_01 n v.1) ∧ (∃ M, M ≤ B ∧ v.2.2.2.1 = Int32.ofNat M) ∧ (∃ b, b ≤ 40 ∧ v.2.2.1 = Int32.ofNat b) ∧ (∀ k, (v.1 k 12 = 0 ∨ v.1 k 12 = 1) ∧ (n ≤ k → v.1 k 12 = 0)) ∧ ∀ k, ¬ v.1 k 11 = 0 → ∃ p, p < W ∧ v.1 k 0 = Int32.ofNat p
def kw_RT (zK zM : Nat → Nat → Int32) : Prop := ∃ L, L ≤ 240 ∧ zK 1 1 = Int32.ofNat L ∧ zM 0 2 = Int32.ofNat L ∧ ∀ i, i < L → zK 2 i = zM 1 i ∧ kw_rg (zM 1 i) 1 255
def kw_RA (zK zM : Nat → Nat → Int32) : Prop := ∃ na, na ≤ 6 ∧ zK 3 5 = Int32.ofNat na ∧ zM 0 25 = Int32.ofNat na ∧ ∀ i, i < na → (zK 4 i = zM 15 (3 * i) ∧ zK 5 i = zM 15 (3 * i + 1) ∧ zK 6 i = zM 15 (3 * i + 2)) ∧ kw_rg (zK 6 i) 0 9
def kw_RF (n B W : Nat) (zK zM : Nat → Nat → Int32) : Prop := (zK 3 4 = Int32.ofNat n ∧ zM 0 24 = Int32.ofNat n ∧ n ≤ 8) ∧ (∀ j, j < 4 → zK 3 j = zM 14 j) ∧ (zK 3 1 = Int32.ofNat B ∧ B ≤ 60) ∧ (W ≤ 20 ∧ zK 3 0 = Int32.ofNat W) ∧ kw_rg (zK 3 3) 0 9 ∧ kw_rg (zK 3 2) 0 99
def kw_LX (l : Nat) (x : Int32) : Prop := x = -1 ∨ ∃ i, i < l ∧ x = Int32.ofNat i
def kw_RL (zK zM : Nat → Nat → Int32) : Prop := (∀ i, i < 40 → zK 29 i = 0) ∧ ∃ l, l ≤ 6 ∧ (zK 7 1 = Int32.ofNat l ∧ zM 0 13 = Int32.ofNat l) ∧ (zK 7 2 = zM 0 27 ∧ kw_LX l (zK 7 2)) ∧ (zK 7 3 = zM 0 28 ∧ kw_LX l (zK 7 3)) ∧ ∀ i, i < l → kw_ML zM (Int32.ofNat i) (fun lt => kw_we (zK (9 + 2 * i + 1)) (zK (9 + 2 * i) 1) lt 257 0 [])
def kw_RN (n B W : Nat) (zK zM : Nat → Nat → Int32) : Prop := kw_vk zK 36 = kw_vm zM 16 0 ∧ kw_SV n B W (kw_vk zK 36)
def kw_RI (n B W : Nat) (zK zM : Nat → Nat → Int32) : Prop := zK 0 9 = zM 0 42 ∧ (zK 0 9 = 0 ∨ (zK 0 9 = 1 ∧ kw_vk zK 42 = kw_vm zM 25 0 ∧ kw_SV n B W (kw_vk zK 42)))
def kw_at_ (p q i : Nat) : Nat := 47 + 3 * ((p + 40 - q + i) % 40)
def kw_RC (n B W : Nat) (zK zM : Nat → Nat → Int32) : Prop := ∃ q p, (q ≤ 40 ∧ p < 40) ∧ (zK 45 2 = Int32.ofNat q ∧ zM 0 33 = Int32.ofNat q ∧ zK 45 1 = Int32.ofNat p) ∧ ∀ i, i < q → kw_vk zK (kw_at_ p q i) = kw_vm zM 19 (147 * i) ∧ kw_SV n B W (kw_vk zK (kw_at_ p q i))
def kw_RE (zK zM : Nat → Nat → Int32) : Prop := ∃ s, s ≤ 8 ∧ (zK 167 3 = Int32.ofNat s ∧ zM 0 40 = Int32.ofNat s) ∧ ∀ i, i < s → (zK 168 i = zM 22 i ∧ zK 169 i = zM 23 i ∧ zK 170 i = zM 24 i) ∧ kw_rg (zK 169 i) 1 9
def kw_RG (zK zM : Nat → Nat → Int32) : Prop := zK 0 13 = zM 0 29
def kw_R (n B W : Nat) (zK zM : Nat → Nat → Int32) : Prop := (kw_RT zK zM ∧ kw_RA zK zM ∧ kw_RF n B W zK zM ∧ kw_RL zK zM) ∧ (kw_RN n B W zK zM ∧ kw_RI n B W zK zM ∧ kw_RC n B W zK zM) ∧ kw_RE zK zM ∧ kw_RG zK zM
theorem kw_wd_congr {f s t f' s' t' : Nat → Int32} {h m : Int32} : ∀ {n : Nat}, (∀ i, i < n → f i = f' i ∧ s i = s' i ∧ t i = t' i) → kv_wd n f s t h m = kv_wd n f' s' t' h m := by
  intro n
  induction n with
  | zero => intro _; rfl
  | succ n ih =>
    intro g
    have g1 := g n (by omega)
    unfold kv_wd
    rw [g1.1, g1.2.1, g1.2.2, ih (fun i hi => g i (by omega))]
theorem kw_R_win (h : kw_RA zK zM) : kw_win zK = kw_mwin zM := by
  obtain ⟨na, h1, h2, h3, h4⟩ := h
  unfold kw_win kw_mwin
  rw [h2, h3, kv_tn (by omega)]
  funext x m
  exact kw_wd_congr (fun i hi => (h4 i hi).1)
theorem kw_wd_rg {f s t : Nat → Int32} {h m : Int32} : ∀ {n : Nat}, (∀ i, i < n → kw_rg (t i) 0 9) → kw_rg (kv_wd n f s t h m) 0 9 := by
  intro n
  induction n with
  | zero => intro _; exact (show kw_rg 0 0 9 from ⟨by decide, by decide⟩)
  | succ n ih =>
    intro g
    unfold kv_wd
    split
    · exact g n (by omega)
    · exact ih (fun i hi => g i (by omega))
theorem kw_R_okw (h : kw_RA zK zM) : kw_okw (kw_win zK) := by
  obtain ⟨na, h1, h2, h3, h4⟩ := h
  intro x m
  unfold kw_win
  rw [h2, kv_tn (by omega)]
  exact kw_wd_rg (fun i hi => (h4 i hi).2)
theorem kw_lf_of {l : Nat} {x : Int32} (hl : l ≤ 6) (h1 : zK 7 1 = Int32.ofNat l) (hx : kw_LX l x) (hm : ∀ i, i < l → kw_ML zM (Int32.ofNat i) (fun lt => kw_we (zK (9 + 2 * i + 1)) (zK (9 + 2 * i) 1) lt 257 0 [])) : kw_MR zM x (kw_lf zK x) := by
  rcases hx with rfl | ⟨i, hi, rfl⟩
  · have : kw_lf zK (-1) = none := if_pos (Or.inl (by decide))
    rw [this]
    exact rfl
  · have h2 : kw_lf zK (Int32.ofNat i) = some (fun lt => kw_we (zK (9 + 2 * i + 1)) (zK (9 + 2 * i) 1) lt 257 0 []) := by
      unfold kw_lf
      rw [if_neg, kv_tn (by omega)]
      rintro (q | q | q)
      · exact kv_nge0 (by omega) q
      · rw [h1, kv_nle (by omega) (by omega)] at q
        omega
      · rw [show (6 : Int32) = Int32.ofNat 6 from rfl, kv_nle (by omega) (by omega)] at q
        omega
    rw [h2]
    refine ⟨fun q => ?_, hm i hi⟩
    have := kv_nge0 (a := i) (by omega)
    rw [q] at this
    exact this (by decide)
theorem kw_R_km (h : kw_RN n B W zK zM) : kc zK 36 = km zM := by
  have := congrArg Prod.fst h.1
  rw [kw_vm_km] at this
  exact this
theorem kw_R_I (h : kw_R n B W zK zM) : kw_I n (kw_lf zK (zK 7 2)) (kw_lf zK (zK 7 3)) zM := by
  obtain ⟨⟨-, hA, hF, -, l, hl, ⟨h1, h2⟩, ⟨h3, h4⟩, ⟨h5, h6⟩, h7⟩, ⟨hN, -, -⟩, -⟩ := h
  have ek := kw_R_km hN
  obtain ⟨-, ⟨s1, s2⟩, s3, s4⟩ := hN
  refine ⟨⟨⟨⟨hF.1.2.1, hF.1.2.2⟩, ek ▸ s2⟩, ?_⟩, ⟨by rw [← h3]; exact kw_lf_of hl h1 h4 h7, by rw [← h5]; exact kw_lf_of hl h1 h6 h7⟩, by rw [← kw_R_win hA]; exact kw_R_okw hA, ek ▸ s1, by rw [← hF.2.1 3 (by omega)]; exact hF.2.2.2.2.1⟩
  obtain ⟨na, a1, a2, a3, a4⟩ := hA
  exact ⟨na, a1, a3⟩
theorem kw_R_KK (h : kw_R n B W zK zM) : kw_KK n zK := ⟨⟨h.1.2.2.1.1.1, h.1.2.2.1.1.2.2⟩, h.2.1.1.2.1.2⟩
theorem kw_R_air (h : kw_R n B W zK zM) : kw_air zK := by
  obtain ⟨na, a1, a2, -⟩ := h.1.2.1
  exact ⟨na, a1, a2⟩
theorem kw_R_min (h : kw_R n B W zK zM) : zK 36 3 = zM 16 104 ∧ ∃ M, M ≤ B ∧ B ≤ 60 ∧ zK 36 3 = Int32.ofNat M ∧ zK 3 1 = Int32.ofNat B ∧ zM 14 1 = Int32.ofNat B := by
  have h1 := congrArg (fun v : kw_V => v.2.2.2.1) h.2.1.1.1
  obtain ⟨M, h2, h3⟩ := h.2.1.1.2.2.1
  exact ⟨h1, M, h2, h.1.2.2.1.2.2.1.2, h3, h.1.2.2.1.2.2.1.1, by rw [← h.1.2.2.1.2.1 1 (by omega)]; exact h.1.2.2.1.2.2.1.1⟩
/-- cells that the relation doesn't look at -/
def kw_XK (z z' : Nat → Nat → Int32) : Prop := ∀ c, c ≠ 34 → c ≠ 35 → c ≠ 39 → c ≠ 40 → c ≠ 41 → c ≠ 171 → z' c = z c
def kw_XM (z z' : Nat → Nat → Int32) : Prop := ∀ c, c ≠ 9 → c ≠ 10 → c ≠ 17 → c ≠ 18 → c ≠ 20 → c ≠ 21 → z' c = z c
theorem kw_XK_rf (z : Nat → Nat → Int32) : kw_XK z z := fun _ _ _ _ _ _ _ => rfl
theorem kw_XM_rf (z : Nat → Nat → Int32) : kw_XM z z := fun _ _ _ _ _ _ _ => rfl
theorem kw_XK_tr {z z1 z2 : Nat → Nat → Int32} (h : kw_XK z z1) (g : kw_XK z1 z2) : kw_XK z z2 := fun c a1 a2 a3 a4 a5 a6 => (g c a1 a2 a3 a4 a5 a6).trans (h c a1 a2 a3 a4 a5 a6)
theorem kw_XM_tr {z z1 z2 : Nat → Nat → Int32} (h : kw_XM z z1) (g : kw_XM z1 z2) : kw_XM z z2 := fun c a1 a2 a3 a4 a5 a6 => (g c a1 a2 a3 a4 a5 a6).trans (h c a1 a2 a3 a4 a5 a6)
theorem kw_vk_fr {z z' : Nat → Nat → Int32} {a : Nat} (h : ∀ c, c = a ∨ c = a + 1 ∨ c = a + 2 → z' c = z c) : kw_vk z' a = kw_vk z a := by
  unfold kw_vk
  rw [kw_kc_fr (h (a + 1) (by omega)), h (a + 2) (by omega), h a (by omega)]
theorem kw_vm_fr {z z' : Nat → Nat → Int32} {c o : Nat} (h : z' c = z c) : kw_vm z' c o = kw_vm z c o := by
  unfold kw_vm
  rw [h]
theorem kw_ML_congr {x : Int32} {f g : (Nat → Int32) → Int32} (h : kw_ML zM x f) (hf : f = g) : kw_ML zM x g := hf ▸ h
theorem kw_R_fr {zK' zM' : Nat → Nat → Int32} (h : kw_R n B W zK zM) (hk : kw_XK zK zK') (hm : kw_XM zM zM') : kw_R n B W zK' zM' := by
  have k : ∀ c, c < 34 → zK' c = zK c := fun c hc => hk c (by omega) (by omega) (by omega) (by omega) (by omega) (by omega)
  have m0 : zM' 0 = zM 0 := hm 0 (by omega) (by omega) (by omega) (by omega) (by omega) (by omega)
  have ml : ∀ c, 2 ≤ c → c ≤ 8 → zM' c = zM c := fun c a b => hm c (by omega) (by omega) (by omega) (by omega) (by omega) (by omega)
  obtain ⟨⟨⟨L, t1, t2, t3, t4⟩, ⟨na, a1, a2, a3, a4⟩, ⟨f1, f2, f3, f4, f5⟩, b0, l, l1, l2, l3, l4, l5⟩, ⟨⟨n1, n2⟩, ⟨i1, i2⟩, q, p, c1, c2, c3⟩, ⟨s, s1, s2, s3⟩, g1⟩ := h
  have m1 : zM' 1 = zM 1 := hm 1 (by omega) (by omega) (by omega) (by omega) (by omega) (by omega)
  have m14 : zM' 14 = zM 14 := hm 14 (by omega) (by omega) (by omega) (by omega) (by omega) (by omega)
  have m15 : zM' 15 = zM 15 := hm 15 (by omega) (by omega) (by omega) (by omega) (by omega) (by omega)
  have m16 : zM' 16 = zM 16 := hm 16 (by omega) (by omega) (by omega) (by omega) (by omega) (by omega)
  have m19 : zM' 19 = zM 19 := hm 19 (by omega) (by omega) (by omega) (by omega) (by omega) (by omega)
  have m25 : zM' 25 = zM 25 := hm 25 (by omega) (by omega) (by omega) (by omega) (by omega) (by omega)
  have m22 : zM' 22 = zM 22 := hm 22 (by omega) (by omega) (by omega) (by omega) (by omega) (by omega)
  have m23 : zM' 23 = zM 23 := hm 23 (by omega) (by omega) (by omega) (by omega) (by omega) (by omega)
  have m24 : zM' 24 = zM 24 := hm 24 (by omega) (by omega) (by omega) (by omega) (by omega) (by omega)
  have v36 : kw_vk zK' 36 = kw_vk zK 36 := kw_vk_fr (fun c hc => hk c (by omega) (by omega) (by omega) (by omega) (by omega) (by omega))
  have v42 : kw_vk zK' 42 = kw_vk zK 42 := kw_vk_fr (fun c hc => hk c (by omega) (by omega) (by omega) (by omega) (by omega) (by omega))
  have va : ∀ p q i, kw_vk zK' (kw_at_ p q i) = kw_vk zK (kw_at_ p q i) := fun p q i => kw_vk_fr (fun c hc => by
    unfold kw_at_ at hc
    have := Nat.mod_lt (p + 40 - q + i) (show 40 > 0 by omega)
    exact hk c (by omega) (by omega) (by omega) (by omega) (by omega) (by omega))
  have k45 : zK' 45 = zK 45 := hk 45 (by omega) (by omega) (by omega) (by omega) (by omega) (by omega)
  have k167 : zK' 167 = zK 167 := hk 167 (by omega) (by omega) (by omega) (by omega) (by omega) (by omega)
  have k168 : zK' 168 = zK 168 := hk 168 (by omega) (by omega) (by omega) (by omega) (by omega) (by omega)
  have k169 : zK' 169 = zK 169 := hk 169 (by omega) (by omega) (by omega) (by omega) (by omega) (by omega)
  have k170 : zK' 170 = zK 170 := hk 170 (by omega) (by omega) (by omega) (by omega) (by omega) (by omega)
  refine ⟨⟨⟨L, t1, by rw [k 1 (by omega)]; exact t2, by rw [m0]; exact t3, by rw [k 2 (by omega), m1]; exact t4⟩, ⟨na, a1, by rw [k 3 (by omega)]; exact a2, by rw [m0]; exact a3, by rw [k 4 (by omega), k 5 (by omega), k 6 (by omega), m15]; exact a4⟩, by unfold kw_RF; rw [k 3 (by omega), m0, m14]; exact ⟨f1, f2, f3, f4, f5⟩, by rw [k 29 (by omega)]; exact b0, l, l1, by rw [k 7 (by omega), m0]; exact l2, by rw [k 7 (by omega), m0]; exact l3, by rw [k 7 (by omega), m0]; exact l4, fun i hi => ?_⟩, ⟨⟨by rw [v36, kw_vm_fr m16]; exact n1, by rw [v36]; exact n2⟩, ⟨by rw [k 0 (by omega), m0]; exact i1, by rw [k 0 (by omega), v42, kw_vm_fr m25]; exact i2⟩, q, p, c1, by rw [k45, m0]; exact c2, fun i hi => by rw [va, kw_vm_fr m19]; exact c3 i hi⟩, ⟨s, s1, by rw [k167, m0]; exact s2, by rw [k168, k169, k170, m22, m23, m24]; exact s3⟩, by unfold kw_RG; rw [k 0 (by omega), m0]; exact g1⟩
  rw [k (9 + 2 * i + 1) (by omega), k (9 + 2 * i) (by omega)]
  exact kw_ML_fr (l5 i hi) (kw_AG_of ml)
end
