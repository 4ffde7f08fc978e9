/-! climbing -/
section
variable {d a b : Nat} {e : List kv_E} {z : Nat → Nat → Int32} {zl : Nat → Nat → Int64}
theorem kw_su_eq (z : Nat → Nat → Int32) (a : Nat) {k w : Nat} {x v : Int32} (hk : k < 8) (hw : w < 13) (hx : x = Int32.ofNat w) : kv_su z a (Int32.ofNat k) x v = kv_z z (a + 1) (upd (z (a + 1)) (13 * k + w) v) := by
  subst hx
  have h1 : Int32.ofNat k * 13 + Int32.ofNat w = Int32.ofNat (13 * k + w) := by
    rw [show (13 : Int32) = Int32.ofNat 13 from rfl, ← Int32.ofNat_mul, ← Int32.ofNat_add, Nat.mul_comm]
  unfold kv_su
  rw [h1, if_neg (kv_nge0 (by omega)), if_neg (show ¬ ((104 : Int32) ≤ Int32.ofNat (13 * k + w)) from by rw [show (104 : Int32) = Int32.ofNat 104 from rfl, kv_nle (by omega) (by omega)]; omega), kv_tn (by omega)]
theorem kw_su_kc (z : Nat → Nat → Int32) (a : Nat) {k w : Nat} {x v : Int32} (hk : k < 8) (hw : w < 13) (hx : x = Int32.ofNat w) : kc (kv_su z a (Int32.ofNat k) x v) a = kv_pt (kc z a) k w v := by
  rw [kw_su_eq z a hk hw hx]
  funext k' w'
  unfold kc kv_pt
  dsimp only
  rw [kv_zs]
  by_cases h : k' < 8 ∧ w' < 13
  · rw [if_pos h, if_pos h]
    unfold upd
    by_cases h2 : k' = k ∧ w' = w
    · rw [if_pos h2, if_pos (by omega)]
    · rw [if_neg h2, if_neg (by omega)]
  · rw [if_neg h, if_neg h, if_neg (by omega)]
theorem kw_sk0 (z : Nat → Nat → Int32) (a : Nat) {k : Nat} {v : Int32} (hk : k < 8) : kc (kv_su z a (Int32.ofNat k) 0 v) a = kv_pt (kc z a) k 0 v := kw_su_kc z a hk (by omega) rfl
theorem kw_sk1 (z : Nat → Nat → Int32) (a : Nat) {k : Nat} {v : Int32} (hk : k < 8) : kc (kv_su z a (Int32.ofNat k) 1 v) a = kv_pt (kc z a) k 1 v := kw_su_kc z a hk (by omega) rfl
theorem kw_sk2 (z : Nat → Nat → Int32) (a : Nat) {k : Nat} {v : Int32} (hk : k < 8) : kc (kv_su z a (Int32.ofNat k) 2 v) a = kv_pt (kc z a) k 2 v := kw_su_kc z a hk (by omega) rfl
theorem kw_sk3 (z : Nat → Nat → Int32) (a : Nat) {k : Nat} {v : Int32} (hk : k < 8) : kc (kv_su z a (Int32.ofNat k) 3 v) a = kv_pt (kc z a) k 3 v := kw_su_kc z a hk (by omega) rfl
theorem kw_sk4 (z : Nat → Nat → Int32) (a : Nat) {k : Nat} {v : Int32} (hk : k < 8) : kc (kv_su z a (Int32.ofNat k) 4 v) a = kv_pt (kc z a) k 4 v := kw_su_kc z a hk (by omega) rfl
theorem kw_sk5 (z : Nat → Nat → Int32) (a : Nat) {k : Nat} {v : Int32} (hk : k < 8) : kc (kv_su z a (Int32.ofNat k) 5 v) a = kv_pt (kc z a) k 5 v := kw_su_kc z a hk (by omega) rfl
theorem kw_sk6 (z : Nat → Nat → Int32) (a : Nat) {k : Nat} {v : Int32} (hk : k < 8) : kc (kv_su z a (Int32.ofNat k) 6 v) a = kv_pt (kc z a) k 6 v := kw_su_kc z a hk (by omega) rfl
theorem kw_sk7 (z : Nat → Nat → Int32) (a : Nat) {k : Nat} {v : Int32} (hk : k < 8) : kc (kv_su z a (Int32.ofNat k) 7 v) a = kv_pt (kc z a) k 7 v := kw_su_kc z a hk (by omega) rfl
theorem kw_sk8 (z : Nat → Nat → Int32) (a : Nat) {k : Nat} {v : Int32} (hk : k < 8) : kc (kv_su z a (Int32.ofNat k) 8 v) a = kv_pt (kc z a) k 8 v := kw_su_kc z a hk (by omega) rfl
theorem kw_sk9 (z : Nat → Nat → Int32) (a : Nat) {k : Nat} {v : Int32} (hk : k < 8) : kc (kv_su z a (Int32.ofNat k) 9 v) a = kv_pt (kc z a) k 9 v := kw_su_kc z a hk (by omega) rfl
theorem kw_sk10 (z : Nat → Nat → Int32) (a : Nat) {k : Nat} {v : Int32} (hk : k < 8) : kc (kv_su z a (Int32.ofNat k) 10 v) a = kv_pt (kc z a) k 10 v := kw_su_kc z a hk (by omega) rfl
theorem kw_sk11 (z : Nat → Nat → Int32) (a : Nat) {k : Nat} {v : Int32} (hk : k < 8) : kc (kv_su z a (Int32.ofNat k) 11 v) a = kv_pt (kc z a) k 11 v := kw_su_kc z a hk (by omega) rfl
theorem kw_sk12 (z : Nat → Nat → Int32) (a : Nat) {k : Nat} {v : Int32} (hk : k < 8) : kc (kv_su z a (Int32.ofNat k) 12 v) a = kv_pt (kc z a) k 12 v := kw_su_kc z a hk (by omega) rfl
theorem kw_su_fr (z : Nat → Nat → Int32) (a : Nat) (i w v : Int32) {c : Nat} (h : c ≠ a + 1) : kv_su z a i w v c = z c := by
  unfold kv_su
  split
  · rfl
  · split
    · rfl
    · exact kv_zne _ _ h
theorem kw_kc_fr {z z' : Nat → Nat → Int32} {a : Nat} (h : z' (a + 1) = z (a + 1)) : kc z' a = kc z a := by
  unfold kc
  rw [h]
theorem kw_lf_fr {z z' : Nat → Nat → Int32} (h : ∀ c, c < 34 → z' c = z c) (x : Int32) : kw_lf z' x = kw_lf z x := by
  unfold kw_lf
  rw [h 7 (by omega)]
  by_cases c : x < 0 ∨ z 7 1 ≤ x ∨ 6 ≤ x
  · rw [if_pos c, if_pos c]
  · have c0 : ¬ x < 0 := fun q => c (Or.inl q)
    have c6 : ¬ 6 ≤ x := fun q => c (Or.inr (Or.inr q))
    have hn : x.toNatClampNeg < 6 := by
      obtain ⟨m, hm, e1⟩ := kv_nat (kv_nn0 c0)
      rw [e1] at c6 ⊢
      rw [kv_tn hm]
      rw [show (6 : Int32) = Int32.ofNat 6 from rfl, kv_nle (by omega) hm] at c6
      omega
    rw [if_neg c, if_neg c, h _ (show 9 + 2 * x.toNatClampNeg + 1 < 34 by omega), h _ (show 9 + 2 * x.toNatClampNeg < 34 by omega)]
theorem kw_win_fr {z z' : Nat → Nat → Int32} (h : ∀ c, c < 34 → z' c = z c) : kw_win z' = kw_win z := by
  unfold kw_win
  rw [h 3 (by omega), h 4 (by omega), h 5 (by omega), h 6 (by omega)]
theorem kw_air_fr {z z' : Nat → Nat → Int32} (h : ∀ c, c < 34 → z' c = z c) (h9 : kw_air z) : kw_air z' := by
  unfold kw_air
  rw [h 3 (by omega)]
  exact h9
def kw_paid (pays mode : Int32) (r : Nat → Int32) : Int32 := if mode = 1 then kv_mn (r 2) (r 3 + pays) else if mode = 2 then kv_mx 0 (r 3 - pays) else r 3
def kw_rp (p : Int32) (r : Nat → Int32) : Nat → Int32 := fun w => if w = 3 then p else r w
def kw_rh (h : Int32) (r : Nat → Int32) : Nat → Int32 := fun w => if w = 4 then h else r w
def kw_cl (lf : Option ((Nat → Int32) → Int32)) (wd : Int32 → Int32 → Int32) (pays m mode : Int32) (r : Nat → Int32) : Nat → Int32 :=
  kw_rh (kv_wi (r 4 + kw_lift lf wd (kw_rp (kw_paid pays mode r) r) m) 0 (kw_paid pays mode r)) (kw_rp (kw_paid pays mode r) r)
def kw_climb (lf : Option ((Nat → Int32) → Int32)) (wd : Int32 → Int32 → Int32) (pays m : Int32) (c : Nat → Nat → Int32) : Nat → Nat → Int32 := fun k => if c k 11 = 0 then c k else kw_cl lf wd pays m (c k 8) (c k)
def kw_mix (k : Nat) (c c' : Nat → Nat → Int32) : Nat → Nat → Int32 := fun i => if i < k then c' i else c i
def kw_F (a : Nat) (z z' : Nat → Nat → Int32) : Prop := ∀ c, c ≠ a + 1 → c ≠ 34 → c ≠ 35 → z' c = z c
theorem kw_F_low {a : Nat} {z z' : Nat → Nat → Int32} (h : kw_F a z z') (h35 : 35 < a) : ∀ c, c < 34 → z' c = z c := fun c hc => h c (by omega) (by omega) (by omega)
theorem kw_climb_l (hS : kv_isS e a) (h35 : 35 < a) (h9 : kw_air z) {k : Nat} (hk : k < 8) {z1 : Nat → Nat → Int32} (hF : kw_F a z z1) (hc : ¬ kc z1 a k 11 = 0) (u3 u4 u5 : Option Value) (q2 : kv_c2 u3 = false) (q3 : kv_c2 u4 = false) :
    ∃ z2 v3 v4 v5, kv_Rn (d + 3) 23 2 [some (.ref 33), some (.ref a), some (.int (Int32.ofNat k)), u3, u4, u5] [] (kv_h e z1 zl) = kv_Rn (d + 3) 23 2 [some (.ref 33), some (.ref a), some (.int (Int32.ofNat (k + 1))), v3, v4, v5] [] (kv_h e z2 zl) ∧ kw_F a z z2 ∧ kc z2 a = (fun i => if i = k then kw_cl (kw_lf z (z 7 2)) (kw_win z) (z 3 3) (z a 3) (kc z1 a k 8) (kc z1 a k) else kc z1 a i) ∧ kv_c2 v3 = false ∧ kv_c2 v4 = false := by
  have lo := kw_F_low hF h35
  have ea : z1 a = z a := hF a (by omega) (by omega) (by omega)
  generalize hp : kw_paid (z 3 3) (kc z1 a k 8) (kc z1 a k) = p
  obtain ⟨z2, hl, f2⟩ := kw_liftOf (d := d) (e := e) (z := kv_su z1 a (Int32.ofNat k) 3 p) (zl := zl) hS h35 (kw_air_fr (fun c hc => (kw_su_fr _ _ _ _ _ (by omega)).trans (lo c hc)) h9) hk
  have lo1 : ∀ c, c < 34 → kv_su z1 a (Int32.ofNat k) 3 p c = z c := fun c hc => (kw_su_fr _ _ _ _ _ (by omega)).trans (lo c hc)
  rw [kw_sk3 z1 a hk, kw_lf_fr lo1, kw_win_fr lo1, lo1 7 (by omega), kw_su_fr _ _ _ _ _ (show a ≠ a + 1 by omega), ea] at hl
  have er : kv_pt (kc z1 a) k 3 p k = kw_rp p (kc z1 a k) := by
    funext w
    unfold kv_pt kw_rp
    simp only [true_and]
  rw [er] at hl
  generalize hh : kv_wi (kc z1 a k 4 + kw_lift (kw_lf z (z 7 2)) (kw_win z) (kw_rp p (kc z1 a k)) (z a 3)) 0 p = y
  have k1 : kv_gt (kv_su z1 a (Int32.ofNat k) 3 p) a (Int32.ofNat k) 4 = kc z1 a k 4 := by
    rw [kv_g4 _ a hk, kw_sk3 z1 a hk]
    unfold kv_pt
    rw [if_neg (by omega)]
  have hz : z1 3 = z 3 := lo 3 (by omega)
  refine ⟨kv_su z2 a (Int32.ofNat k) 4 y, some (.int p), some (.int (kc z1 a k 8)), some (.int (kc z1 a k 4 + kw_lift (kw_lf z (z 7 2)) (kw_win z) (kw_rp p (kc z1 a k)) (z a 3))), ?_, ?_, ?_, rfl, rfl⟩
  · conv => lhs; rw [kv_e23_2]
    unfold kw_paid at hp
    by_cases m1 : kc z1 a k 8 = 1
    · rw [if_pos m1] at hp
      simp only [kv_e23_3, kv_e23_5, kv_e23_8, kv_e23_9, kv_e23_10, kv_e23_13, kv_e23_19, kv_e23_20, kv_e23_21, kv_e23_22, kv_e23_25, kv_e23_26, kv_e23_27, kv_e23_28, kv_e23_30, kv_e23_33, kv_e23_35, kv_e23_37, kv_e23_38, kv_e23_41, kv_e23_42, kv_e23_43, kv_e23_44, kv_e23_47, kv_e23_48, kv_e23_49, kv_e23_52, kv_e23_55, kv_e23_56, kv_e23_59, kv_e23_60, kv_e23_83, kv_e23_84, kv_e23_85, kv_e23_86, kv_e23_87, kv_e23_90, kv_e23_91, kv_e23_92, kv_e23_93, kv_e23_96, kv_e23_97, kv_e23_98, kv_e23_99, kv_e23_102, kv_e23_103, kv_e23_105, kv_e23_106, kv_e23_107, kv_e23_108, kv_e23_110, kv_e23_111, kv_e23_112, kv_e23_115, kv_e23_118, kv_e23_121, kv_o10, not_false_eq_true, not_true, if_true, if_false, kv_then_s, kv_then_v, kv_then_n, List.cons_append, List.nil_append, kv_Ci, kv_Cr, kv_Cn, kv_Cu, kv_C0, kv_catc, kv_gCi, kv_gCl, kv_gCr, kv_nb0, kv_nb1, kv_nbi, kv_nb01, Nat.reduceAdd, Nat.reduceLeDiff, kv_le8 hk, if_false, hS, kv_flies, kv_get, kv_g11 z1 a hk, kv_g3 z1 a hk, kv_g8 z1 a hk, kv_g2 z1 a hk, kv_i01, eq_false hc, not_false_eq_true, not_true, if_true, m1, kv_isF3, hz, hp, kv_set, k1, hl, kv_within, hh, kv_suc, q2, q3]
    · by_cases m2 : kc z1 a k 8 = 2
      · rw [if_neg m1, if_pos m2] at hp
        simp only [kv_e23_3, kv_e23_5, kv_e23_8, kv_e23_9, kv_e23_10, kv_e23_13, kv_e23_19, kv_e23_20, kv_e23_21, kv_e23_22, kv_e23_25, kv_e23_26, kv_e23_27, kv_e23_28, kv_e23_30, kv_e23_33, kv_e23_35, kv_e23_37, kv_e23_38, kv_e23_63, kv_e23_65, kv_e23_66, kv_e23_69, kv_e23_70, kv_e23_71, kv_e23_72, kv_e23_75, kv_e23_78, kv_e23_79, kv_e23_82, kv_e23_83, kv_e23_84, kv_e23_85, kv_e23_86, kv_e23_87, kv_e23_90, kv_e23_91, kv_e23_92, kv_e23_93, kv_e23_96, kv_e23_97, kv_e23_98, kv_e23_99, kv_e23_102, kv_e23_103, kv_e23_105, kv_e23_106, kv_e23_107, kv_e23_108, kv_e23_110, kv_e23_111, kv_e23_112, kv_e23_115, kv_e23_118, kv_e23_121, kv_o10, not_false_eq_true, not_true, if_true, if_false, kv_then_s, kv_then_v, kv_then_n, List.cons_append, List.nil_append, kv_Ci, kv_Cr, kv_Cn, kv_Cu, kv_C0, kv_catc, kv_gCi, kv_gCl, kv_gCr, kv_nb0, kv_nb1, kv_nbi, kv_nb01, Nat.reduceAdd, Nat.reduceLeDiff, kv_le8 hk, if_false, hS, kv_flies, kv_get, kv_g11 z1 a hk, kv_g3 z1 a hk, kv_g8 z1 a hk, kv_g2 z1 a hk, kv_i01, eq_false hc, eq_false m1, not_false_eq_true, not_true, if_true, m2, kv_isF3, hz, hp, kv_set, k1, hl, kv_within, hh, kv_suc, q2, q3, show ((2 : Int32) = 1) = False from by decide]
      · rw [if_neg m1, if_neg m2] at hp
        simp only [kv_e23_3, kv_e23_5, kv_e23_8, kv_e23_9, kv_e23_10, kv_e23_13, kv_e23_19, kv_e23_20, kv_e23_21, kv_e23_22, kv_e23_25, kv_e23_26, kv_e23_27, kv_e23_28, kv_e23_30, kv_e23_33, kv_e23_35, kv_e23_37, kv_e23_38, kv_e23_63, kv_e23_65, kv_e23_66, kv_e23_83, kv_e23_84, kv_e23_85, kv_e23_86, kv_e23_87, kv_e23_90, kv_e23_91, kv_e23_92, kv_e23_93, kv_e23_96, kv_e23_97, kv_e23_98, kv_e23_99, kv_e23_102, kv_e23_103, kv_e23_105, kv_e23_106, kv_e23_107, kv_e23_108, kv_e23_110, kv_e23_111, kv_e23_112, kv_e23_115, kv_e23_118, kv_e23_121, kv_o10, not_false_eq_true, not_true, if_true, if_false, kv_then_s, kv_then_v, kv_then_n, List.cons_append, List.nil_append, kv_Ci, kv_Cr, kv_Cn, kv_Cu, kv_C0, kv_catc, kv_gCi, kv_gCl, kv_gCr, kv_nb0, kv_nb1, kv_nbi, kv_nb01, Nat.reduceAdd, Nat.reduceLeDiff, kv_le8 hk, if_false, hS, kv_flies, kv_get, kv_g11 z1 a hk, kv_g3 z1 a hk, kv_g8 z1 a hk, kv_g2 z1 a hk, kv_i01, eq_false hc, eq_false m1, eq_false m2, not_false_eq_true, not_true, if_true, kv_isF3, hz, hp, kv_set, k1, hl, kv_within, hh, kv_suc, q2, q3]
  · intro c h1 h2 h3
    rw [kw_su_fr _ _ _ _ _ h1, f2 c h2 h3, kw_su_fr _ _ _ _ _ h1]
    exact hF c h1 h2 h3
  · rw [kw_sk4 z2 a hk, kw_kc_fr (f2 (a + 1) (by omega) (by omega)), kw_sk3 z1 a hk]
    funext i w
    unfold kv_pt kw_cl
    rw [hp, hh]
    unfold kw_rh kw_rp
    by_cases h1 : i = k
    · subst h1
      simp only [true_and, if_true]
    · simp only [h1, false_and, if_false]
end
