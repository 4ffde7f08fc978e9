/-! what laws are worth: codes put together -/
section
variable {d n : Nat} {lt : Nat → Int32} {z : Nat → Nat → Int32} {zl : Nat → Nat → Int64}
theorem kx_nle5 {k : Nat} (hk : k < 100) (j : Nat) (hj : j < 100) : (Int32.ofNat k ≤ Int32.ofNat j) = (k ≤ j) := kv_nle (by omega) (by omega)
theorem kx_Kc {S : Nat → Int32} {i c v : Nat} (h : S i = kx_pk (c, v)) (hc : c ≤ 11) (hv : v < 65536) : S i >>> ((16 : Int32) &&& 31) = Int32.ofNat (kx_kd c) ∧ S i &&& 65535 = Int32.ofNat v := by
  have hk : kx_kd c < 16 := by
    unfold kx_kd
    by_cases c1 : c = 9
    · rw [if_pos c1]; decide
    · rw [if_neg c1]
      by_cases c2 : c = 10
      · rw [if_pos c2]; decide
      · rw [if_neg c2]
        by_cases c3 : c = 11
        · rw [if_pos c3]; decide
        · rw [if_neg c3]; omega
  rw [h]
  exact ⟨kx_uk hk hv, kx_uv hk hv⟩
theorem kx_Kin {l i : Nat} (h : i < l) (hl : l ≤ 256) : ¬ Int32.ofNat l ≤ Int32.ofNat i ∧ ¬ 256 ≤ i := ⟨fun q => by rw [kv_nle (by omega) (by omega)] at q; omega, by omega⟩
theorem kx_Knum {S : Nat → Int32} {l f i v : Nat} {s : List Int32} (h : S i = kx_pk (0, v)) (hv : v < 65536) (hi : i < l) (hl : l ≤ 256) (hs : s.length < 256) : kw_we S (Int32.ofNat l) lt (f + 1) i s = kw_we S (Int32.ofNat l) lt f (i + 1) (Int32.ofNat v :: s) := by
  obtain ⟨h1, h2⟩ := kx_Kc h (by omega) hv
  obtain ⟨g1, g2⟩ := kx_Kin hi hl
  refine (if_neg g1).trans ((if_neg g2).trans ((if_pos (by rw [h1]; decide)).trans ((if_neg (by omega)).trans ((if_neg (by rw [h1]; decide)).trans ?_))))
  rw [h2]
theorem kx_Klet {S : Nat → Int32} {l f i v : Nat} {s : List Int32} (h : S i = kx_pk (1, v)) (hv : v < 8) (hi : i < l) (hl : l ≤ 256) (hs : s.length < 256) : kw_we S (Int32.ofNat l) lt (f + 1) i s = kw_we S (Int32.ofNat l) lt f (i + 1) (lt v :: s) := by
  obtain ⟨h1, h2⟩ := kx_Kc h (by omega) (by omega)
  obtain ⟨g1, g2⟩ := kx_Kin hi hl
  refine (if_neg g1).trans ((if_neg g2).trans ((if_pos (by rw [h1]; decide)).trans ((if_neg (by omega)).trans ((if_pos (by rw [h1]; decide)).trans ((if_neg ?_).trans ?_)))))
  · rw [h2, show (8 : Int32) = Int32.ofNat 8 from rfl, kx_nle5 (by omega) _ (by omega)]
    omega
  · rw [h2, kv_tn (by omega)]
theorem kx_Knot {S : Nat → Int32} {l f i v : Nat} {y : Int32} {s : List Int32} (h : S i = kx_pk (9, v)) (hv : v < 65536) (hi : i < l) (hl : l ≤ 256) : kw_we S (Int32.ofNat l) lt (f + 1) i (y :: s) = kw_we S (Int32.ofNat l) lt f (i + 1) ((if y = 0 then 1 else 0) :: s) := by
  obtain ⟨h1, h2⟩ := kx_Kc h (by omega) hv
  obtain ⟨g1, g2⟩ := kx_Kin hi hl
  exact (if_neg g1).trans ((if_neg g2).trans ((if_neg (by rw [h1]; decide)).trans ((if_neg (by rw [h1]; decide)).trans ((if_neg (by rw [h1]; decide)).trans (if_pos (by rw [h1]; decide))))))
theorem kx_Kop {S : Nat → Int32} {l f i k v : Nat} {x y : Int32} {s : List Int32} (h : S i = kx_pk (k, v)) (hk : 2 ≤ k ∧ k ≤ 11 ∧ k ≠ 9) (hv : v < 65536) (hi : i < l) (hl : l ≤ 256) : kw_we S (Int32.ofNat l) lt (f + 1) i (y :: x :: s) = kw_we S (Int32.ofNat l) lt f (i + 1) ((if Int32.ofNat (kx_kd k) ≤ 5 then kw_j (Int32.ofNat (kx_kd k)) x y else kw_g (Int32.ofNat (kx_kd k)) x y) :: s) := by
  obtain ⟨h1, h2⟩ := kx_Kc h (by omega) hv
  obtain ⟨g1, g2⟩ := kx_Kin hi hl
  have hd : 2 ≤ kx_kd k ∧ kx_kd k ≤ 10 := by
    unfold kx_kd
    rw [if_neg hk.2.2]
    by_cases c2 : k = 10
    · rw [if_pos c2]; omega
    · rw [if_neg c2]
      by_cases c3 : k = 11
      · rw [if_pos c3]; omega
      · rw [if_neg c3]; omega
  have e1 : ¬ Int32.ofNat (kx_kd k) ≤ 1 := by
    rw [show (1 : Int32) = Int32.ofNat 1 from rfl, kx_nle5 (by omega) _ (by omega)]
    omega
  have e2 : Int32.ofNat (kx_kd k) ≤ 10 := by
    rw [show (10 : Int32) = Int32.ofNat 10 from rfl, kx_nle5 (by omega) _ (by omega)]
    omega
  refine (if_neg g1).trans ((if_neg g2).trans ((if_neg (by rw [h1]; exact e1)).trans ((if_pos (by rw [h1]; exact e2)).trans ?_)))
  dsimp only
  rw [h1]
theorem kx_gd_num {v : Nat} (hv : v ≤ 9999) : kx_gd lt false 1 [(0, v)] := by
  refine ⟨Int32.ofNat v, ?_, fun s => absurd s (by decide), fun S l f i s a1 a2 a3 a4 => ?_, fun d n m i fr s p z zl a1 a2 a3 a4 a5 a6 a7 => ⟨upd p s.length (Int32.ofNat v), kw_pl_top a6 rfl, ?_⟩⟩
  · unfold kw_rg
    rw [Int32.toInt_ofNat_of_lt (by omega)]
    omega
  · rw [List.length_cons, List.length_nil] at a2 ⊢
    exact kx_Knum a1.1 (by omega) (by omega) a3 (by omega)
  · rw [List.length_cons, List.length_nil] at a3 ⊢
    exact kx_mpush a5 a1.1 (Or.inl ⟨rfl, rfl⟩) a2 (by omega) a4 (by omega)
theorem kx_gd_let (hl : kw_okL lt) {v : Nat} (hv : v < 8) : kx_gd lt false 1 [(1, v)] := by
  refine ⟨lt v, hl v hv, fun s => absurd s (by decide), fun S l f i s a1 a2 a3 a4 => ?_, fun d n m i fr s p z zl a1 a2 a3 a4 a5 a6 a7 => ⟨upd p s.length (lt v), kw_pl_top a6 rfl, ?_⟩⟩
  · rw [List.length_cons, List.length_nil] at a2 ⊢
    exact kx_Klet a1.1 (by omega) (by omega) a3 (by omega)
  · rw [List.length_cons, List.length_nil] at a3 ⊢
    exact kx_mpush a5 a1.1 (Or.inr ⟨rfl, hv, rfl⟩) a2 (by omega) a4 (by omega)
theorem kx_gd_not {h : Nat} {A : List (Nat × Nat)} (hh : 1 ≤ h) (g : kx_gd lt true h A) : kx_gd lt true h (A ++ [(9, 0)]) := by
  obtain ⟨v, h1, h2, h3, h4⟩ := g
  have h2 := h2 rfl
  have e : (if v = 0 then 1 else 0) = 1 - v := by
    rcases h2 with rfl | rfl <;> decide
  have h01 : kx_01 (1 - v) := by
    rcases h2 with rfl | rfl <;> (unfold kx_01; decide)
  refine ⟨1 - v, kx_rg01 h01, fun _ => h01, fun S l f i s a1 a2 a3 a4 => ?_, fun d n m i fr s p z zl a1 a2 a3 a4 a5 a6 a7 => ?_⟩
  · obtain ⟨b1, b2⟩ := kx_ly_app a1
    rw [List.length_append, List.length_cons, List.length_nil] at a2 ⊢
    rw [show f + (A.length + (0 + 1)) = (f + 1) + A.length from by omega, h3 S l (f + 1) i s b1 (by omega) a3 a4, kx_Knot b2.1 (by omega) (by omega) a3, e]
    rfl
  · obtain ⟨b1, b2⟩ := kx_ly_app a1
    rw [List.length_append, List.length_cons, List.length_nil] at a3 ⊢
    obtain ⟨p1, q1, r1⟩ := h4 d n m i fr s p z zl b1 a2 (by omega) a4 a5 a6 a7
    rw [show 520 * n + i + A.length = 520 * n + (i + A.length) from by omega] at b2 r1
    have r2 := kx_mnot (d := d) (zl := zl) (fr := fr) (m := m) (i := i + A.length) (l := s.length) (p := p1) b2.1 q1.1 a2 (by omega) a4 (by omega)
    refine ⟨upd p1 s.length (1 - v), kw_pl_top q1.2 rfl, ?_⟩
    rw [r1, r2, show 520 * n + (i + A.length) + 1 = 520 * n + i + (A.length + (0 + 1)) from by omega]
theorem kx_gd_op {h h1 h2 k : Nat} {tr trA : Bool} {A B : List (Nat × Nat)} (hk : 2 ≤ k ∧ k ≤ 11 ∧ k ≠ 9) (hh : 2 ≤ h ∧ h1 ≤ h ∧ h2 + 1 ≤ h) (gA : kx_gd lt trA h1 A) (gB : kx_gd lt trA h2 B) (hw : ∀ x y, kw_rg x (-1000000) 1000000 → kw_rg y (-1000000) 1000000 → (trA = true → kx_01 x) → (trA = true → kx_01 y) → ∃ w, w = (if Int32.ofNat (kx_kd k) ≤ 5 then kw_j (Int32.ofNat (kx_kd k)) x y else kw_g (Int32.ofNat (kx_kd k)) x y) ∧ kw_rg w (-1000000) 1000000 ∧ (tr = true → kx_01 w) ∧ ∀ d h, kv_Rn (d + 1) 179 0 [some (.int (Int32.ofNat k)), some (.long x.toInt64), none, some (.long y.toInt64), none] [] h = some (some (.int w), h)) : kx_gd lt tr h (A ++ B ++ [(k, 0)]) := by
  obtain ⟨x, x1, x2, x3, x4⟩ := gA
  obtain ⟨y, y1, y2, y3, y4⟩ := gB
  obtain ⟨w, w1, w2, w3, w4⟩ := hw x y x1 y1 x2 y2
  refine ⟨w, w2, w3, fun S l f i s a1 a2 a3 a4 => ?_, fun d n m i fr s p z zl a1 a2 a3 a4 a5 a6 a7 => ?_⟩
  · obtain ⟨b1, b3⟩ := kx_ly_app a1
    obtain ⟨b1, b2⟩ := kx_ly_app b1
    rw [List.length_append, List.length_append, List.length_cons, List.length_nil] at a2 ⊢
    rw [List.length_append] at b3
    rw [show f + (A.length + B.length + (0 + 1)) = ((f + 1) + B.length) + A.length from by omega, x3 S l (f + 1 + B.length) i s b1 (by omega) a3 (by omega), y3 S l (f + 1) (i + A.length) (x :: s) b2 (by omega) a3 (by rw [List.length_cons]; omega)]
    rw [show i + (A.length + B.length) = i + A.length + B.length from by omega] at b3
    rw [kx_Kop b3.1 hk (by omega) (by omega) a3, ← w1]
    rw [show i + A.length + B.length + 1 = i + (A.length + B.length + (0 + 1)) from by omega]
  · obtain ⟨b1, b3⟩ := kx_ly_app a1
    obtain ⟨b1, b2⟩ := kx_ly_app b1
    rw [List.length_append, List.length_append, List.length_cons, List.length_nil] at a3 ⊢
    rw [List.length_append] at b3
    obtain ⟨p1, q1, r1⟩ := x4 d n m i fr s p z zl b1 a2 (by omega) a4 a5 a6 (by omega)
    rw [show 520 * n + i + A.length = 520 * n + (i + A.length) from by omega] at b2 r1
    obtain ⟨p2, q2, r2⟩ := y4 d n m (i + A.length) fr (x :: s) p1 z zl b2 a2 (by omega) a4 a5 q1 (by rw [List.length_cons]; omega)
    rw [List.length_cons] at r2
    rw [show 520 * n + (i + A.length) + B.length = 520 * n + (i + A.length + B.length) from by omega] at r2
    rw [show 520 * n + i + (A.length + B.length) = 520 * n + (i + A.length + B.length) from by omega] at b3
    have r3 := kx_mop (d := d) (zl := zl) (fr := fr) (m := m) (i := i + A.length + B.length) (l := s.length) (p := p2) (w := w) b3.1 hk q2.1 q2.2.1 (fun h => w4 d h) a2 (by omega) a4 (by omega)
    refine ⟨upd p2 s.length w, kw_pl_top q2.2.2 rfl, ?_⟩
    rw [r1, r2, r3]
    rw [show 520 * n + (i + A.length + B.length) + 1 = 520 * n + i + (A.length + B.length + (0 + 1)) from by omega]
theorem kx_gd_ar {h h1 h2 k : Nat} {A B : List (Nat × Nat)} (hk : k = 2 ∨ k = 3 ∨ k = 4 ∨ k = 5) (hh : 2 ≤ h ∧ h1 ≤ h ∧ h2 + 1 ≤ h) (gA : kx_gd lt false h1 A) (gB : kx_gd lt false h2 B) : kx_gd lt false h (A ++ B ++ [(k, 0)]) := by
  refine kx_gd_op (by omega) hh gA gB (fun x y hx hy _ _ => ⟨kw_j (Int32.ofNat k) x y, ?_, kx_rgj _ _ _, fun s => absurd s (by decide), fun d h => ?_⟩)
  · rcases hk with rfl | rfl | rfl | rfl <;> rfl
  · rcases hk with rfl | rfl | rfl | rfl
    · exact kx_w2 x y
    · exact kx_w3 x y
    · exact kx_w4 x y
    · exact kx_w5 x y hx
theorem kx_gd_cp {h h1 h2 k : Nat} {A B : List (Nat × Nat)} (hk : k = 6 ∨ k = 7 ∨ k = 8) (hh : 2 ≤ h ∧ h1 ≤ h ∧ h2 + 1 ≤ h) (gA : kx_gd lt false h1 A) (gB : kx_gd lt false h2 B) : kx_gd lt true h (A ++ B ++ [(k, 0)]) := by
  have hk2 : Int32.ofNat k = 6 ∨ Int32.ofNat k = 7 ∨ Int32.ofNat k = 8 := by rcases hk with rfl | rfl | rfl <;> decide
  refine kx_gd_op (by omega) hh gA gB (fun x y hx hy _ _ => ⟨kw_g (Int32.ofNat k) x y, ?_, kx_rg01 (kx_g01 _ _ _ hk2), fun _ => kx_g01 _ _ _ hk2, fun d h => ?_⟩)
  · rcases hk with rfl | rfl | rfl <;> exact (if_neg (by decide)).symm
  · rcases hk with rfl | rfl | rfl
    · exact kx_w6 x y
    · exact kx_w7 x y
    · exact kx_w8 x y
theorem kx_gd_bo {h h1 h2 k : Nat} {A B : List (Nat × Nat)} (hk : k = 10 ∨ k = 11) (hh : 2 ≤ h ∧ h1 ≤ h ∧ h2 + 1 ≤ h) (gA : kx_gd lt true h1 A) (gB : kx_gd lt true h2 B) : kx_gd lt true h (A ++ B ++ [(k, 0)]) := by
  refine kx_gd_op (by omega) hh gA gB (fun x y hx hy h1 h2 => ⟨kw_g (Int32.ofNat (k - 1)) x y, ?_, kx_rg01 ?_, fun _ => ?_, fun d h => ?_⟩)
  · rcases hk with rfl | rfl <;> exact (if_neg (by decide)).symm
  · exact kx_b01 _ _ _ (by rcases hk with rfl | rfl <;> decide) (h1 rfl) (h2 rfl)
  · exact kx_b01 _ _ _ (by rcases hk with rfl | rfl <;> decide) (h1 rfl) (h2 rfl)
  · rcases hk with rfl | rfl
    · exact kx_w10 x y (h1 rfl) (h2 rfl)
    · exact kx_w11 x y (h1 rfl) (h2 rfl)
end
