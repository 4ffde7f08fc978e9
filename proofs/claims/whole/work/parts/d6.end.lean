/-! the relation in the law's loop; the claim -/
def kz_S (zK zM : Nat → Nat → Int32) : Prop := ∃ n B W, kw_R n B W zK zM
theorem kz_h0 (zK : Nat → Nat → Int32) (zl : Nat → Nat → Int64) : kv_h [] zK zl = (kv_shK, zK, zl) := by
  unfold kv_h
  rw [List.append_nil]
theorem kz_of_A {jK jM : Nat} {as : List Value} {zK zM : Nat → Nat → Int32} {zlK zlM : Nat → Nat → Int64} (h : kw_A 132 jK jM (kv_en jK (.ref 0 :: as)) (kv_en jM (.ref 0 :: as)) zK zM zlK zlM) : kz_A2 kz_S jK jM as zK zM zlK zlM := by
  obtain ⟨r, e', zK', zl', zM', zlM', ⟨h1, h2⟩, hR, he1, he2⟩ := h
  refine ⟨r, e', zK', zl', zM', zlM', ⟨?_, h2⟩, hR, he1, he2⟩
  rw [← kz_h0]
  exact h1
theorem kz_Scut : kz_cutS kz_S := fun _ _ _ _ ⟨n, B, W, h⟩ h1 h2 => ⟨n, B, W, kx_R_cut h h1 h2⟩
theorem kz_Sthr (z : Nat → Nat → Int32) (zl : Nat → Nat → Int64) : kv_Rn 132 152 0 (kv_en 152 [.ref 0]) [] (kv_shM, z, zl) = some (some (.int (z 0 0)), (kv_shM, z, zl)) := kx_thrownM (d := 132) (zM := z) (zlM := zl)
theorem kz_Sgust (x : Int32) (V : Int64) (zK zM : Nat → Nat → Int32) (zlK zlM : Nat → Nat → Int64) (h : kz_S zK zM) : kz_A2 kz_S 102 232 [.int x, .long V] zK zM zlK zlM := by
  obtain ⟨n, B, W, h⟩ := h
  exact kz_of_A (kw_f_gusts (d := 120) h x V)
theorem kz_Skite (x w : Int32) (zK zM : Nat → Nat → Int32) (zlK zlM : Nat → Nat → Int64) (h : kz_S zK zM) : kz_KH kz_S zK zM zlK zlM x w := by
  obtain ⟨n, B, W, h⟩ := h
  rcases kx_kite (d := 130) (zl := zlK) (zlM := zlM) h (x := x) (w := w) with ⟨v, h1, h2, h3, h4⟩ | ⟨h1, h4⟩
  · rw [kz_h0] at h1 h3
    exact Or.inl ⟨v, _, _, h2, h1, h3, h4, kx_f_at _ _ _, n, B, W, kx_R_thr h 0⟩
  · rw [kz_h0] at h1
    rcases h1 with h1 | ⟨h1, h2⟩
    · exact Or.inr ⟨0, 0, _, _, Or.inl rfl, h1, h4, kx_f_at _ _ _, n, B, W, kx_R_thr h 1⟩
    · exact Or.inr ⟨1, 0, _, _, Or.inr h2, h1, h4, kx_f_at _ _ _, n, B, W, kx_R_thr h 1⟩
theorem kz_S0 (xs : Nat → Int32) (i : Nat) (zK zM : Nat → Nat → Int32) (zlK zlM : Nat → Nat → Int64) (h : kz_S zK zM) : kz_A2 kz_S 82 154 (kz_as xs i 5) zK zM zlK zlM := by
  obtain ⟨n, B, W, h⟩ := h
  exact kz_of_A (kw_f_feed (d := 120) h (xs (i + (0 + 1))) (xs (i + (1 + 1))) (xs (i + (2 + 1))) (xs (i + (3 + 1))) (xs (i + (4 + 1))))
theorem kz_S1 (xs : Nat → Int32) (i : Nat) (zK zM : Nat → Nat → Int32) (zlK zlM : Nat → Nat → Int64) (h : kz_S zK zM) : kz_A2 kz_S 83 155 (kz_as xs i 1) zK zM zlK zlM := by
  obtain ⟨n, B, W, h⟩ := h
  exact kz_of_A (kw_f_end (d := 120) h (xs (i + (0 + 1))))
theorem kz_S2 (xs : Nat → Int32) (i : Nat) (zK zM : Nat → Nat → Int32) (zlK zlM : Nat → Nat → Int64) (h : kz_S zK zM) : kz_A2 kz_S 84 190 (kz_as xs i 1) zK zM zlK zlM := by
  obtain ⟨n, B, W, h⟩ := h
  exact kz_of_A (kw_f_fault (d := 12) h (xs (i + (0 + 1))))
theorem kz_S3 (xs : Nat → Int32) (i : Nat) (zK zM : Nat → Nat → Int32) (zlK zlM : Nat → Nat → Int64) (h : kz_S zK zM) : kz_A2 kz_S 85 192 (kz_as xs i 1) zK zM zlK zlM := by
  obtain ⟨n, B, W, h⟩ := h
  exact kz_of_A (kw_f_text (d := 12) h (xs (i + (0 + 1))))
theorem kz_S5 (xs : Nat → Int32) (i : Nat) (zK zM : Nat → Nat → Int32) (zlK zlM : Nat → Nat → Int64) (h : kz_S zK zM) : kz_A2 kz_S 87 201 (kz_as xs i 1) zK zM zlK zlM := by
  obtain ⟨n, B, W, h⟩ := h
  exact kz_of_A (kw_f_law (d := 120) h (xs (i + (0 + 1))))
theorem kz_S6 (xs : Nat → Int32) (i : Nat) (zK zM : Nat → Nat → Int32) (zlK zlM : Nat → Nat → Int64) (h : kz_S zK zM) : kz_A2 kz_S 88 202 (kz_as xs i 2) zK zM zlK zlM := by
  obtain ⟨n, B, W, h⟩ := h
  exact kz_of_A (kw_f_holds (d := 120) h (xs (i + (0 + 1))) (xs (i + (1 + 1))))
theorem kz_S7 (xs : Nat → Int32) (i : Nat) (zK zM : Nat → Nat → Int32) (zlK zlM : Nat → Nat → Int64) (h : kz_S zK zM) : kz_A2 kz_S 89 204 (kz_as xs i 2) zK zM zlK zlM := by
  obtain ⟨n, B, W, h⟩ := h
  exact kz_of_A (kw_f_wind (d := 120) h (xs (i + (0 + 1))) (xs (i + (1 + 1))))
theorem kz_S8 (xs : Nat → Int32) (i : Nat) (zK zM : Nat → Nat → Int32) (zlK zlM : Nat → Nat → Int64) (h : kz_S zK zM) : kz_A2 kz_S 90 207 (kz_as xs i 1) zK zM zlK zlM := by
  obtain ⟨n, B, W, h⟩ := h
  exact kz_of_A (kw_f_lift (d := 120) h (xs (i + (0 + 1))))
theorem kz_S9 (xs : Nat → Int32) (i : Nat) (zK zM : Nat → Nat → Int32) (zlK zlM : Nat → Nat → Int64) (h : kz_S zK zM) : kz_A2 kz_S 91 209 (kz_as xs i 2) zK zM zlK zlM := by
  obtain ⟨n, B, W, h⟩ := h
  exact kz_of_A (kw_f_wear (d := 120) h (xs (i + (0 + 1))) (xs (i + (1 + 1))))
theorem kz_S10 (xs : Nat → Int32) (i : Nat) (zK zM : Nat → Nat → Int32) (zlK zlM : Nat → Nat → Int64) (h : kz_S zK zM) : kz_A2 kz_S 92 217 (kz_as xs i 1) zK zM zlK zlM := by
  obtain ⟨n, B, W, h⟩ := h
  exact kz_of_A (kw_f_feet (d := 120) h (xs (i + (0 + 1))))
theorem kz_S11 (xs : Nat → Int32) (i : Nat) (zK zM : Nat → Nat → Int32) (zlK zlM : Nat → Nat → Int64) (h : kz_S zK zM) : kz_A2 kz_S 93 219 (kz_as xs i 0) zK zM zlK zlM := by
  obtain ⟨n, B, W, h⟩ := h
  exact kz_of_A (kw_f_result (d := 120) h )
theorem kz_S12 (xs : Nat → Int32) (i : Nat) (zK zM : Nat → Nat → Int32) (zlK zlM : Nat → Nat → Int64) (h : kz_S zK zM) : kz_A2 kz_S 94 221 (kz_as xs i 2) zK zM zlK zlM := by
  obtain ⟨n, B, W, h⟩ := h
  exact kz_of_A (kw_f_mode (d := 120) h (xs (i + (0 + 1))) (xs (i + (1 + 1))))
theorem kz_S13 (xs : Nat → Int32) (i : Nat) (zK zM : Nat → Nat → Int32) (zlK zlM : Nat → Nat → Int64) (h : kz_S zK zM) : kz_A2 kz_S 95 222 (kz_as xs i 1) zK zM zlK zlM := by
  obtain ⟨n, B, W, h⟩ := h
  exact kz_of_A (kw_f_wax (d := 120) h (xs (i + (0 + 1))))
theorem kz_S14 (xs : Nat → Int32) (i : Nat) (zK zM : Nat → Nat → Int32) (zlK zlM : Nat → Nat → Int64) (h : kz_S zK zM) : kz_A2 kz_S 96 224 (kz_as xs i 2) zK zM zlK zlM := by
  obtain ⟨n, B, W, h⟩ := h
  exact kz_of_A (kw_f_move (d := 120) h (xs (i + (0 + 1))) (xs (i + (1 + 1))))
theorem kz_S15 (xs : Nat → Int32) (i : Nat) (zK zM : Nat → Nat → Int32) (zlK zlM : Nat → Nat → Int64) (h : kz_S zK zM) : kz_A2 kz_S 97 225 (kz_as xs i 3) zK zM zlK zlM := by
  obtain ⟨n, B, W, h⟩ := h
  exact kz_of_A (kw_f_splice (d := 120) h (xs (i + (0 + 1))) (xs (i + (1 + 1))) (xs (i + (2 + 1))))
theorem kz_S16 (xs : Nat → Int32) (i : Nat) (zK zM : Nat → Nat → Int32) (zlK zlM : Nat → Nat → Int64) (h : kz_S zK zM) : kz_A2 kz_S 98 226 (kz_as xs i 2) zK zM zlK zlM := by
  obtain ⟨n, B, W, h⟩ := h
  exact kz_of_A (kw_f_talk (d := 120) h (xs (i + (0 + 1))) (xs (i + (1 + 1))))
theorem kz_S17 (xs : Nat → Int32) (i : Nat) (zK zM : Nat → Nat → Int32) (zlK zlM : Nat → Nat → Int64) (h : kz_S zK zM) : kz_A2 kz_S 100 228 (kz_as xs i 1) zK zM zlK zlM := by
  obtain ⟨n, B, W, h⟩ := h
  exact kz_of_A (kw_f_go (d := 120) h (xs (i + (0 + 1))))
theorem kz_S18 (xs : Nat → Int32) (i : Nat) (zK zM : Nat → Nat → Int32) (zlK zlM : Nat → Nat → Int64) (h : kz_S zK zM) : kz_A2 kz_S 101 229 (kz_as xs i 1) zK zM zlK zlM := by
  obtain ⟨n, B, W, h⟩ := h
  exact kz_of_A (kw_f_gust (d := 120) h (xs (i + (0 + 1))))
theorem kz_S20 (xs : Nat → Int32) (i : Nat) (zK zM : Nat → Nat → Int32) (zlK zlM : Nat → Nat → Int64) (h : kz_S zK zM) : kz_A2 kz_S 103 233 (kz_as xs i 0) zK zM zlK zlM := by
  obtain ⟨n, B, W, h⟩ := h
  exact kz_of_A (kw_f_sit (d := 120) h )
theorem kz_S21 (xs : Nat → Int32) (i : Nat) (zK zM : Nat → Nat → Int32) (zlK zlM : Nat → Nat → Int64) (h : kz_S zK zM) : kz_A2 kz_S 104 234 (kz_as xs i 1) zK zM zlK zlM := by
  obtain ⟨n, B, W, h⟩ := h
  exact kz_of_A (kw_f_book (d := 120) h (xs (i + (0 + 1))))
theorem kz_S22 (xs : Nat → Int32) (i : Nat) (zK zM : Nat → Nat → Int32) (zlK zlM : Nat → Nat → Int64) (h : kz_S zK zM) : kz_A2 kz_S 105 235 (kz_as xs i 0) zK zM zlK zlM := by
  obtain ⟨n, B, W, h⟩ := h
  exact kz_of_A (kw_f_undo (d := 120) h )
theorem kz_S23 (xs : Nat → Int32) (i : Nat) (zK zM : Nat → Nat → Int32) (zlK zlM : Nat → Nat → Int64) (h : kz_S zK zM) : kz_A2 kz_S 106 239 (kz_as xs i 3) zK zM zlK zlM := by
  obtain ⟨n, B, W, h⟩ := h
  exact kz_of_A (kw_f_ahead (d := 120) h (xs (i + (0 + 1))) (xs (i + (1 + 1))) (xs (i + (2 + 1))))
theorem kz_S24 (xs : Nat → Int32) (i : Nat) (zK zM : Nat → Nat → Int32) (zlK zlM : Nat → Nat → Int64) (h : kz_S zK zM) : kz_A2 kz_S 107 240 (kz_as xs i 1) zK zM zlK zlM := by
  obtain ⟨n, B, W, h⟩ := h
  exact kz_of_A (kw_f_bell (d := 120) h (xs (i + (0 + 1))))
theorem kz_S25 (xs : Nat → Int32) (i : Nat) (zK zM : Nat → Nat → Int32) (zlK zlM : Nat → Nat → Int64) (h : kz_S zK zM) : kz_A2 kz_S 108 241 (kz_as xs i 1) zK zM zlK zlM := by
  obtain ⟨n, B, W, h⟩ := h
  exact kz_of_A (kw_f_cut (d := 120) h (xs (i + (0 + 1))))
theorem kz_S26 (xs : Nat → Int32) (i : Nat) (zK zM : Nat → Nat → Int32) (zlK zlM : Nat → Nat → Int64) (h : kz_S zK zM) : kz_A2 kz_S 109 243 (kz_as xs i 0) zK zM zlK zlM := by
  obtain ⟨n, B, W, h⟩ := h
  exact kz_of_A (kw_f_calm (d := 120) h )
theorem kz_S27 (xs : Nat → Int32) (i : Nat) (zK zM : Nat → Nat → Int32) (zlK zlM : Nat → Nat → Int64) (h : kz_S zK zM) : kz_A2 kz_S 110 245 (kz_as xs i 2) zK zM zlK zlM := by
  obtain ⟨n, B, W, h⟩ := h
  exact kz_of_A (kw_f_timing (d := 120) h (xs (i + (0 + 1))) (xs (i + (1 + 1))))
theorem kz_S28 (xs : Nat → Int32) (i : Nat) (zK zM : Nat → Nat → Int32) (zlK zlM : Nat → Nat → Int64) (h : kz_S zK zM) : kz_A2 kz_S 111 246 (kz_as xs i 2) zK zM zlK zlM := by
  obtain ⟨n, B, W, h⟩ := h
  exact kz_of_A (kw_f_stand (d := 120) h (xs (i + (0 + 1))) (xs (i + (1 + 1))))
theorem kz_S29 (xs : Nat → Int32) (i : Nat) (zK zM : Nat → Nat → Int32) (zlK zlM : Nat → Nat → Int64) (h : kz_S zK zM) : kz_A2 kz_S 112 248 (kz_as xs i 2) zK zM zlK zlM := by
  obtain ⟨n, B, W, h⟩ := h
  exact kz_of_A (kw_f_cross (d := 120) h (xs (i + (0 + 1))) (xs (i + (1 + 1))))
theorem kz_S30 (xs : Nat → Int32) (i : Nat) (zK zM : Nat → Nat → Int32) (zlK zlM : Nat → Nat → Int64) (h : kz_S zK zM) : kz_A2 kz_S 115 249 (kz_as xs i 1) zK zM zlK zlM := by
  obtain ⟨n, B, W, h⟩ := h
  exact kz_of_A (kw_f_prey (d := 120) h (xs (i + (0 + 1))))
theorem kz_S31 (xs : Nat → Int32) (i : Nat) (zK zM : Nat → Nat → Int32) (zlK zlM : Nat → Nat → Int64) (h : kz_S zK zM) : kz_A2 kz_S 116 252 (kz_as xs i 1) zK zM zlK zlM := by
  obtain ⟨n, B, W, h⟩ := h
  exact kz_of_A (kw_f_power (d := 120) h (xs (i + (0 + 1))))
theorem kz_S32 (xs : Nat → Int32) (i : Nat) (zK zM : Nat → Nat → Int32) (zlK zlM : Nat → Nat → Int64) (h : kz_S zK zM) : kz_A2 kz_S 117 253 (kz_as xs i 0) zK zM zlK zlM := by
  obtain ⟨n, B, W, h⟩ := h
  exact kz_of_A (kw_f_talked (d := 120) h )
theorem kz_S33 (xs : Nat → Int32) (i : Nat) (zK zM : Nat → Nat → Int32) (zlK zlM : Nat → Nat → Int64) (h : kz_S zK zM) : kz_A2 kz_S 119 255 (kz_as xs i 1) zK zM zlK zlM := by
  obtain ⟨n, B, W, h⟩ := h
  exact kz_of_A (kw_f_content (d := 120) h (xs (i + (0 + 1))))
theorem kz_S34 (xs : Nat → Int32) (i : Nat) (zK zM : Nat → Nat → Int32) (zlK zlM : Nat → Nat → Int64) (h : kz_S zK zM) : kz_A2 kz_S 121 256 (kz_as xs i 1) zK zM zlK zlM := by
  obtain ⟨n, B, W, h⟩ := h
  exact kz_of_A (kw_f_ringer (d := 120) h (xs (i + (0 + 1))))
theorem kz_S35 (xs : Nat → Int32) (i : Nat) (zK zM : Nat → Nat → Int32) (zlK zlM : Nat → Nat → Int64) (h : kz_S zK zM) : kz_A2 kz_S 122 258 (kz_as xs i 4) zK zM zlK zlM := by
  obtain ⟨n, B, W, h⟩ := h
  exact kz_of_A (kw_f_duel (d := 120) h (xs (i + (0 + 1))) (xs (i + (1 + 1))) (xs (i + (2 + 1))) (xs (i + (3 + 1))))
theorem kz_S36 (xs : Nat → Int32) (i : Nat) (zK zM : Nat → Nat → Int32) (zlK zlM : Nat → Nat → Int64) (h : kz_S zK zM) : kz_A2 kz_S 123 260 (kz_as xs i 3) zK zM zlK zlM := by
  obtain ⟨n, B, W, h⟩ := h
  exact kz_of_A (kw_f_rests (d := 120) h (xs (i + (0 + 1))) (xs (i + (1 + 1))) (xs (i + (2 + 1))))
theorem kz_S37 (xs : Nat → Int32) (i : Nat) (zK zM : Nat → Nat → Int32) (zlK zlM : Nat → Nat → Int64) (h : kz_S zK zM) : kz_A2 kz_S 127 261 (kz_as xs i 2) zK zM zlK zlM := by
  obtain ⟨n, B, W, h⟩ := h
  exact kz_of_A (kw_f_clan (d := 120) h (xs (i + (0 + 1))) (xs (i + (1 + 1))))
theorem kz_S38 (xs : Nat → Int32) (i : Nat) (zK zM : Nat → Nat → Int32) (zlK zlM : Nat → Nat → Int64) (h : kz_S zK zM) : kz_A2 kz_S 128 262 (kz_as xs i 3) zK zM zlK zlM := by
  obtain ⟨n, B, W, h⟩ := h
  exact kz_of_A (kw_f_see (d := 120) h (xs (i + (0 + 1))) (xs (i + (1 + 1))) (xs (i + (2 + 1))))
theorem kz_S39 (xs : Nat → Int32) (i : Nat) (zK zM : Nat → Nat → Int32) (zlK zlM : Nat → Nat → Int64) (h : kz_S zK zM) : kz_A2 kz_S 129 264 (kz_as xs i 1) zK zM zlK zlM := by
  obtain ⟨n, B, W, h⟩ := h
  exact kz_of_A (kw_f_weighs (d := 120) h (xs (i + (0 + 1))))
theorem kz_S40 (xs : Nat → Int32) (i : Nat) (zK zM : Nat → Nat → Int32) (zlK zlM : Nat → Nat → Int64) (h : kz_S zK zM) : kz_A2 kz_S 131 265 (kz_as xs i 1) zK zM zlK zlM := by
  obtain ⟨n, B, W, h⟩ := h
  exact kz_of_A (kw_f_spare (d := 120) h (xs (i + (0 + 1))))
theorem kz_S41 (xs : Nat → Int32) (i : Nat) (zK zM : Nat → Nat → Int32) (zlK zlM : Nat → Nat → Int64) (h : kz_S zK zM) : kz_A2 kz_S 132 266 (kz_as xs i 0) zK zM zlK zlM := by
  obtain ⟨n, B, W, h⟩ := h
  exact kz_of_A (kw_f_lonely (d := 120) h )
theorem kz_S42 (xs : Nat → Int32) (i : Nat) (zK zM : Nat → Nat → Int32) (zlK zlM : Nat → Nat → Int64) (h : kz_S zK zM) : kz_A2 kz_S 133 267 (kz_as xs i 0) zK zM zlK zlM := by
  obtain ⟨n, B, W, h⟩ := h
  exact kz_of_A (kw_f_highest (d := 120) h )
theorem kz_S43 (xs : Nat → Int32) (i : Nat) (zK zM : Nat → Nat → Int32) (zlK zlM : Nat → Nat → Int64) (h : kz_S zK zM) : kz_A2 kz_S 134 268 (kz_as xs i 0) zK zM zlK zlM := by
  obtain ⟨n, B, W, h⟩ := h
  exact kz_of_A (kw_f_image (d := 120) h )
theorem kz_S44 (xs : Nat → Int32) (i : Nat) (zK zM : Nat → Nat → Int32) (zlK zlM : Nat → Nat → Int64) (h : kz_S zK zM) : kz_A2 kz_S 135 269 (kz_as xs i 0) zK zM zlK zlM := by
  obtain ⟨n, B, W, h⟩ := h
  exact kz_of_A (kw_f_back (d := 120) h )
theorem kz_S45 (xs : Nat → Int32) (i : Nat) (zK zM : Nat → Nat → Int32) (zlK zlM : Nat → Nat → Int64) (h : kz_S zK zM) : kz_A2 kz_S 136 270 (kz_as xs i 1) zK zM zlK zlM := by
  obtain ⟨n, B, W, h⟩ := h
  exact kz_of_A (kw_f_count (d := 120) h (xs (i + (0 + 1))))
theorem kz_Sstep (v : Nat) (t : kz_Row) (ht : kz_Tb[v]? = some (some t)) (xs : Nat → Int32) (i : Nat) (zK zM : Nat → Nat → Int32) (zlK zlM : Nat → Nat → Int64) (h : kz_S zK zM) : kz_A2 kz_S t.2.2.2.2.2.1 t.2.2.2.2.2.2 (kz_as xs i t.1) zK zM zlK zlM := by
  have hv : v < 46 := (List.getElem?_eq_some_iff.mp ht).1
  match v, ht with
  | 0, ht => cases ht; exact kz_S0 xs i zK zM zlK zlM h
  | 1, ht => cases ht; exact kz_S1 xs i zK zM zlK zlM h
  | 2, ht => cases ht; exact kz_S2 xs i zK zM zlK zlM h
  | 3, ht => cases ht; exact kz_S3 xs i zK zM zlK zlM h
  | 4, ht => cases ht
  | 5, ht => cases ht; exact kz_S5 xs i zK zM zlK zlM h
  | 6, ht => cases ht; exact kz_S6 xs i zK zM zlK zlM h
  | 7, ht => cases ht; exact kz_S7 xs i zK zM zlK zlM h
  | 8, ht => cases ht; exact kz_S8 xs i zK zM zlK zlM h
  | 9, ht => cases ht; exact kz_S9 xs i zK zM zlK zlM h
  | 10, ht => cases ht; exact kz_S10 xs i zK zM zlK zlM h
  | 11, ht => cases ht; exact kz_S11 xs i zK zM zlK zlM h
  | 12, ht => cases ht; exact kz_S12 xs i zK zM zlK zlM h
  | 13, ht => cases ht; exact kz_S13 xs i zK zM zlK zlM h
  | 14, ht => cases ht; exact kz_S14 xs i zK zM zlK zlM h
  | 15, ht => cases ht; exact kz_S15 xs i zK zM zlK zlM h
  | 16, ht => cases ht; exact kz_S16 xs i zK zM zlK zlM h
  | 17, ht => cases ht; exact kz_S17 xs i zK zM zlK zlM h
  | 18, ht => cases ht; exact kz_S18 xs i zK zM zlK zlM h
  | 19, ht => cases ht
  | 20, ht => cases ht; exact kz_S20 xs i zK zM zlK zlM h
  | 21, ht => cases ht; exact kz_S21 xs i zK zM zlK zlM h
  | 22, ht => cases ht; exact kz_S22 xs i zK zM zlK zlM h
  | 23, ht => cases ht; exact kz_S23 xs i zK zM zlK zlM h
  | 24, ht => cases ht; exact kz_S24 xs i zK zM zlK zlM h
  | 25, ht => cases ht; exact kz_S25 xs i zK zM zlK zlM h
  | 26, ht => cases ht; exact kz_S26 xs i zK zM zlK zlM h
  | 27, ht => cases ht; exact kz_S27 xs i zK zM zlK zlM h
  | 28, ht => cases ht; exact kz_S28 xs i zK zM zlK zlM h
  | 29, ht => cases ht; exact kz_S29 xs i zK zM zlK zlM h
  | 30, ht => cases ht; exact kz_S30 xs i zK zM zlK zlM h
  | 31, ht => cases ht; exact kz_S31 xs i zK zM zlK zlM h
  | 32, ht => cases ht; exact kz_S32 xs i zK zM zlK zlM h
  | 33, ht => cases ht; exact kz_S33 xs i zK zM zlK zlM h
  | 34, ht => cases ht; exact kz_S34 xs i zK zM zlK zlM h
  | 35, ht => cases ht; exact kz_S35 xs i zK zM zlK zlM h
  | 36, ht => cases ht; exact kz_S36 xs i zK zM zlK zlM h
  | 37, ht => cases ht; exact kz_S37 xs i zK zM zlK zlM h
  | 38, ht => cases ht; exact kz_S38 xs i zK zM zlK zlM h
  | 39, ht => cases ht; exact kz_S39 xs i zK zM zlK zlM h
  | 40, ht => cases ht; exact kz_S40 xs i zK zM zlK zlM h
  | 41, ht => cases ht; exact kz_S41 xs i zK zM zlK zlM h
  | 42, ht => cases ht; exact kz_S42 xs i zK zM zlK zlM h
  | 43, ht => cases ht; exact kz_S43 xs i zK zM zlK zlM h
  | 44, ht => cases ht; exact kz_S44 xs i zK zM zlK zlM h
  | 45, ht => cases ht; exact kz_S45 xs i zK zM zlK zlM h
  | v + 46, _ => omega
/-- the law, from its entry -/
theorem whole_start {p : Program} {e : Env} {s : State} {m : MethodId} {below : List Frame} {meth : Method} {c : Code} (l : Launch) (hflags : l.flags = flags0) {b L : Nat} {xs : Nat → Int32} (hL : L ≤ 3072) (C0 : lw_At p s m meth c b L xs) : W p l e room_1 s m #[Value.ref b] below meth c s.heap [] 0 0 (lw_Z below #[Value.ref b] s) (entryFrame m ([Value.ref b] : List Value).toArray 7) :=
  kz_start kz_Scut kz_Sthr ⟨0, 0, 0, kx_R0⟩ kz_Sstep kz_Sgust kz_Skite l hflags hL C0
-- ===== YOUR PART ENDS =====
set_option maxHeartbeats 4000000 in
theorem lw_walk (l : Launch) (hflags : l.flags = flags0) (b : Addr) (xs : List Int32) : MetFree l x (headSpec (Jvm.Cond.code x code maxLocals ret :: tables_1) room_1) (lw_P b xs) (fun _ _ _ _ _ => True) lw_Q := by
  refine MetFree.of_bodyS (code := code) (maxLocals := maxLocals) (ret := ret) (by decide) ?_ ?_
  · intro args s m h hn
    obtain ⟨meth, c, h1, h2, h3, h4, h5, h6, -, -⟩ := Cond.code_spec hn (atoms_spec (ws := Jvm.Cond.code x code maxLocals ret :: tables_1) h _ List.mem_cons_self)
    exact ⟨meth, c, h1, h2, h3, h4, h5, h6⟩
  · intro p e s m args below meth c s₁ B hml0 hP _
    obtain ⟨rfl, hx, hbd, hgv⟩ := hP
    obtain ⟨scr, harrAt, hlist, hof, hsmall⟩ := hx
    obtain ⟨hcb, hkn, -, -⟩ := State.arrayAt?_spec harrAt
    have hown : s.vm.findClass R_law = some m.cls := findClass_of_methodNamed B.named
    have hts0 : ∀ c ∈ (Jvm.Cond.code x code maxLocals ret :: tables_1), c.before #[Value.ref b] s = true := atoms_spec (ws := Jvm.Cond.code x code maxLocals ret :: tables_1) B.pre
    have hts : ∀ w ∈ lw_tbl, w.before #[Value.ref b] s = true := k2_hts_sels lw_privs (fun w hw => hts0 w (List.mem_cons_of_mem _ hw)) lw_privs_ok
    have hml : c.maxLocals = 7 := B.maxLocals_eq (hts0 _ List.mem_cons_self)
    have X₀ : Stand p l e room_1 s m #[Value.ref b] below meth c s₁ [] 0 0 := Stand.of_body B
    have hh0 : s₁.heap = s.heap := by rw [B.state]; rfl
    have hsz : scr.slots.size = xs.length := by rw [← Array.length_toList, hlist, List.length_map]
    have hval : ∀ j : Nat, j < xs.length → scr.slots[j]? = some (.int (xs.getD j 0)) := fun j hj => by
      rw [← Array.getElem?_toList, hlist]
      simp [hj]
    have hbl : b < s.heap.size := (Array.getElem?_eq_some_iff.mp hcb).1
    have hX : va_X b xs.length (fun j => xs.getD j 0) s s.heap := ⟨scr, hcb, hof, hkn, hsz, hval⟩
    have K : W p l e room_1 s m #[Value.ref b] below meth c s₁.heap [] 0 0 (lw_Z below #[Value.ref b] s) (entryFrame m ([Value.ref b] : List Value).toArray 7) := by
      rw [hh0]
      exact whole_start l hflags hbd ⟨B.exec, B.bytes, B.returns, hml, hown, hts, hX, hbl, B.notSynchronized, hgv⟩
    obtain ⟨t, a1, o, b1, b2, b3⟩ := K s₁ rfl X₀
    exact ⟨t, o, a1, b1, b2, b3⟩
theorem lw_pre_spec {args : Array Value} {s : State} (h : (Jvm.Cond.and given_1 narrow_1).before args s = true) (hr : rest_1_c.before args s = true) : ∃ (b : Addr) (xs : List Int32), lw_P b xs args s := by
  have hs := flat_of_before _ h
  have hq := flat_of_before _ hr
  have hc : (Cond.count 1).before args s = true := hs _ (by decide +kernel)
  have harr : (Cond.arrayOf (.arg 0) .int).before args s = true := hs _ (by decide +kernel)
  have hle : (Cond.le (.length (.arg 0)) (.int 3072)).before args s = true := hs _ (by decide +kernel)
  have hlen : (Cond.isInt (.length (.arg 0))).before args s = true := hq _ (by decide +kernel)
  have hall : (Cond.all (.arg 0) (.isInt (.elem (.arg 0) (.index 0)))).before args s = true := hq _ (by decide +kernel)
  obtain ⟨b, xs, hb, hx⟩ := State.ints_of_pre rfl harr hlen hall
  have hsm : xs.length < 2 ^ 31 := hx.choose_spec.2.2.2
  have hev : (Term.length (.arg 0)).eval args s none [] s = some (.int xs.length.toInt32) := hx.length_eval hb
  have hv := Cond.le_ints hev (show (Term.int 3072).eval args s none [] s = some (.int 3072) from rfl)
  have hd : xs.length.toInt32 ≤ 3072 := by
    simpa [Cond.before, Cond.holds, hv] using hle
  have hN : xs.length ≤ 3072 := (Int32.ofNat_le_ofNat hsm (by decide)).mp (show Int32.ofNat xs.length ≤ Int32.ofNat 3072 from hd)
  exact ⟨b, xs, Cond.one_arg hc (show args[0]? = some (.ref b) from hb), hx, hN, h⟩
theorem lw_comes (l : Launch) (hflags : l.flags = flags0) : Comes l x (Jvm.Cond.code x code maxLocals ret :: tables_1) room_1 (fun tb e args s => Calls_1 tb e args s ∧ rest_1 tb e args s ∧ Pre_1 tb e args s)
    (fun _ _ args s o t => lw_Q args s o t) := by
  intro p e ha hc hk s m args below hf hfit hheap happ hpre
  obtain ⟨b, xs, hP⟩ := lw_pre_spec hpre.2.2 hpre.2.1
  obtain ⟨k, o, h1, h2, h3, hQ⟩ := lw_walk l hflags b xs p e ha hc hk s m args below hf ((Spec.applies_iff_loose hf).mp happ).1 hP trivial
  exact ⟨k, o, h1, h2, h3, hQ⟩
theorem lw_frame {s t : State} {o : Outcome} {args : Array Value} (h : Framed s o t [] 601024 7293034) :
    Framed s o t (fieldLocs frame_1_writes args s ++ arrayLocs frame_1_arrays args s ++ staticLocs frame_1_statics s) 601024 7293034 := h
theorem lw_limb (L : Cond) (hL : ∀ (args : Array Value) (s t : State), L.after args s (.returned (some (.int 1))) t = true) :
    ArmFor flags0 classFile x code maxLocals ret World_1 tables_1 room_1 Calls_1 rest_1 Pre_1
      (fun tb e a s o t => postC L tb e a s o t ∧ Framed s o t (fieldLocs frame_1_writes a s ++ arrayLocs frame_1_arrays a s ++ staticLocs frame_1_statics s) 601024 7293034) := by
  intro l hflags _ _ p e ha hc hk s m args below hf hfit hheap happ hpre
  obtain ⟨k, o, h1, h2, h3, rfl, hF⟩ := lw_comes l hflags p e ha hc hk s m args below hf hfit hheap happ hpre
  exact ⟨k, _, h1, h2, h3, hL args s _, lw_frame hF⟩
theorem i_vc : Claimed_1_1 ∧ Claimed_1_2 := ⟨lw_limb limb_1_1 (fun args s t => by simp [limb_1_1, Cond.after, Cond.holds, Cond.value]), lw_limb limb_1_2 (fun args s t => Cond.after_iff.mpr (by
  first | (rw [show limb_1_2 = Cond.eq .result (.int 1) from rfl, Cond.eq_ints (x := 1) (y := 1) rfl rfl]; simp; done) | (simp [limb_1_2, Cond.value, Term.eval]; done)))⟩
