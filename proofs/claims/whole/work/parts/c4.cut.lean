/-! the relation speaks of the constructors' cells alone -/
section
variable {n B W : Nat} {zK zM zK' zM' : Nat → Nat → Int32}
theorem kx_R_cut (h : kw_R n B W zK zM) (k : ∀ c, c < 172 → zK' c = zK c) (m : ∀ c, c < 26 → zM' c = zM c) : kw_R n B W zK' zM' := by
  obtain ⟨⟨hT, hA, hF, hL⟩, ⟨hN, hI, hC⟩, hE, hG⟩ := h
  have m0 : ∀ j, zM' 0 j = zM 0 j := fun j => by rw [m 0 (by omega)]
  exact ⟨⟨kw_RT_fr hT (k 1 (by omega)) (k 2 (by omega)) (m0 2) (m 1 (by omega)), kw_RA_fr hA (fun c a b => k c (by omega)) (m0 25) (m 15 (by omega)), kw_RF_fr hF (k 3 (by omega)) (m0 24) (m 14 (by omega)), kw_RL_fr hL (fun c a b => k c (by omega)) ⟨m0 13, m0 27, m0 28⟩ (fun c a b => m c (by omega))⟩, ⟨kw_RN_fr hN (fun c a b => k c (by omega)) (m 16 (by omega)), kw_RI_fr hI (by rw [k 0 (by omega)]) (fun c a b => k c (by omega)) (m0 42) (m 25 (by omega)), kw_RC_fr hC (fun c a b => k c (by omega)) (m0 33) (m 19 (by omega))⟩, kw_RE_fr hE (fun c a b => k c (by omega)) (m0 40) (fun c a b => m c (by omega)), kw_RG_fr hG (by rw [k 0 (by omega)]) (m0 29)⟩
end
