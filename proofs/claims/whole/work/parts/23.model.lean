/-! an equation an instruction -/
section
variable {d a b : Nat} {v : Value} {v0 v1 v2 v3 v4 v5 v6 v7 v8 v9 v10 v11 : Option Value} {x y w i0 i1 i2 i3 i4 i5 : Int32} {u t : Int64} {ls : kv_L} {st : List Value} {e : List kv_E} {z : Nat → Nat → Int32} {zl : Nat → Nat → Int64} {h : kv_H}
/- 269: KiteVoteModel.back ()I -/
theorem kv_e269_0 : kv_Rn d 269 0 (some (.ref a) :: ls) st h = kv_Rn d 269 1 (some (.ref a) :: ls) (.ref a :: st) h := kv_go_of kv_q269 (show decode prog_14_method_121_code 0 = .ok (.aload_n 0, 1) from by decide +kernel) rfl
theorem kv_e269_1 : kv_Rn d 269 1 ls (.ref 0 :: st) (kv_m z zl) = kv_Rn d 269 4 ls (.int (z 0 42) :: st) (kv_m z zl) := kv_gi kv_q269 (show decode prog_14_method_121_code 1 = .ok (.getfield 269, 3) from by decide +kernel) kv_lf12_269 (by decide) rfl rfl kv_ty12_42
theorem kv_e269_4 : kv_Rn d 269 4 ls (.int x :: st) h = if ¬ x = 0 then kv_Rn d 269 9 ls st h else kv_Rn d 269 7 ls st h := kv_if_of kv_q269 (show decode prog_14_method_121_code 4 = .ok (.ifCond .ne 5, 3) from by decide +kernel) (show kv_tg 4 5 (fun t => if ¬ x = 0 then kv_go t ls st h else kv_go 7 ls st h) = _ from kv_tg_of (t := 9) (by decide))
theorem kv_e269_7 : kv_Rn d 269 7 ls st h = kv_Rn d 269 8 ls (.int (-1) :: st) h := kv_go_of kv_q269 (show decode prog_14_method_121_code 7 = .ok (.iconst (-1), 1) from by decide +kernel) rfl
theorem kv_e269_8 : kv_Rn d 269 8 ls [.int x] h = some (some (.int x), h) := kv_re_of kv_q269 (show decode prog_14_method_121_code 8 = .ok (.ireturn, 1) from by decide +kernel) (if_pos rfl)
theorem kv_e269_9 : kv_Rn d 269 9 ls st h = kv_Rn d 269 10 ls (.int 0 :: st) h := kv_go_of kv_q269 (show decode prog_14_method_121_code 9 = .ok (.iconst 0, 1) from by decide +kernel) rfl
theorem kv_e269_10 (hc : kv_c2 v0 = false) : kv_Rn d 269 10 (v0 :: v1 :: ls) (.int x :: st) h = kv_Rn d 269 11 (v0 :: some (.int x) :: ls) st h := kv_go_of kv_q269 (show decode prog_14_method_121_code 10 = .ok (.istore_n 1, 1) from by decide +kernel) (show kv_st (v0 :: v1 :: ls) 1 (.int x) (fun ls => kv_go 11 ls st h) = _ from if_pos ⟨by simp only [List.length_cons]; omega, hc⟩)
theorem kv_e269_11 : kv_Rn d 269 11 (v0 :: some (.int x) :: ls) st h = kv_Rn d 269 12 (v0 :: some (.int x) :: ls) (.int x :: st) h := kv_go_of kv_q269 (show decode prog_14_method_121_code 11 = .ok (.iload_n 1, 1) from by decide +kernel) rfl
theorem kv_e269_12 : kv_Rn d 269 12 ls st h = kv_Rn d 269 15 ls (.int 147 :: st) h := kv_go_of kv_q269 (show decode prog_14_method_121_code 12 = .ok (.sipush 147, 3) from by decide +kernel) rfl
theorem kv_e269_15 : kv_Rn d 269 15 ls (.int y :: .int x :: st) h = if y ≤ x then kv_Rn d 269 36 ls st h else kv_Rn d 269 18 ls st h := kv_if_of kv_q269 (show decode prog_14_method_121_code 15 = .ok (.if_icmp .ge 21, 3) from by decide +kernel) (show kv_tg 15 21 (fun t => if y ≤ x then kv_go t ls st h else kv_go 18 ls st h) = _ from kv_tg_of (t := 36) (by decide))
theorem kv_e269_18 : kv_Rn d 269 18 (some (.ref a) :: ls) st h = kv_Rn d 269 19 (some (.ref a) :: ls) (.ref a :: st) h := kv_go_of kv_q269 (show decode prog_14_method_121_code 18 = .ok (.aload_n 0, 1) from by decide +kernel) rfl
theorem kv_e269_19 : kv_Rn d 269 19 ls (.ref 0 :: st) (kv_m z zl) = kv_Rn d 269 22 ls (.ref 16 :: st) (kv_m z zl) := kv_gr kv_q269 (show decode prog_14_method_121_code 19 = .ok (.getfield 55, 3) from by decide +kernel) kv_lf12_55 (by decide) rfl rfl
theorem kv_e269_22 : kv_Rn d 269 22 (v0 :: some (.int x) :: ls) st h = kv_Rn d 269 23 (v0 :: some (.int x) :: ls) (.int x :: st) h := kv_go_of kv_q269 (show decode prog_14_method_121_code 22 = .ok (.iload_n 1, 1) from by decide +kernel) rfl
theorem kv_e269_23 : kv_Rn d 269 23 (some (.ref a) :: ls) st h = kv_Rn d 269 24 (some (.ref a) :: ls) (.ref a :: st) h := kv_go_of kv_q269 (show decode prog_14_method_121_code 23 = .ok (.aload_n 0, 1) from by decide +kernel) rfl
theorem kv_e269_24 : kv_Rn d 269 24 ls (.ref 0 :: st) (kv_m z zl) = kv_Rn d 269 27 ls (.ref 25 :: st) (kv_m z zl) := kv_gr kv_q269 (show decode prog_14_method_121_code 24 = .ok (.getfield 89, 3) from by decide +kernel) kv_lf12_89 (by decide) rfl rfl
theorem kv_e269_27 : kv_Rn d 269 27 (v0 :: some (.int x) :: ls) st h = kv_Rn d 269 28 (v0 :: some (.int x) :: ls) (.int x :: st) h := kv_go_of kv_q269 (show decode prog_14_method_121_code 27 = .ok (.iload_n 1, 1) from by decide +kernel) rfl
theorem kv_e269_28 : kv_Rn d 269 28 ls (.int x :: .ref a :: st) (kv_m z zl) = if x < 0 ∨ kv_ar kv_shM a ≤ x.toNatClampNeg then none else kv_Rn d 269 29 ls (.int (kv_rd z a x.toNatClampNeg) :: st) (kv_m z zl) := kv_al kv_q269 (show decode prog_14_method_121_code 28 = .ok (.iaload, 1) from by decide +kernel)
theorem kv_e269_29 : kv_Rn d 269 29 ls (.int y :: .int x :: .ref a :: st) (kv_m z zl) = if x < 0 ∨ kv_aw kv_shM a ≤ x.toNatClampNeg then none else kv_Rn d 269 30 ls st (kv_m (kv_z z a (upd (z a) x.toNatClampNeg y)) zl) := kv_as kv_q269 (show decode prog_14_method_121_code 29 = .ok (.iastore, 1) from by decide +kernel)
theorem kv_e269_30 (hc : kv_c2 v0 = false) : kv_Rn d 269 30 (v0 :: some (.int x) :: ls) st h = kv_Rn d 269 33 (v0 :: some (.int (x + 1)) :: ls) st h := kv_go_of kv_q269 (show decode prog_14_method_121_code 30 = .ok (.iinc 1 1, 3) from by decide +kernel) (show kv_st (v0 :: some (.int x) :: ls) 1 (.int (x + 1)) (fun ls => kv_go 33 ls st h) = _ from if_pos ⟨by simp only [List.length_cons]; omega, hc⟩)
theorem kv_e269_33 : kv_Rn d 269 33 ls st h = kv_Rn d 269 11 ls st h := kv_go_of kv_q269 (show decode prog_14_method_121_code 33 = .ok (.goto (-22), 3) from by decide +kernel) (show kv_tg 33 (-22) (fun t => kv_go t ls st h) = _ from kv_tg_of (t := 11) (by decide))
theorem kv_e269_36 : kv_Rn d 269 36 (some (.ref a) :: ls) st h = kv_Rn d 269 37 (some (.ref a) :: ls) (.ref a :: st) h := kv_go_of kv_q269 (show decode prog_14_method_121_code 36 = .ok (.aload_n 0, 1) from by decide +kernel) rfl
theorem kv_e269_37 : kv_Rn d 269 37 ls st h = kv_Rn d 269 38 ls (.int 0 :: st) h := kv_go_of kv_q269 (show decode prog_14_method_121_code 37 = .ok (.iconst 0, 1) from by decide +kernel) rfl
theorem kv_e269_38 : kv_Rn d 269 38 ls (.int x :: .ref 0 :: st) (kv_m z zl) = kv_Rn d 269 41 ls st (kv_m (kv_z z 0 (upd (z 0) 33 x)) zl) := kv_pi kv_q269 (show decode prog_14_method_121_code 38 = .ok (.putfield 266, 3) from by decide +kernel) kv_lf12_266 (by decide) rfl rfl (kv_tp12_33 x)
theorem kv_e269_41 : kv_Rn d 269 41 (some (.ref a) :: ls) st h = kv_Rn d 269 42 (some (.ref a) :: ls) (.ref a :: st) h := kv_go_of kv_q269 (show decode prog_14_method_121_code 41 = .ok (.aload_n 0, 1) from by decide +kernel) rfl
theorem kv_e269_42 : kv_Rn d 269 42 ls (.ref 0 :: st) (kv_m z zl) = kv_Rn d 269 45 ls (.ref 16 :: st) (kv_m z zl) := kv_gr kv_q269 (show decode prog_14_method_121_code 42 = .ok (.getfield 55, 3) from by decide +kernel) kv_lf12_55 (by decide) rfl rfl
theorem kv_e269_45 : kv_Rn d 269 45 ls st h = kv_Rn d 269 47 ls (.int 104 :: st) h := kv_go_of kv_q269 (show decode prog_14_method_121_code 45 = .ok (.bipush 104, 2) from by decide +kernel) rfl
theorem kv_e269_47 : kv_Rn d 269 47 ls (.int x :: .ref a :: st) (kv_m z zl) = if x < 0 ∨ kv_ar kv_shM a ≤ x.toNatClampNeg then none else kv_Rn d 269 48 ls (.int (kv_rd z a x.toNatClampNeg) :: st) (kv_m z zl) := kv_al kv_q269 (show decode prog_14_method_121_code 47 = .ok (.iaload, 1) from by decide +kernel)
theorem kv_e269_48 : kv_Rn d 269 48 ls [.int x] h = some (some (.int x), h) := kv_re_of kv_q269 (show decode prog_14_method_121_code 48 = .ok (.ireturn, 1) from by decide +kernel) (if_pos rfl)
/- 270: KiteVoteModel.count (I)I -/
theorem kv_e270_0 : kv_Rn d 270 0 (v0 :: some (.int x) :: ls) st h = kv_Rn d 270 1 (v0 :: some (.int x) :: ls) (.int x :: st) h := kv_go_of kv_q270 (show decode prog_14_method_122_code 0 = .ok (.iload_n 1, 1) from by decide +kernel) rfl
theorem kv_e270_1 : kv_Rn d 270 1 ls (.int x :: st) h = if x = 0 then kv_Rn d 270 68 ls st h else if x = 1 then kv_Rn d 270 73 ls st h else if x = 2 then kv_Rn d 270 81 ls st h else if x = 3 then kv_Rn d 270 86 ls st h else if x = 4 then kv_Rn d 270 91 ls st h else if x = 5 then kv_Rn d 270 96 ls st h else if x = 6 then kv_Rn d 270 101 ls st h else if x = 7 then kv_Rn d 270 106 ls st h else if x = 8 then kv_Rn d 270 114 ls st h else if x = 9 then kv_Rn d 270 119 ls st h else if x = 10 then kv_Rn d 270 127 ls st h else if x = 11 then kv_Rn d 270 135 ls st h else if x = 12 then kv_Rn d 270 140 ls st h else kv_Rn d 270 145 ls st h := by
  by_cases h0 : x = 0
  · subst h0; rw [if_pos rfl]; exact kv_go_of kv_q270 (show decode prog_14_method_122_code 1 = .ok (.tableswitch 144 0 12 #[67, 72, 80, 85, 90, 95, 100, 105, 113, 118, 126, 134, 139], 67) from by decide +kernel) (show kv_tg 1 67 (fun t => kv_go t ls st h) = _ from kv_tg_of (t := 68) (by decide))
  rw [if_neg h0]
  by_cases h1 : x = 1
  · subst h1; rw [if_pos rfl]; exact kv_go_of kv_q270 (show decode prog_14_method_122_code 1 = .ok (.tableswitch 144 0 12 #[67, 72, 80, 85, 90, 95, 100, 105, 113, 118, 126, 134, 139], 67) from by decide +kernel) (show kv_tg 1 72 (fun t => kv_go t ls st h) = _ from kv_tg_of (t := 73) (by decide))
  rw [if_neg h1]
  by_cases h2 : x = 2
  · subst h2; rw [if_pos rfl]; exact kv_go_of kv_q270 (show decode prog_14_method_122_code 1 = .ok (.tableswitch 144 0 12 #[67, 72, 80, 85, 90, 95, 100, 105, 113, 118, 126, 134, 139], 67) from by decide +kernel) (show kv_tg 1 80 (fun t => kv_go t ls st h) = _ from kv_tg_of (t := 81) (by decide))
  rw [if_neg h2]
  by_cases h3 : x = 3
  · subst h3; rw [if_pos rfl]; exact kv_go_of kv_q270 (show decode prog_14_method_122_code 1 = .ok (.tableswitch 144 0 12 #[67, 72, 80, 85, 90, 95, 100, 105, 113, 118, 126, 134, 139], 67) from by decide +kernel) (show kv_tg 1 85 (fun t => kv_go t ls st h) = _ from kv_tg_of (t := 86) (by decide))
  rw [if_neg h3]
  by_cases h4 : x = 4
  · subst h4; rw [if_pos rfl]; exact kv_go_of kv_q270 (show decode prog_14_method_122_code 1 = .ok (.tableswitch 144 0 12 #[67, 72, 80, 85, 90, 95, 100, 105, 113, 118, 126, 134, 139], 67) from by decide +kernel) (show kv_tg 1 90 (fun t => kv_go t ls st h) = _ from kv_tg_of (t := 91) (by decide))
  rw [if_neg h4]
  by_cases h5 : x = 5
  · subst h5; rw [if_pos rfl]; exact kv_go_of kv_q270 (show decode prog_14_method_122_code 1 = .ok (.tableswitch 144 0 12 #[67, 72, 80, 85, 90, 95, 100, 105, 113, 118, 126, 134, 139], 67) from by decide +kernel) (show kv_tg 1 95 (fun t => kv_go t ls st h) = _ from kv_tg_of (t := 96) (by decide))
  rw [if_neg h5]
  by_cases h6 : x = 6
  · subst h6; rw [if_pos rfl]; exact kv_go_of kv_q270 (show decode prog_14_method_122_code 1 = .ok (.tableswitch 144 0 12 #[67, 72, 80, 85, 90, 95, 100, 105, 113, 118, 126, 134, 139], 67) from by decide +kernel) (show kv_tg 1 100 (fun t => kv_go t ls st h) = _ from kv_tg_of (t := 101) (by decide))
  rw [if_neg h6]
  by_cases h7 : x = 7
  · subst h7; rw [if_pos rfl]; exact kv_go_of kv_q270 (show decode prog_14_method_122_code 1 = .ok (.tableswitch 144 0 12 #[67, 72, 80, 85, 90, 95, 100, 105, 113, 118, 126, 134, 139], 67) from by decide +kernel) (show kv_tg 1 105 (fun t => kv_go t ls st h) = _ from kv_tg_of (t := 106) (by decide))
  rw [if_neg h7]
  by_cases h8 : x = 8
  · subst h8; rw [if_pos rfl]; exact kv_go_of kv_q270 (show decode prog_14_method_122_code 1 = .ok (.tableswitch 144 0 12 #[67, 72, 80, 85, 90, 95, 100, 105, 113, 118, 126, 134, 139], 67) from by decide +kernel) (show kv_tg 1 113 (fun t => kv_go t ls st h) = _ from kv_tg_of (t := 114) (by decide))
  rw [if_neg h8]
  by_cases h9 : x = 9
  · subst h9; rw [if_pos rfl]; exact kv_go_of kv_q270 (show decode prog_14_method_122_code 1 = .ok (.tableswitch 144 0 12 #[67, 72, 80, 85, 90, 95, 100, 105, 113, 118, 126, 134, 139], 67) from by decide +kernel) (show kv_tg 1 118 (fun t => kv_go t ls st h) = _ from kv_tg_of (t := 119) (by decide))
  rw [if_neg h9]
  by_cases h10 : x = 10
  · subst h10; rw [if_pos rfl]; exact kv_go_of kv_q270 (show decode prog_14_method_122_code 1 = .ok (.tableswitch 144 0 12 #[67, 72, 80, 85, 90, 95, 100, 105, 113, 118, 126, 134, 139], 67) from by decide +kernel) (show kv_tg 1 126 (fun t => kv_go t ls st h) = _ from kv_tg_of (t := 127) (by decide))
  rw [if_neg h10]
  by_cases h11 : x = 11
  · subst h11; rw [if_pos rfl]; exact kv_go_of kv_q270 (show decode prog_14_method_122_code 1 = .ok (.tableswitch 144 0 12 #[67, 72, 80, 85, 90, 95, 100, 105, 113, 118, 126, 134, 139], 67) from by decide +kernel) (show kv_tg 1 134 (fun t => kv_go t ls st h) = _ from kv_tg_of (t := 135) (by decide))
  rw [if_neg h11]
  by_cases h12 : x = 12
  · subst h12; rw [if_pos rfl]; exact kv_go_of kv_q270 (show decode prog_14_method_122_code 1 = .ok (.tableswitch 144 0 12 #[67, 72, 80, 85, 90, 95, 100, 105, 113, 118, 126, 134, 139], 67) from by decide +kernel) (show kv_tg 1 139 (fun t => kv_go t ls st h) = _ from kv_tg_of (t := 140) (by decide))
  rw [if_neg h12]
  refine kv_go_of kv_q270 (show decode prog_14_method_122_code 1 = .ok (.tableswitch 144 0 12 #[67, 72, 80, 85, 90, 95, 100, 105, 113, 118, 126, 134, 139], 67) from by decide +kernel) ((if_pos ?_).trans (show kv_tg 1 144 (fun t => kv_go t ls st h) = _ from kv_tg_of (t := 145) (by decide)))
  rw [← Int32.toInt_inj] at h0
  rw [← Int32.toInt_inj] at h1
  rw [← Int32.toInt_inj] at h2
  rw [← Int32.toInt_inj] at h3
  rw [← Int32.toInt_inj] at h4
  rw [← Int32.toInt_inj] at h5
  rw [← Int32.toInt_inj] at h6
  rw [← Int32.toInt_inj] at h7
  rw [← Int32.toInt_inj] at h8
  rw [← Int32.toInt_inj] at h9
  rw [← Int32.toInt_inj] at h10
  rw [← Int32.toInt_inj] at h11
  rw [← Int32.toInt_inj] at h12
  simp only [show Int32.toInt 0 = 0 from rfl, show Int32.toInt 1 = 1 from rfl, show Int32.toInt 2 = 2 from rfl, show Int32.toInt 3 = 3 from rfl, show Int32.toInt 4 = 4 from rfl, show Int32.toInt 5 = 5 from rfl, show Int32.toInt 6 = 6 from rfl, show Int32.toInt 7 = 7 from rfl, show Int32.toInt 8 = 8 from rfl, show Int32.toInt 9 = 9 from rfl, show Int32.toInt 10 = 10 from rfl, show Int32.toInt 11 = 11 from rfl, show Int32.toInt 12 = 12 from rfl] at h0 h1 h2 h3 h4 h5 h6 h7 h8 h9 h10 h11 h12
  omega
theorem kv_e270_68 : kv_Rn d 270 68 (some (.ref a) :: ls) st h = kv_Rn d 270 69 (some (.ref a) :: ls) (.ref a :: st) h := kv_go_of kv_q270 (show decode prog_14_method_122_code 68 = .ok (.aload_n 0, 1) from by decide +kernel) rfl
theorem kv_e270_69 : kv_Rn d 270 69 ls (.ref 0 :: st) (kv_m z zl) = kv_Rn d 270 72 ls (.int (z 0 24) :: st) (kv_m z zl) := kv_gi kv_q270 (show decode prog_14_method_122_code 69 = .ok (.getfield 251, 3) from by decide +kernel) kv_lf12_251 (by decide) rfl rfl kv_ty12_24
theorem kv_e270_72 : kv_Rn d 270 72 ls [.int x] h = some (some (.int x), h) := kv_re_of kv_q270 (show decode prog_14_method_122_code 72 = .ok (.ireturn, 1) from by decide +kernel) (if_pos rfl)
theorem kv_e270_73 : kv_Rn d 270 73 (some (.ref a) :: ls) st h = kv_Rn d 270 74 (some (.ref a) :: ls) (.ref a :: st) h := kv_go_of kv_q270 (show decode prog_14_method_122_code 73 = .ok (.aload_n 0, 1) from by decide +kernel) rfl
theorem kv_e270_74  (hc : kv_cat st ≤ 8) : kv_Rn (d + 1) 270 74 ls (.ref 0 :: st) (kv_m z zl) = kv_then (kv_Rn d 198 0 [some (.ref 0), none, none] [] (kv_m z zl)) (fun r h => kv_Rn (d + 1) 270 77 ls (r ++ st) h) := kv_cv kv_q270 (show decode prog_14_method_122_code 74 = .ok (.invokevirtual 390, 3) from by decide +kernel) kv_lm12_390 kv_q198 rfl (by simp only [List.length_cons]; omega) rfl rfl (Nat.le_of_ble_eq_true rfl) rfl rfl hc kv_is12
theorem kv_e270_77  (hc : kv_cat st ≤ 8) : kv_Rn (d + 1) 270 77 ls (.int i0 :: st) h = kv_then (kv_Rn d 272 0 [some (.int i0)] [] h) (fun r h => kv_Rn (d + 1) 270 80 ls (r ++ st) h) := kv_cs kv_q270 (show decode prog_14_method_122_code 77 = .ok (.invokestatic 396, 3) from by decide +kernel) kv_lm12_396 kv_q272 rfl (by simp only [List.length_cons]; omega) rfl rfl (Nat.le_of_ble_eq_true rfl) rfl rfl hc
theorem kv_e270_80 : kv_Rn d 270 80 ls [.int x] h = some (some (.int x), h) := kv_re_of kv_q270 (show decode prog_14_method_122_code 80 = .ok (.ireturn, 1) from by decide +kernel) (if_pos rfl)
theorem kv_e270_81 : kv_Rn d 270 81 (some (.ref a) :: ls) st h = kv_Rn d 270 82 (some (.ref a) :: ls) (.ref a :: st) h := kv_go_of kv_q270 (show decode prog_14_method_122_code 81 = .ok (.aload_n 0, 1) from by decide +kernel) rfl
theorem kv_e270_82 : kv_Rn d 270 82 ls (.ref 0 :: st) (kv_m z zl) = kv_Rn d 270 85 ls (.int (z 0 25) :: st) (kv_m z zl) := kv_gi kv_q270 (show decode prog_14_method_122_code 82 = .ok (.getfield 254, 3) from by decide +kernel) kv_lf12_254 (by decide) rfl rfl kv_ty12_25
theorem kv_e270_85 : kv_Rn d 270 85 ls [.int x] h = some (some (.int x), h) := kv_re_of kv_q270 (show decode prog_14_method_122_code 85 = .ok (.ireturn, 1) from by decide +kernel) (if_pos rfl)
theorem kv_e270_86 : kv_Rn d 270 86 (some (.ref a) :: ls) st h = kv_Rn d 270 87 (some (.ref a) :: ls) (.ref a :: st) h := kv_go_of kv_q270 (show decode prog_14_method_122_code 86 = .ok (.aload_n 0, 1) from by decide +kernel) rfl
theorem kv_e270_87 : kv_Rn d 270 87 ls (.ref 0 :: st) (kv_m z zl) = kv_Rn d 270 90 ls (.int (z 0 13) :: st) (kv_m z zl) := kv_gi kv_q270 (show decode prog_14_method_122_code 87 = .ok (.getfield 276, 3) from by decide +kernel) kv_lf12_276 (by decide) rfl rfl kv_ty12_13
theorem kv_e270_90 : kv_Rn d 270 90 ls [.int x] h = some (some (.int x), h) := kv_re_of kv_q270 (show decode prog_14_method_122_code 90 = .ok (.ireturn, 1) from by decide +kernel) (if_pos rfl)
theorem kv_e270_91 : kv_Rn d 270 91 (some (.ref a) :: ls) st h = kv_Rn d 270 92 (some (.ref a) :: ls) (.ref a :: st) h := kv_go_of kv_q270 (show decode prog_14_method_122_code 91 = .ok (.aload_n 0, 1) from by decide +kernel) rfl
theorem kv_e270_92 : kv_Rn d 270 92 ls (.ref 0 :: st) (kv_m z zl) = kv_Rn d 270 95 ls (.int (z 0 2) :: st) (kv_m z zl) := kv_gi kv_q270 (show decode prog_14_method_122_code 92 = .ok (.getfield 99, 3) from by decide +kernel) kv_lf12_99 (by decide) rfl rfl kv_ty12_2
theorem kv_e270_95 : kv_Rn d 270 95 ls [.int x] h = some (some (.int x), h) := kv_re_of kv_q270 (show decode prog_14_method_122_code 95 = .ok (.ireturn, 1) from by decide +kernel) (if_pos rfl)
theorem kv_e270_96 : kv_Rn d 270 96 (some (.ref a) :: ls) st h = kv_Rn d 270 97 (some (.ref a) :: ls) (.ref a :: st) h := kv_go_of kv_q270 (show decode prog_14_method_122_code 96 = .ok (.aload_n 0, 1) from by decide +kernel) rfl
theorem kv_e270_97 : kv_Rn d 270 97 ls (.ref 0 :: st) (kv_m z zl) = kv_Rn d 270 100 ls (.int (z 0 27) :: st) (kv_m z zl) := kv_gi kv_q270 (show decode prog_14_method_122_code 97 = .ok (.getfield 58, 3) from by decide +kernel) kv_lf12_58 (by decide) rfl rfl kv_ty12_27
theorem kv_e270_100 : kv_Rn d 270 100 ls [.int x] h = some (some (.int x), h) := kv_re_of kv_q270 (show decode prog_14_method_122_code 100 = .ok (.ireturn, 1) from by decide +kernel) (if_pos rfl)
theorem kv_e270_101 : kv_Rn d 270 101 (some (.ref a) :: ls) st h = kv_Rn d 270 102 (some (.ref a) :: ls) (.ref a :: st) h := kv_go_of kv_q270 (show decode prog_14_method_122_code 101 = .ok (.aload_n 0, 1) from by decide +kernel) rfl
theorem kv_e270_102 : kv_Rn d 270 102 ls (.ref 0 :: st) (kv_m z zl) = kv_Rn d 270 105 ls (.int (z 0 28) :: st) (kv_m z zl) := kv_gi kv_q270 (show decode prog_14_method_122_code 102 = .ok (.getfield 62, 3) from by decide +kernel) kv_lf12_62 (by decide) rfl rfl kv_ty12_28
theorem kv_e270_105 : kv_Rn d 270 105 ls [.int x] h = some (some (.int x), h) := kv_re_of kv_q270 (show decode prog_14_method_122_code 105 = .ok (.ireturn, 1) from by decide +kernel) (if_pos rfl)
theorem kv_e270_106 : kv_Rn d 270 106 (some (.ref a) :: ls) st h = kv_Rn d 270 107 (some (.ref a) :: ls) (.ref a :: st) h := kv_go_of kv_q270 (show decode prog_14_method_122_code 106 = .ok (.aload_n 0, 1) from by decide +kernel) rfl
theorem kv_e270_107 : kv_Rn d 270 107 ls (.ref 0 :: st) (kv_m z zl) = kv_Rn d 270 110 ls (.ref 16 :: st) (kv_m z zl) := kv_gr kv_q270 (show decode prog_14_method_122_code 107 = .ok (.getfield 55, 3) from by decide +kernel) kv_lf12_55 (by decide) rfl rfl
theorem kv_e270_110 : kv_Rn d 270 110 ls st h = kv_Rn d 270 112 ls (.int 104 :: st) h := kv_go_of kv_q270 (show decode prog_14_method_122_code 110 = .ok (.bipush 104, 2) from by decide +kernel) rfl
theorem kv_e270_112 : kv_Rn d 270 112 ls (.int x :: .ref a :: st) (kv_m z zl) = if x < 0 ∨ kv_ar kv_shM a ≤ x.toNatClampNeg then none else kv_Rn d 270 113 ls (.int (kv_rd z a x.toNatClampNeg) :: st) (kv_m z zl) := kv_al kv_q270 (show decode prog_14_method_122_code 112 = .ok (.iaload, 1) from by decide +kernel)
theorem kv_e270_113 : kv_Rn d 270 113 ls [.int x] h = some (some (.int x), h) := kv_re_of kv_q270 (show decode prog_14_method_122_code 113 = .ok (.ireturn, 1) from by decide +kernel) (if_pos rfl)
theorem kv_e270_114 : kv_Rn d 270 114 (some (.ref a) :: ls) st h = kv_Rn d 270 115 (some (.ref a) :: ls) (.ref a :: st) h := kv_go_of kv_q270 (show decode prog_14_method_122_code 114 = .ok (.aload_n 0, 1) from by decide +kernel) rfl
theorem kv_e270_115 : kv_Rn d 270 115 ls (.ref 0 :: st) (kv_m z zl) = kv_Rn d 270 118 ls (.int (z 0 29) :: st) (kv_m z zl) := kv_gi kv_q270 (show decode prog_14_method_122_code 115 = .ok (.getfield 347, 3) from by decide +kernel) kv_lf12_347 (by decide) rfl rfl kv_ty12_29
theorem kv_e270_118 : kv_Rn d 270 118 ls [.int x] h = some (some (.int x), h) := kv_re_of kv_q270 (show decode prog_14_method_122_code 118 = .ok (.ireturn, 1) from by decide +kernel) (if_pos rfl)
theorem kv_e270_119 : kv_Rn d 270 119 (some (.ref a) :: ls) st h = kv_Rn d 270 120 (some (.ref a) :: ls) (.ref a :: st) h := kv_go_of kv_q270 (show decode prog_14_method_122_code 119 = .ok (.aload_n 0, 1) from by decide +kernel) rfl
theorem kv_e270_120 : kv_Rn d 270 120 ls (.ref 0 :: st) (kv_m z zl) = kv_Rn d 270 123 ls (.ref 16 :: st) (kv_m z zl) := kv_gr kv_q270 (show decode prog_14_method_122_code 120 = .ok (.getfield 55, 3) from by decide +kernel) kv_lf12_55 (by decide) rfl rfl
theorem kv_e270_123 : kv_Rn d 270 123 ls st h = kv_Rn d 270 125 ls (.int 105 :: st) h := kv_go_of kv_q270 (show decode prog_14_method_122_code 123 = .ok (.bipush 105, 2) from by decide +kernel) rfl
theorem kv_e270_125 : kv_Rn d 270 125 ls (.int x :: .ref a :: st) (kv_m z zl) = if x < 0 ∨ kv_ar kv_shM a ≤ x.toNatClampNeg then none else kv_Rn d 270 126 ls (.int (kv_rd z a x.toNatClampNeg) :: st) (kv_m z zl) := kv_al kv_q270 (show decode prog_14_method_122_code 125 = .ok (.iaload, 1) from by decide +kernel)
theorem kv_e270_126 : kv_Rn d 270 126 ls [.int x] h = some (some (.int x), h) := kv_re_of kv_q270 (show decode prog_14_method_122_code 126 = .ok (.ireturn, 1) from by decide +kernel) (if_pos rfl)
theorem kv_e270_127 : kv_Rn d 270 127 (some (.ref a) :: ls) st h = kv_Rn d 270 128 (some (.ref a) :: ls) (.ref a :: st) h := kv_go_of kv_q270 (show decode prog_14_method_122_code 127 = .ok (.aload_n 0, 1) from by decide +kernel) rfl
theorem kv_e270_128 : kv_Rn d 270 128 ls (.ref 0 :: st) (kv_m z zl) = kv_Rn d 270 131 ls (.ref 16 :: st) (kv_m z zl) := kv_gr kv_q270 (show decode prog_14_method_122_code 128 = .ok (.getfield 55, 3) from by decide +kernel) kv_lf12_55 (by decide) rfl rfl
theorem kv_e270_131 : kv_Rn d 270 131 ls st h = kv_Rn d 270 133 ls (.int 106 :: st) h := kv_go_of kv_q270 (show decode prog_14_method_122_code 131 = .ok (.bipush 106, 2) from by decide +kernel) rfl
theorem kv_e270_133 : kv_Rn d 270 133 ls (.int x :: .ref a :: st) (kv_m z zl) = if x < 0 ∨ kv_ar kv_shM a ≤ x.toNatClampNeg then none else kv_Rn d 270 134 ls (.int (kv_rd z a x.toNatClampNeg) :: st) (kv_m z zl) := kv_al kv_q270 (show decode prog_14_method_122_code 133 = .ok (.iaload, 1) from by decide +kernel)
theorem kv_e270_134 : kv_Rn d 270 134 ls [.int x] h = some (some (.int x), h) := kv_re_of kv_q270 (show decode prog_14_method_122_code 134 = .ok (.ireturn, 1) from by decide +kernel) (if_pos rfl)
theorem kv_e270_135 : kv_Rn d 270 135 (some (.ref a) :: ls) st h = kv_Rn d 270 136 (some (.ref a) :: ls) (.ref a :: st) h := kv_go_of kv_q270 (show decode prog_14_method_122_code 135 = .ok (.aload_n 0, 1) from by decide +kernel) rfl
theorem kv_e270_136 : kv_Rn d 270 136 ls (.ref 0 :: st) (kv_m z zl) = kv_Rn d 270 139 ls (.int (z 0 40) :: st) (kv_m z zl) := kv_gi kv_q270 (show decode prog_14_method_122_code 136 = .ok (.getfield 263, 3) from by decide +kernel) kv_lf12_263 (by decide) rfl rfl kv_ty12_40
theorem kv_e270_139 : kv_Rn d 270 139 ls [.int x] h = some (some (.int x), h) := kv_re_of kv_q270 (show decode prog_14_method_122_code 139 = .ok (.ireturn, 1) from by decide +kernel) (if_pos rfl)
theorem kv_e270_140 : kv_Rn d 270 140 (some (.ref a) :: ls) st h = kv_Rn d 270 141 (some (.ref a) :: ls) (.ref a :: st) h := kv_go_of kv_q270 (show decode prog_14_method_122_code 140 = .ok (.aload_n 0, 1) from by decide +kernel) rfl
theorem kv_e270_141 : kv_Rn d 270 141 ls (.ref 0 :: st) (kv_m z zl) = kv_Rn d 270 144 ls (.int (z 0 33) :: st) (kv_m z zl) := kv_gi kv_q270 (show decode prog_14_method_122_code 141 = .ok (.getfield 266, 3) from by decide +kernel) kv_lf12_266 (by decide) rfl rfl kv_ty12_33
theorem kv_e270_144 : kv_Rn d 270 144 ls [.int x] h = some (some (.int x), h) := kv_re_of kv_q270 (show decode prog_14_method_122_code 144 = .ok (.ireturn, 1) from by decide +kernel) (if_pos rfl)
theorem kv_e270_145 : kv_Rn d 270 145 ls st h = kv_Rn d 270 148 ls (.int (-1000000) :: st) h := kv_go_of kv_q270 (show decode prog_14_method_122_code 145 = .ok (.ldc_w 301, 3) from by decide +kernel) rfl
theorem kv_e270_148 : kv_Rn d 270 148 ls [.int x] h = some (some (.int x), h) := kv_re_of kv_q270 (show decode prog_14_method_122_code 148 = .ok (.ireturn, 1) from by decide +kernel) (if_pos rfl)
end
