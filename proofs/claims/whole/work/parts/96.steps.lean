/-! what laws are worth: steps unpacked, steps worked -/
section
variable {d : Nat}
theorem kx_pv {k v : Nat} (hk : k < 16) (hv : v < 65536) : (kx_p2 (Int32.ofNat k) (Int32.ofNat v)).toBitVec.toNat = 65536 * k + v := by
  have e : (kx_p2 (Int32.ofNat k) (Int32.ofNat v)).toBitVec = (BitVec.ofNat 32 k <<< 16) ||| BitVec.ofNat 32 v := by
    unfold kx_p2
    rw [show ((16 : Int32) &&& 31) = 16 from by decide]
    rfl
  rw [e, BitVec.toNat_or, BitVec.toNat_shiftLeft, BitVec.toNat_ofNat, BitVec.toNat_ofNat, Nat.mod_eq_of_lt (show k < 2 ^ 32 by omega), Nat.mod_eq_of_lt (show v < 2 ^ 32 by omega), Nat.shiftLeft_eq, Nat.mod_eq_of_lt (show k * 2 ^ 16 < 2 ^ 32 by omega), ← Nat.shiftLeft_eq, ← Nat.shiftLeft_add_eq_or_of_lt (show v < 2 ^ 16 by omega), Nat.shiftLeft_eq]
  omega
theorem kx_uk {k v : Nat} (hk : k < 16) (hv : v < 65536) : kx_p2 (Int32.ofNat k) (Int32.ofNat v) >>> ((16 : Int32) &&& 31) = Int32.ofNat k := by
  have h := kx_pv hk hv
  apply Int32.toInt.inj
  rw [show ((16 : Int32) &&& 31) = 16 from by decide, Int32.toInt_ofNat_of_lt (by omega)]
  have e : (kx_p2 (Int32.ofNat k) (Int32.ofNat v) >>> (16 : Int32)).toInt = (BitVec.sshiftRight (kx_p2 (Int32.ofNat k) (Int32.ofNat v)).toBitVec 16).toInt := rfl
  rw [e, BitVec.toInt_sshiftRight, BitVec.toInt_eq_toNat_of_lt (by rw [h]; omega), h, Int.shiftRight_eq_div_pow]
  omega
theorem kx_uv {k v : Nat} (hk : k < 16) (hv : v < 65536) : kx_p2 (Int32.ofNat k) (Int32.ofNat v) &&& 65535 = Int32.ofNat v := by
  have h := kx_pv hk hv
  apply Int32.toInt.inj
  rw [Int32.toInt_ofNat_of_lt (by omega)]
  have h1 : (kx_p2 (Int32.ofNat k) (Int32.ofNat v) &&& 65535).toBitVec.toNat = (kx_p2 (Int32.ofNat k) (Int32.ofNat v)).toBitVec.toNat % 65536 := by
    show ((kx_p2 (Int32.ofNat k) (Int32.ofNat v)).toBitVec &&& 65535#32).toNat = _
    rw [BitVec.toNat_and]
    exact Nat.and_two_pow_sub_one_eq_mod _ 16
  show ((kx_p2 (Int32.ofNat k) (Int32.ofNat v) &&& 65535).toBitVec).toInt = _
  rw [BitVec.toInt_eq_toNat_of_lt (by rw [h1, h]; omega), h1, h]
  omega
theorem kx_bounded (v : Int64) {h : kv_H} : kv_Rn d 178 0 [some (.long v), none] [] h = some (some (.int (kw_bd v)), h) := by
  have e : (kv_lmx (-1000000) (kv_lmn 1000000 v)).toInt32 = kw_bd v := by
    unfold kv_lmx kv_lmn kw_bd
    by_cases c1 : v ≤ 1000000
    · rw [if_pos c1]
      by_cases c2 : -1000000 ≤ v
      · rw [if_pos c2]
        by_cases c3 : v < 1000000
        · rw [if_pos c3, if_neg (Int64.not_lt.mpr c2)]
        · have : v = 1000000 := Int64.le_antisymm c1 (Int64.not_lt.mp c3)
          rw [this]
          rfl
      · have c4 : v < -1000000 := Int64.not_le.mp c2
        have c3 : v < 1000000 := Int64.lt_of_lt_of_le c4 (by decide)
        rw [if_neg c2, if_pos c3, if_pos c4]
        rfl
    · rw [if_neg c1, if_neg (fun q => c1 (Int64.le_of_lt q))]
      rfl
  simp only [kv_e178_0, kv_e178_3, kv_e178_6, kv_e178_7, kv_e178_10, kv_e178_13, kv_e178_14, kv_o10, not_false_eq_true, not_true, if_true, if_false, kv_then_s, kv_then_v, kv_then_n, List.cons_append, List.nil_append, kv_Ci, kv_Cr, kv_Cn, kv_Cu, kv_C0, kv_catc, kv_gCi, kv_gCl, kv_gCr, kv_nb0, kv_nb1, kv_nbi, kv_nb01, Nat.reduceAdd, Nat.reduceLeDiff, e]
theorem kx_64 {x y : Int32} : (x.toInt64 = y.toInt64) = (x = y) := propext ⟨fun h => by rw [← Int32.toInt32_toInt64 x, h, Int32.toInt32_toInt64], fun h => by rw [h]⟩
theorem kx_640 {x : Int32} : (x.toInt64 = 0) = (x = 0) := kx_64 (y := 0)
theorem kx_w2 (x y : Int32) {h : kv_H} : kv_Rn (d + 1) 179 0 [some (.int 2), some (.long x.toInt64), none, some (.long y.toInt64), none] [] h = some (some (.int (kw_j 2 x y)), h) := by
  simp only [kv_e179_0, kv_e179_1, kv_e179_52, kv_e179_53, kv_e179_54, kv_e179_55, kv_e179_58, kv_e179_59, kv_e179_60, kv_e179_61, kv_e179_62, kv_e179_65, kv_e179_66, kv_e179_67, kv_e179_68, kv_e179_69, kv_e179_72, kv_e179_73, kv_e179_74, kv_e179_75, kv_e179_76, kv_e179_79, kv_e179_80, kv_e179_83, kv_e179_84, kv_e179_85, kv_e179_86, kv_e179_89, kv_e179_90, kv_e179_91, kv_e179_92, kv_e179_93, kv_e179_96, kv_e179_97, kv_e179_100, kv_e179_101, kv_e179_102, kv_e179_103, kv_e179_104, kv_e179_105, kv_e179_108, kv_e179_109, kv_e179_112, kv_e179_113, kv_e179_114, kv_e179_115, kv_e179_116, kv_e179_117, kv_e179_120, kv_e179_121, kv_e179_124, kv_e179_125, kv_e179_126, kv_e179_127, kv_e179_128, kv_e179_129, kv_e179_132, kv_e179_133, kv_e179_134, kv_e179_135, kv_e179_138, kv_e179_139, kv_e179_142, kv_e179_143, kv_e179_144, kv_e179_145, kv_e179_146, kv_e179_147, kv_e179_150, kv_e179_151, kv_e179_152, kv_e179_153, kv_e179_156, kv_e179_157, kv_e179_160, kv_e179_161, kv_o10, not_false_eq_true, not_true, if_true, if_false, kv_then_s, kv_then_v, kv_then_n, List.cons_append, List.nil_append, kv_Ci, kv_Cr, kv_Cn, kv_Cu, kv_C0, kv_catc, kv_gCi, kv_gCl, kv_gCr, kv_nb0, kv_nb1, kv_nbi, kv_nb01, Nat.reduceAdd, Nat.reduceLeDiff, kx_bounded]
  rfl
theorem kx_w3 (x y : Int32) {h : kv_H} : kv_Rn (d + 1) 179 0 [some (.int 3), some (.long x.toInt64), none, some (.long y.toInt64), none] [] h = some (some (.int (kw_j 3 x y)), h) := by
  simp only [kv_e179_0, kv_e179_1, kv_e179_52, kv_e179_53, kv_e179_54, kv_e179_55, kv_e179_58, kv_e179_59, kv_e179_60, kv_e179_61, kv_e179_62, kv_e179_65, kv_e179_66, kv_e179_67, kv_e179_68, kv_e179_69, kv_e179_72, kv_e179_73, kv_e179_74, kv_e179_75, kv_e179_76, kv_e179_79, kv_e179_80, kv_e179_83, kv_e179_84, kv_e179_85, kv_e179_86, kv_e179_89, kv_e179_90, kv_e179_91, kv_e179_92, kv_e179_93, kv_e179_96, kv_e179_97, kv_e179_100, kv_e179_101, kv_e179_102, kv_e179_103, kv_e179_104, kv_e179_105, kv_e179_108, kv_e179_109, kv_e179_112, kv_e179_113, kv_e179_114, kv_e179_115, kv_e179_116, kv_e179_117, kv_e179_120, kv_e179_121, kv_e179_124, kv_e179_125, kv_e179_126, kv_e179_127, kv_e179_128, kv_e179_129, kv_e179_132, kv_e179_133, kv_e179_134, kv_e179_135, kv_e179_138, kv_e179_139, kv_e179_142, kv_e179_143, kv_e179_144, kv_e179_145, kv_e179_146, kv_e179_147, kv_e179_150, kv_e179_151, kv_e179_152, kv_e179_153, kv_e179_156, kv_e179_157, kv_e179_160, kv_e179_161, kv_o10, not_false_eq_true, not_true, if_true, if_false, kv_then_s, kv_then_v, kv_then_n, List.cons_append, List.nil_append, kv_Ci, kv_Cr, kv_Cn, kv_Cu, kv_C0, kv_catc, kv_gCi, kv_gCl, kv_gCr, kv_nb0, kv_nb1, kv_nbi, kv_nb01, Nat.reduceAdd, Nat.reduceLeDiff, show ((3 : Int32) = 2) = False from by decide, kx_bounded]
  rfl
theorem kx_w4 (x y : Int32) {h : kv_H} : kv_Rn (d + 1) 179 0 [some (.int 4), some (.long x.toInt64), none, some (.long y.toInt64), none] [] h = some (some (.int (kw_j 4 x y)), h) := by
  simp only [kv_e179_0, kv_e179_1, kv_e179_52, kv_e179_53, kv_e179_54, kv_e179_55, kv_e179_58, kv_e179_59, kv_e179_60, kv_e179_61, kv_e179_62, kv_e179_65, kv_e179_66, kv_e179_67, kv_e179_68, kv_e179_69, kv_e179_72, kv_e179_73, kv_e179_74, kv_e179_75, kv_e179_76, kv_e179_79, kv_e179_80, kv_e179_83, kv_e179_84, kv_e179_85, kv_e179_86, kv_e179_89, kv_e179_90, kv_e179_91, kv_e179_92, kv_e179_93, kv_e179_96, kv_e179_97, kv_e179_100, kv_e179_101, kv_e179_102, kv_e179_103, kv_e179_104, kv_e179_105, kv_e179_108, kv_e179_109, kv_e179_112, kv_e179_113, kv_e179_114, kv_e179_115, kv_e179_116, kv_e179_117, kv_e179_120, kv_e179_121, kv_e179_124, kv_e179_125, kv_e179_126, kv_e179_127, kv_e179_128, kv_e179_129, kv_e179_132, kv_e179_133, kv_e179_134, kv_e179_135, kv_e179_138, kv_e179_139, kv_e179_142, kv_e179_143, kv_e179_144, kv_e179_145, kv_e179_146, kv_e179_147, kv_e179_150, kv_e179_151, kv_e179_152, kv_e179_153, kv_e179_156, kv_e179_157, kv_e179_160, kv_e179_161, kv_o10, not_false_eq_true, not_true, if_true, if_false, kv_then_s, kv_then_v, kv_then_n, List.cons_append, List.nil_append, kv_Ci, kv_Cr, kv_Cn, kv_Cu, kv_C0, kv_catc, kv_gCi, kv_gCl, kv_gCr, kv_nb0, kv_nb1, kv_nbi, kv_nb01, Nat.reduceAdd, Nat.reduceLeDiff, show ((4 : Int32) = 2) = False from by decide, show ((4 : Int32) = 3) = False from by decide, kx_bounded]
  rfl
theorem kx_w5 (x y : Int32) (hx : kw_rg x (-1000000) 1000000) {h : kv_H} : kv_Rn (d + 1) 179 0 [some (.int 5), some (.long x.toInt64), none, some (.long y.toInt64), none] [] h = some (some (.int (kw_j 5 x y)), h) := by
  have hm : x ≠ Int32.minValue := fun q => by
    have := hx.1
    rw [q] at this
    exact absurd this (by decide)
  have e1 : lg_cmp y.toInt64 0 = 0 ↔ y = 0 := (lg_cmp_eq _ _).trans (by rw [kx_640])
  unfold kw_j kw_jv
  by_cases c : y = 0
  · have e2 : lg_cmp y.toInt64 0 = 0 := e1.mpr c
    simp only [kv_e179_0, kv_e179_1, kv_e179_52, kv_e179_53, kv_e179_54, kv_e179_55, kv_e179_58, kv_e179_59, kv_e179_60, kv_e179_61, kv_e179_62, kv_e179_65, kv_e179_66, kv_e179_67, kv_e179_68, kv_e179_69, kv_e179_72, kv_e179_73, kv_e179_74, kv_e179_75, kv_e179_76, kv_e179_79, kv_e179_80, kv_e179_83, kv_e179_84, kv_e179_85, kv_e179_86, kv_e179_89, kv_e179_90, kv_e179_91, kv_e179_92, kv_e179_93, kv_e179_96, kv_e179_97, kv_e179_100, kv_e179_101, kv_e179_102, kv_e179_103, kv_e179_104, kv_e179_105, kv_e179_108, kv_e179_109, kv_e179_112, kv_e179_113, kv_e179_114, kv_e179_115, kv_e179_116, kv_e179_117, kv_e179_120, kv_e179_121, kv_e179_124, kv_e179_125, kv_e179_126, kv_e179_127, kv_e179_128, kv_e179_129, kv_e179_132, kv_e179_133, kv_e179_134, kv_e179_135, kv_e179_138, kv_e179_139, kv_e179_142, kv_e179_143, kv_e179_144, kv_e179_145, kv_e179_146, kv_e179_147, kv_e179_150, kv_e179_151, kv_e179_152, kv_e179_153, kv_e179_156, kv_e179_157, kv_e179_160, kv_e179_161, kv_o10, not_false_eq_true, not_true, if_true, if_false, kv_then_s, kv_then_v, kv_then_n, List.cons_append, List.nil_append, kv_Ci, kv_Cr, kv_Cn, kv_Cu, kv_C0, kv_catc, kv_gCi, kv_gCl, kv_gCr, kv_nb0, kv_nb1, kv_nbi, kv_nb01, Nat.reduceAdd, Nat.reduceLeDiff, show ((5 : Int32) = 2) = False from by decide, show ((5 : Int32) = 3) = False from by decide, show ((5 : Int32) = 4) = False from by decide, e2, c, kx_bounded]
    rfl
  · have e2 : (lg_cmp y.toInt64 0 = 0) = False := eq_false (fun q => c (e1.mp q))
    have e3 : (y.toInt64 = 0) = False := by rw [kx_640]; exact eq_false c
    simp only [kv_e179_0, kv_e179_1, kv_e179_52, kv_e179_53, kv_e179_54, kv_e179_55, kv_e179_58, kv_e179_59, kv_e179_60, kv_e179_61, kv_e179_62, kv_e179_65, kv_e179_66, kv_e179_67, kv_e179_68, kv_e179_69, kv_e179_72, kv_e179_73, kv_e179_74, kv_e179_75, kv_e179_76, kv_e179_79, kv_e179_80, kv_e179_83, kv_e179_84, kv_e179_85, kv_e179_86, kv_e179_89, kv_e179_90, kv_e179_91, kv_e179_92, kv_e179_93, kv_e179_96, kv_e179_97, kv_e179_100, kv_e179_101, kv_e179_102, kv_e179_103, kv_e179_104, kv_e179_105, kv_e179_108, kv_e179_109, kv_e179_112, kv_e179_113, kv_e179_114, kv_e179_115, kv_e179_116, kv_e179_117, kv_e179_120, kv_e179_121, kv_e179_124, kv_e179_125, kv_e179_126, kv_e179_127, kv_e179_128, kv_e179_129, kv_e179_132, kv_e179_133, kv_e179_134, kv_e179_135, kv_e179_138, kv_e179_139, kv_e179_142, kv_e179_143, kv_e179_144, kv_e179_145, kv_e179_146, kv_e179_147, kv_e179_150, kv_e179_151, kv_e179_152, kv_e179_153, kv_e179_156, kv_e179_157, kv_e179_160, kv_e179_161, kv_o10, not_false_eq_true, not_true, if_true, if_false, kv_then_s, kv_then_v, kv_then_n, List.cons_append, List.nil_append, kv_Ci, kv_Cr, kv_Cn, kv_Cu, kv_C0, kv_catc, kv_gCi, kv_gCl, kv_gCr, kv_nb0, kv_nb1, kv_nbi, kv_nb01, Nat.reduceAdd, Nat.reduceLeDiff, show ((5 : Int32) = 2) = False from by decide, show ((5 : Int32) = 3) = False from by decide, show ((5 : Int32) = 4) = False from by decide, e2, e3, c, kx_bounded, Int32.toInt64_div_of_ne_left x y hm]
theorem kx_w6 (x y : Int32) {h : kv_H} : kv_Rn (d + 1) 179 0 [some (.int 6), some (.long x.toInt64), none, some (.long y.toInt64), none] [] h = some (some (.int (kw_g 6 x y)), h) := by
  have e : (lg_cmp x.toInt64 y.toInt64 = 0) = (x = y) := (propext (lg_cmp_eq _ _)).trans kx_64
  unfold kw_g
  rw [if_pos rfl]
  by_cases c : x = y
  · have e2 : (lg_cmp x.toInt64 y.toInt64 = 0) = True := by rw [e]; exact eq_true c
    rw [if_pos c]
    simp only [kv_e179_0, kv_e179_1, kv_e179_52, kv_e179_53, kv_e179_54, kv_e179_55, kv_e179_58, kv_e179_59, kv_e179_60, kv_e179_61, kv_e179_62, kv_e179_65, kv_e179_66, kv_e179_67, kv_e179_68, kv_e179_69, kv_e179_72, kv_e179_73, kv_e179_74, kv_e179_75, kv_e179_76, kv_e179_79, kv_e179_80, kv_e179_83, kv_e179_84, kv_e179_85, kv_e179_86, kv_e179_89, kv_e179_90, kv_e179_91, kv_e179_92, kv_e179_93, kv_e179_96, kv_e179_97, kv_e179_100, kv_e179_101, kv_e179_102, kv_e179_103, kv_e179_104, kv_e179_105, kv_e179_108, kv_e179_109, kv_e179_112, kv_e179_113, kv_e179_114, kv_e179_115, kv_e179_116, kv_e179_117, kv_e179_120, kv_e179_121, kv_e179_124, kv_e179_125, kv_e179_126, kv_e179_127, kv_e179_128, kv_e179_129, kv_e179_132, kv_e179_133, kv_e179_134, kv_e179_135, kv_e179_138, kv_e179_139, kv_e179_142, kv_e179_143, kv_e179_144, kv_e179_145, kv_e179_146, kv_e179_147, kv_e179_150, kv_e179_151, kv_e179_152, kv_e179_153, kv_e179_156, kv_e179_157, kv_e179_160, kv_e179_161, kv_o10, not_false_eq_true, not_true, if_true, if_false, kv_then_s, kv_then_v, kv_then_n, List.cons_append, List.nil_append, kv_Ci, kv_Cr, kv_Cn, kv_Cu, kv_C0, kv_catc, kv_gCi, kv_gCl, kv_gCr, kv_nb0, kv_nb1, kv_nbi, kv_nb01, Nat.reduceAdd, Nat.reduceLeDiff, show ((6 : Int32) = 2) = False from by decide, show ((6 : Int32) = 3) = False from by decide, show ((6 : Int32) = 4) = False from by decide, show ((6 : Int32) = 5) = False from by decide, e2]
  · have e2 : (lg_cmp x.toInt64 y.toInt64 = 0) = False := by rw [e]; exact eq_false c
    rw [if_neg c]
    simp only [kv_e179_0, kv_e179_1, kv_e179_52, kv_e179_53, kv_e179_54, kv_e179_55, kv_e179_58, kv_e179_59, kv_e179_60, kv_e179_61, kv_e179_62, kv_e179_65, kv_e179_66, kv_e179_67, kv_e179_68, kv_e179_69, kv_e179_72, kv_e179_73, kv_e179_74, kv_e179_75, kv_e179_76, kv_e179_79, kv_e179_80, kv_e179_83, kv_e179_84, kv_e179_85, kv_e179_86, kv_e179_89, kv_e179_90, kv_e179_91, kv_e179_92, kv_e179_93, kv_e179_96, kv_e179_97, kv_e179_100, kv_e179_101, kv_e179_102, kv_e179_103, kv_e179_104, kv_e179_105, kv_e179_108, kv_e179_109, kv_e179_112, kv_e179_113, kv_e179_114, kv_e179_115, kv_e179_116, kv_e179_117, kv_e179_120, kv_e179_121, kv_e179_124, kv_e179_125, kv_e179_126, kv_e179_127, kv_e179_128, kv_e179_129, kv_e179_132, kv_e179_133, kv_e179_134, kv_e179_135, kv_e179_138, kv_e179_139, kv_e179_142, kv_e179_143, kv_e179_144, kv_e179_145, kv_e179_146, kv_e179_147, kv_e179_150, kv_e179_151, kv_e179_152, kv_e179_153, kv_e179_156, kv_e179_157, kv_e179_160, kv_e179_161, kv_o10, not_false_eq_true, not_true, if_true, if_false, kv_then_s, kv_then_v, kv_then_n, List.cons_append, List.nil_append, kv_Ci, kv_Cr, kv_Cn, kv_Cu, kv_C0, kv_catc, kv_gCi, kv_gCl, kv_gCr, kv_nb0, kv_nb1, kv_nbi, kv_nb01, Nat.reduceAdd, Nat.reduceLeDiff, show ((6 : Int32) = 2) = False from by decide, show ((6 : Int32) = 3) = False from by decide, show ((6 : Int32) = 4) = False from by decide, show ((6 : Int32) = 5) = False from by decide, e2]
theorem kx_w7 (x y : Int32) {h : kv_H} : kv_Rn (d + 1) 179 0 [some (.int 7), some (.long x.toInt64), none, some (.long y.toInt64), none] [] h = some (some (.int (kw_g 7 x y)), h) := by
  have e : (0 ≤ lg_cmp x.toInt64 y.toInt64) = (y ≤ x) := propext ((lg_cmp_ge _ _).trans Int32.toInt64_le)
  unfold kw_g
  by_cases c : x < y
  · have c2 : (y ≤ x) = False := eq_false (Int32.not_le.mpr c)
    simp only [kv_e179_0, kv_e179_1, kv_e179_52, kv_e179_53, kv_e179_54, kv_e179_55, kv_e179_58, kv_e179_59, kv_e179_60, kv_e179_61, kv_e179_62, kv_e179_65, kv_e179_66, kv_e179_67, kv_e179_68, kv_e179_69, kv_e179_72, kv_e179_73, kv_e179_74, kv_e179_75, kv_e179_76, kv_e179_79, kv_e179_80, kv_e179_83, kv_e179_84, kv_e179_85, kv_e179_86, kv_e179_89, kv_e179_90, kv_e179_91, kv_e179_92, kv_e179_93, kv_e179_96, kv_e179_97, kv_e179_100, kv_e179_101, kv_e179_102, kv_e179_103, kv_e179_104, kv_e179_105, kv_e179_108, kv_e179_109, kv_e179_112, kv_e179_113, kv_e179_114, kv_e179_115, kv_e179_116, kv_e179_117, kv_e179_120, kv_e179_121, kv_e179_124, kv_e179_125, kv_e179_126, kv_e179_127, kv_e179_128, kv_e179_129, kv_e179_132, kv_e179_133, kv_e179_134, kv_e179_135, kv_e179_138, kv_e179_139, kv_e179_142, kv_e179_143, kv_e179_144, kv_e179_145, kv_e179_146, kv_e179_147, kv_e179_150, kv_e179_151, kv_e179_152, kv_e179_153, kv_e179_156, kv_e179_157, kv_e179_160, kv_e179_161, kv_o10, not_false_eq_true, not_true, if_true, if_false, kv_then_s, kv_then_v, kv_then_n, List.cons_append, List.nil_append, kv_Ci, kv_Cr, kv_Cn, kv_Cu, kv_C0, kv_catc, kv_gCi, kv_gCl, kv_gCr, kv_nb0, kv_nb1, kv_nbi, kv_nb01, Nat.reduceAdd, Nat.reduceLeDiff, show ((7 : Int32) = 2) = False from by decide, show ((7 : Int32) = 3) = False from by decide, show ((7 : Int32) = 4) = False from by decide, show ((7 : Int32) = 5) = False from by decide, show ((7 : Int32) = 6) = False from by decide, e, c, c2]
  · have c2 : (y ≤ x) = True := eq_true (Int32.not_lt.mp c)
    simp only [kv_e179_0, kv_e179_1, kv_e179_52, kv_e179_53, kv_e179_54, kv_e179_55, kv_e179_58, kv_e179_59, kv_e179_60, kv_e179_61, kv_e179_62, kv_e179_65, kv_e179_66, kv_e179_67, kv_e179_68, kv_e179_69, kv_e179_72, kv_e179_73, kv_e179_74, kv_e179_75, kv_e179_76, kv_e179_79, kv_e179_80, kv_e179_83, kv_e179_84, kv_e179_85, kv_e179_86, kv_e179_89, kv_e179_90, kv_e179_91, kv_e179_92, kv_e179_93, kv_e179_96, kv_e179_97, kv_e179_100, kv_e179_101, kv_e179_102, kv_e179_103, kv_e179_104, kv_e179_105, kv_e179_108, kv_e179_109, kv_e179_112, kv_e179_113, kv_e179_114, kv_e179_115, kv_e179_116, kv_e179_117, kv_e179_120, kv_e179_121, kv_e179_124, kv_e179_125, kv_e179_126, kv_e179_127, kv_e179_128, kv_e179_129, kv_e179_132, kv_e179_133, kv_e179_134, kv_e179_135, kv_e179_138, kv_e179_139, kv_e179_142, kv_e179_143, kv_e179_144, kv_e179_145, kv_e179_146, kv_e179_147, kv_e179_150, kv_e179_151, kv_e179_152, kv_e179_153, kv_e179_156, kv_e179_157, kv_e179_160, kv_e179_161, kv_o10, not_false_eq_true, not_true, if_true, if_false, kv_then_s, kv_then_v, kv_then_n, List.cons_append, List.nil_append, kv_Ci, kv_Cr, kv_Cn, kv_Cu, kv_C0, kv_catc, kv_gCi, kv_gCl, kv_gCr, kv_nb0, kv_nb1, kv_nbi, kv_nb01, Nat.reduceAdd, Nat.reduceLeDiff, show ((7 : Int32) = 2) = False from by decide, show ((7 : Int32) = 3) = False from by decide, show ((7 : Int32) = 4) = False from by decide, show ((7 : Int32) = 5) = False from by decide, show ((7 : Int32) = 6) = False from by decide, e, c, c2]
theorem kx_w8 (x y : Int32) {h : kv_H} : kv_Rn (d + 1) 179 0 [some (.int 8), some (.long x.toInt64), none, some (.long y.toInt64), none] [] h = some (some (.int (kw_g 8 x y)), h) := by
  have e : (lg_cmp x.toInt64 y.toInt64 ≤ 0) = (x ≤ y) := propext ((lg_cmp_le _ _).trans Int32.toInt64_le)
  unfold kw_g
  by_cases c : y < x
  · have c2 : (x ≤ y) = False := eq_false (Int32.not_le.mpr c)
    simp only [kv_e179_0, kv_e179_1, kv_e179_52, kv_e179_53, kv_e179_54, kv_e179_55, kv_e179_58, kv_e179_59, kv_e179_60, kv_e179_61, kv_e179_62, kv_e179_65, kv_e179_66, kv_e179_67, kv_e179_68, kv_e179_69, kv_e179_72, kv_e179_73, kv_e179_74, kv_e179_75, kv_e179_76, kv_e179_79, kv_e179_80, kv_e179_83, kv_e179_84, kv_e179_85, kv_e179_86, kv_e179_89, kv_e179_90, kv_e179_91, kv_e179_92, kv_e179_93, kv_e179_96, kv_e179_97, kv_e179_100, kv_e179_101, kv_e179_102, kv_e179_103, kv_e179_104, kv_e179_105, kv_e179_108, kv_e179_109, kv_e179_112, kv_e179_113, kv_e179_114, kv_e179_115, kv_e179_116, kv_e179_117, kv_e179_120, kv_e179_121, kv_e179_124, kv_e179_125, kv_e179_126, kv_e179_127, kv_e179_128, kv_e179_129, kv_e179_132, kv_e179_133, kv_e179_134, kv_e179_135, kv_e179_138, kv_e179_139, kv_e179_142, kv_e179_143, kv_e179_144, kv_e179_145, kv_e179_146, kv_e179_147, kv_e179_150, kv_e179_151, kv_e179_152, kv_e179_153, kv_e179_156, kv_e179_157, kv_e179_160, kv_e179_161, kv_o10, not_false_eq_true, not_true, if_true, if_false, kv_then_s, kv_then_v, kv_then_n, List.cons_append, List.nil_append, kv_Ci, kv_Cr, kv_Cn, kv_Cu, kv_C0, kv_catc, kv_gCi, kv_gCl, kv_gCr, kv_nb0, kv_nb1, kv_nbi, kv_nb01, Nat.reduceAdd, Nat.reduceLeDiff, show ((8 : Int32) = 2) = False from by decide, show ((8 : Int32) = 3) = False from by decide, show ((8 : Int32) = 4) = False from by decide, show ((8 : Int32) = 5) = False from by decide, show ((8 : Int32) = 6) = False from by decide, show ((8 : Int32) = 7) = False from by decide, e, c, c2]
  · have c2 : (x ≤ y) = True := eq_true (Int32.not_lt.mp c)
    simp only [kv_e179_0, kv_e179_1, kv_e179_52, kv_e179_53, kv_e179_54, kv_e179_55, kv_e179_58, kv_e179_59, kv_e179_60, kv_e179_61, kv_e179_62, kv_e179_65, kv_e179_66, kv_e179_67, kv_e179_68, kv_e179_69, kv_e179_72, kv_e179_73, kv_e179_74, kv_e179_75, kv_e179_76, kv_e179_79, kv_e179_80, kv_e179_83, kv_e179_84, kv_e179_85, kv_e179_86, kv_e179_89, kv_e179_90, kv_e179_91, kv_e179_92, kv_e179_93, kv_e179_96, kv_e179_97, kv_e179_100, kv_e179_101, kv_e179_102, kv_e179_103, kv_e179_104, kv_e179_105, kv_e179_108, kv_e179_109, kv_e179_112, kv_e179_113, kv_e179_114, kv_e179_115, kv_e179_116, kv_e179_117, kv_e179_120, kv_e179_121, kv_e179_124, kv_e179_125, kv_e179_126, kv_e179_127, kv_e179_128, kv_e179_129, kv_e179_132, kv_e179_133, kv_e179_134, kv_e179_135, kv_e179_138, kv_e179_139, kv_e179_142, kv_e179_143, kv_e179_144, kv_e179_145, kv_e179_146, kv_e179_147, kv_e179_150, kv_e179_151, kv_e179_152, kv_e179_153, kv_e179_156, kv_e179_157, kv_e179_160, kv_e179_161, kv_o10, not_false_eq_true, not_true, if_true, if_false, kv_then_s, kv_then_v, kv_then_n, List.cons_append, List.nil_append, kv_Ci, kv_Cr, kv_Cn, kv_Cu, kv_C0, kv_catc, kv_gCi, kv_gCl, kv_gCr, kv_nb0, kv_nb1, kv_nbi, kv_nb01, Nat.reduceAdd, Nat.reduceLeDiff, show ((8 : Int32) = 2) = False from by decide, show ((8 : Int32) = 3) = False from by decide, show ((8 : Int32) = 4) = False from by decide, show ((8 : Int32) = 5) = False from by decide, show ((8 : Int32) = 6) = False from by decide, show ((8 : Int32) = 7) = False from by decide, e, c, c2]
def kx_01 (x : Int32) : Prop := x = 0 ∨ x = 1
theorem kx_w10 (x y : Int32) (hx : kx_01 x) (hy : kx_01 y) {h : kv_H} : kv_Rn (d + 1) 179 0 [some (.int 10), some (.long x.toInt64), none, some (.long y.toInt64), none] [] h = some (some (.int (kw_g 9 x y)), h) := by
  have e0 : lg_cmp (Int32.toInt64 0) 0 = 0 := by decide
  have e1 : (lg_cmp (Int32.toInt64 1) 0 = 0) = False := by decide
  rcases hx with rfl | rfl <;> rcases hy with rfl | rfl <;> simp only [kv_e179_0, kv_e179_1, kv_e179_52, kv_e179_53, kv_e179_54, kv_e179_55, kv_e179_58, kv_e179_59, kv_e179_60, kv_e179_61, kv_e179_62, kv_e179_65, kv_e179_66, kv_e179_67, kv_e179_68, kv_e179_69, kv_e179_72, kv_e179_73, kv_e179_74, kv_e179_75, kv_e179_76, kv_e179_79, kv_e179_80, kv_e179_83, kv_e179_84, kv_e179_85, kv_e179_86, kv_e179_89, kv_e179_90, kv_e179_91, kv_e179_92, kv_e179_93, kv_e179_96, kv_e179_97, kv_e179_100, kv_e179_101, kv_e179_102, kv_e179_103, kv_e179_104, kv_e179_105, kv_e179_108, kv_e179_109, kv_e179_112, kv_e179_113, kv_e179_114, kv_e179_115, kv_e179_116, kv_e179_117, kv_e179_120, kv_e179_121, kv_e179_124, kv_e179_125, kv_e179_126, kv_e179_127, kv_e179_128, kv_e179_129, kv_e179_132, kv_e179_133, kv_e179_134, kv_e179_135, kv_e179_138, kv_e179_139, kv_e179_142, kv_e179_143, kv_e179_144, kv_e179_145, kv_e179_146, kv_e179_147, kv_e179_150, kv_e179_151, kv_e179_152, kv_e179_153, kv_e179_156, kv_e179_157, kv_e179_160, kv_e179_161, kv_o10, not_false_eq_true, not_true, if_true, if_false, kv_then_s, kv_then_v, kv_then_n, List.cons_append, List.nil_append, kv_Ci, kv_Cr, kv_Cn, kv_Cu, kv_C0, kv_catc, kv_gCi, kv_gCl, kv_gCr, kv_nb0, kv_nb1, kv_nbi, kv_nb01, Nat.reduceAdd, Nat.reduceLeDiff, show ((10 : Int32) = 2) = False from by decide, show ((10 : Int32) = 3) = False from by decide, show ((10 : Int32) = 4) = False from by decide, show ((10 : Int32) = 5) = False from by decide, show ((10 : Int32) = 6) = False from by decide, show ((10 : Int32) = 7) = False from by decide, show ((10 : Int32) = 8) = False from by decide, show ((10 : Int32) = 9) = False from by decide, e0, e1] <;> rfl
theorem kx_w11 (x y : Int32) (hx : kx_01 x) (hy : kx_01 y) {h : kv_H} : kv_Rn (d + 1) 179 0 [some (.int 11), some (.long x.toInt64), none, some (.long y.toInt64), none] [] h = some (some (.int (kw_g 10 x y)), h) := by
  have e0 : lg_cmp (Int32.toInt64 0) 0 = 0 := by decide
  have e1 : (lg_cmp (Int32.toInt64 1) 0 = 0) = False := by decide
  rcases hx with rfl | rfl <;> rcases hy with rfl | rfl <;> simp only [kv_e179_0, kv_e179_1, kv_e179_52, kv_e179_53, kv_e179_54, kv_e179_55, kv_e179_58, kv_e179_59, kv_e179_60, kv_e179_61, kv_e179_62, kv_e179_65, kv_e179_66, kv_e179_67, kv_e179_68, kv_e179_69, kv_e179_72, kv_e179_73, kv_e179_74, kv_e179_75, kv_e179_76, kv_e179_79, kv_e179_80, kv_e179_83, kv_e179_84, kv_e179_85, kv_e179_86, kv_e179_89, kv_e179_90, kv_e179_91, kv_e179_92, kv_e179_93, kv_e179_96, kv_e179_97, kv_e179_100, kv_e179_101, kv_e179_102, kv_e179_103, kv_e179_104, kv_e179_105, kv_e179_108, kv_e179_109, kv_e179_112, kv_e179_113, kv_e179_114, kv_e179_115, kv_e179_116, kv_e179_117, kv_e179_120, kv_e179_121, kv_e179_124, kv_e179_125, kv_e179_126, kv_e179_127, kv_e179_128, kv_e179_129, kv_e179_132, kv_e179_133, kv_e179_134, kv_e179_135, kv_e179_138, kv_e179_139, kv_e179_142, kv_e179_143, kv_e179_144, kv_e179_145, kv_e179_146, kv_e179_147, kv_e179_150, kv_e179_151, kv_e179_152, kv_e179_153, kv_e179_156, kv_e179_157, kv_e179_160, kv_e179_161, kv_o10, not_false_eq_true, not_true, if_true, if_false, kv_then_s, kv_then_v, kv_then_n, List.cons_append, List.nil_append, kv_Ci, kv_Cr, kv_Cn, kv_Cu, kv_C0, kv_catc, kv_gCi, kv_gCl, kv_gCr, kv_nb0, kv_nb1, kv_nbi, kv_nb01, Nat.reduceAdd, Nat.reduceLeDiff, show ((11 : Int32) = 2) = False from by decide, show ((11 : Int32) = 3) = False from by decide, show ((11 : Int32) = 4) = False from by decide, show ((11 : Int32) = 5) = False from by decide, show ((11 : Int32) = 6) = False from by decide, show ((11 : Int32) = 7) = False from by decide, show ((11 : Int32) = 8) = False from by decide, show ((11 : Int32) = 9) = False from by decide, show ((11 : Int32) = 10) = False from by decide, e0, e1] <;> rfl
theorem kx_g01 (k : Int32) (x y : Int32) (hk : k = 6 ∨ k = 7 ∨ k = 8) : kx_01 (kw_g k x y) := by
  unfold kw_g
  rcases hk with rfl | rfl | rfl
  · rw [if_pos rfl]
    by_cases c : x = y
    · exact Or.inr (if_pos c)
    · exact Or.inl (if_neg c)
  · rw [if_neg (by decide), if_pos rfl]
    by_cases c : x < y
    · exact Or.inr (if_pos c)
    · exact Or.inl (if_neg c)
  · rw [if_neg (by decide), if_neg (by decide), if_pos rfl]
    by_cases c : y < x
    · exact Or.inr (if_pos c)
    · exact Or.inl (if_neg c)
theorem kx_b01 (k : Int32) (x y : Int32) (hk : k = 9 ∨ k = 10) (hx : kx_01 x) (hy : kx_01 y) : kx_01 (kw_g k x y) := by
  rcases hk with rfl | rfl <;> rcases hx with rfl | rfl <;> rcases hy with rfl | rfl <;> (unfold kx_01; decide)
theorem kx_rg01 {x : Int32} (h : kx_01 x) : kw_rg x (-1000000) 1000000 := by
  rcases h with rfl | rfl <;> exact ⟨by decide, by decide⟩
theorem kx_rgj (k x y : Int32) : kw_rg (kw_j k x y) (-1000000) 1000000 := by
  unfold kw_j kw_bd
  generalize kw_jv k x y = v
  by_cases c1 : v ≤ 1000000
  · rw [if_pos c1]
    by_cases c2 : -1000000 ≤ v
    · rw [if_pos c2]
      have c1 := Int64.le_iff_toInt_le.mp c1
      have c2 := Int64.le_iff_toInt_le.mp c2
      rw [show (1000000 : Int64).toInt = 1000000 from by decide] at c1
      rw [show (-1000000 : Int64).toInt = -1000000 from by decide] at c2
      unfold kw_rg
      rw [Int64.toInt_toInt32, Int.bmod_eq_of_le (by omega) (by omega)]
      exact ⟨c2, c1⟩
    · rw [if_neg c2]
      exact ⟨by decide, by decide⟩
  · rw [if_neg c1]
    exact ⟨by decide, by decide⟩
end
