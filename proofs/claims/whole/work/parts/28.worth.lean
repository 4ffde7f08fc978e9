/-! what a law is worth, in the class -/
section
variable {d a b : Nat} {e : List kv_E} {z : Nat → Nat → Int32} {zl : Nat → Nat → Int64}
def kw_bd (v : Int64) : Int32 := if v ≤ 1000000 then (if -1000000 ≤ v then v.toInt32 else -1000000) else 1000000
def kw_jv (k x y : Int32) : Int64 := if k = 2 then x.toInt64 + y.toInt64 else if k = 3 then x.toInt64 - y.toInt64 else if k = 4 then x.toInt64 * y.toInt64 else if y = 0 then 0 else (x / y).toInt64
def kw_j (k x y : Int32) : Int32 := kw_bd (kw_jv k x y)
def kw_g (k x y : Int32) : Int32 := if k = 6 then (if x = y then 1 else 0) else if k = 7 then (if x < y then 1 else 0) else if k = 8 then (if y < x then 1 else 0) else if k = 9 then x &&& y else x ||| y
theorem kw_joined (k x y : Int32) {h : kv_H} : kv_Rn d 36 0 [some (.int k), some (.int x), some (.int y), none, none] [] h = some (some (.int (kw_j k x y)), h) := by
  have tl : ∀ v : Int64, kv_Rn d 36 53 [some (.int k), some (.int x), some (.int y), some (.long v), none] [] h = some (some (.int (kw_bd v)), h) := by
    intro v
    simp only [kv_e36_0, kv_e36_1, kv_e36_2, kv_e36_3, kv_e36_4, kv_e36_7, kv_e36_8, kv_e36_9, kv_e36_10, kv_e36_11, kv_e36_12, kv_e36_13, kv_e36_16, kv_e36_17, kv_e36_18, kv_e36_21, kv_e36_22, kv_e36_23, kv_e36_24, kv_e36_25, kv_e36_26, kv_e36_27, kv_e36_30, kv_e36_31, kv_e36_32, kv_e36_35, kv_e36_36, kv_e36_37, kv_e36_38, kv_e36_39, kv_e36_40, kv_e36_41, kv_e36_44, kv_e36_45, kv_e36_48, kv_e36_49, kv_e36_50, kv_e36_51, kv_e36_52, kv_e36_53, kv_e36_54, kv_e36_57, kv_e36_58, kv_e36_61, kv_e36_63, kv_e36_64, kv_e36_65, kv_e36_68, kv_e36_69, kv_e36_72, kv_e36_74, kv_e36_77, kv_e36_78, kv_e36_79, kv_o10, not_false_eq_true, not_true, if_true, if_false, kv_then_s, kv_then_v, kv_then_n, List.cons_append, List.nil_append, kv_Ci, kv_Cr, kv_Cn, kv_Cu, kv_C0, kv_catc, kv_gCi, kv_gCl, kv_gCr, kv_nb0, kv_nb1, kv_nbi, kv_nb01, Nat.reduceAdd, Nat.reduceLeDiff, lg_cmp_le, lg_cmp_ge]
    unfold kw_bd
    by_cases c1 : v ≤ 1000000
    · by_cases c2 : -1000000 ≤ v <;> simp only [c1, c2, if_true, if_false]
    · simp only [c1, if_false]
  have e53 : @kv_e36_53 = @kv_e36_53 := rfl
  unfold kw_j kw_jv
  by_cases c1 : k = 2
  · simp only [kv_e36_0, kv_e36_1, kv_e36_2, kv_e36_3, kv_e36_4, kv_e36_7, kv_e36_8, kv_e36_9, kv_e36_10, kv_e36_11, kv_e36_12, kv_e36_13, kv_o10, not_false_eq_true, not_true, if_true, if_false, kv_then_s, kv_then_v, kv_then_n, List.cons_append, List.nil_append, kv_Ci, kv_Cr, kv_Cn, kv_Cu, kv_C0, kv_catc, kv_gCi, kv_gCl, kv_gCr, kv_nb0, kv_nb1, kv_nbi, kv_nb01, Nat.reduceAdd, Nat.reduceLeDiff, c1, not_true, if_true, if_false]
    rw [← c1]
    exact tl _
  · by_cases c2 : k = 3
    · simp only [kv_e36_0, kv_e36_1, kv_e36_2, kv_e36_3, kv_e36_4, kv_e36_16, kv_e36_17, kv_e36_18, kv_e36_21, kv_e36_22, kv_e36_23, kv_e36_24, kv_e36_25, kv_e36_26, kv_e36_27, kv_o10, not_false_eq_true, not_true, if_true, if_false, kv_then_s, kv_then_v, kv_then_n, List.cons_append, List.nil_append, kv_Ci, kv_Cr, kv_Cn, kv_Cu, kv_C0, kv_catc, kv_gCi, kv_gCl, kv_gCr, kv_nb0, kv_nb1, kv_nbi, kv_nb01, Nat.reduceAdd, Nat.reduceLeDiff, c1, not_false_eq_true, if_true, if_false, c2, not_true]
      have c3 : ¬ (3 : Int32) = 2 := by decide
      simp only [c3, not_false_eq_true, if_true, if_false]
      rw [← c2]
      exact tl _
    · by_cases c3 : k = 4
      · have c4 : ¬ (4 : Int32) = 2 := by decide
        have c5 : ¬ (4 : Int32) = 3 := by decide
        subst c3
        simp only [kv_e36_0, kv_e36_1, kv_e36_2, kv_e36_3, kv_e36_4, kv_e36_16, kv_e36_17, kv_e36_18, kv_e36_30, kv_e36_31, kv_e36_32, kv_e36_35, kv_e36_36, kv_e36_37, kv_e36_38, kv_e36_39, kv_e36_40, kv_e36_41, kv_o10, not_false_eq_true, not_true, if_true, if_false, kv_then_s, kv_then_v, kv_then_n, List.cons_append, List.nil_append, kv_Ci, kv_Cr, kv_Cn, kv_Cu, kv_C0, kv_catc, kv_gCi, kv_gCl, kv_gCr, kv_nb0, kv_nb1, kv_nbi, kv_nb01, Nat.reduceAdd, Nat.reduceLeDiff, not_false_eq_true, if_true, if_false, not_true, c4, c5]
        exact tl _
      · by_cases c4 : y = 0
        · simp only [kv_e36_0, kv_e36_1, kv_e36_2, kv_e36_3, kv_e36_4, kv_e36_16, kv_e36_17, kv_e36_18, kv_e36_30, kv_e36_31, kv_e36_32, kv_e36_44, kv_e36_45, kv_o10, not_false_eq_true, not_true, if_true, if_false, kv_then_s, kv_then_v, kv_then_n, List.cons_append, List.nil_append, kv_Ci, kv_Cr, kv_Cn, kv_Cu, kv_C0, kv_catc, kv_gCi, kv_gCl, kv_gCr, kv_nb0, kv_nb1, kv_nbi, kv_nb01, Nat.reduceAdd, Nat.reduceLeDiff, c1, c2, c3, not_false_eq_true, if_true, if_false, not_true, c4]
          rw [← c4]
          exact tl _
        · simp only [kv_e36_0, kv_e36_1, kv_e36_2, kv_e36_3, kv_e36_4, kv_e36_16, kv_e36_17, kv_e36_18, kv_e36_30, kv_e36_31, kv_e36_32, kv_e36_44, kv_e36_45, kv_e36_48, kv_e36_49, kv_e36_50, kv_e36_51, kv_e36_52, kv_o10, not_false_eq_true, not_true, if_true, if_false, kv_then_s, kv_then_v, kv_then_n, List.cons_append, List.nil_append, kv_Ci, kv_Cr, kv_Cn, kv_Cu, kv_C0, kv_catc, kv_gCi, kv_gCl, kv_gCr, kv_nb0, kv_nb1, kv_nbi, kv_nb01, Nat.reduceAdd, Nat.reduceLeDiff, c1, c2, c3, not_false_eq_true, if_true, if_false, not_true, c4]
          exact tl _
theorem kw_judged (k x y : Int32) {h : kv_H} : kv_Rn d 37 0 [some (.int k), some (.int x), some (.int y)] [] h = some (some (.int (kw_g k x y)), h) := by
  simp only [kv_e37_0, kv_e37_1, kv_e37_32, kv_e37_33, kv_e37_34, kv_e37_37, kv_e37_38, kv_e37_41, kv_e37_42, kv_e37_43, kv_e37_44, kv_e37_45, kv_e37_48, kv_e37_49, kv_e37_52, kv_e37_53, kv_e37_54, kv_e37_55, kv_e37_56, kv_e37_59, kv_e37_60, kv_e37_63, kv_e37_64, kv_e37_65, kv_e37_66, kv_e37_67, kv_e37_68, kv_e37_69, kv_e37_70, kv_e37_71, kv_e37_72, kv_o10, not_false_eq_true, not_true, if_true, if_false, kv_then_s, kv_then_v, kv_then_n, List.cons_append, List.nil_append, kv_Ci, kv_Cr, kv_Cn, kv_Cu, kv_C0, kv_catc, kv_gCi, kv_gCl, kv_gCr, kv_nb0, kv_nb1, kv_nbi, kv_nb01, Nat.reduceAdd, Nat.reduceLeDiff]
  unfold kw_g
  by_cases c1 : k = 6
  · by_cases c : x = y <;> simp only [c1, c, not_true, not_false_eq_true, if_true, if_false]
  · by_cases c2 : k = 7
    · by_cases c : x < y
      · have c3 : ¬ y ≤ x := Int32.not_le.mpr c
        simp only [c1, c2, c, c3, not_true, not_false_eq_true, if_true, if_false]
        rfl
      · have c3 : y ≤ x := Int32.not_lt.mp c
        simp only [c1, c2, c, c3, not_true, not_false_eq_true, if_true, if_false]
        rfl
    · by_cases c3 : k = 8
      · by_cases c : y < x
        · have c4 : ¬ x ≤ y := Int32.not_le.mpr c
          simp only [c1, c2, c3, c, c4, not_true, not_false_eq_true, if_true, if_false]
          rfl
        · have c4 : x ≤ y := Int32.not_lt.mp c
          simp only [c1, c2, c3, c, c4, not_true, not_false_eq_true, if_true, if_false]
          rfl
      · by_cases c4 : k = 9
        · simp only [c1, c2, c3, c4, if_true, if_false]
          rfl
        · simp only [c1, c2, c3, c4, if_true, if_false]
def kw_pl (p : Nat → Int32) : List Int32 → Prop
  | [] => True
  | x :: s => p s.length = x ∧ kw_pl p s
def kw_we (S : Nat → Int32) (L : Int32) (lt : Nat → Int32) : Nat → Nat → List Int32 → Int32
  | 0, _, _ => 0
  | f + 1, i, s => if L ≤ Int32.ofNat i then 0 else if 256 ≤ i then 0 else
    if S i >>> (16 &&& 31) ≤ 1 then (if 256 ≤ s.length then 0 else if S i >>> (16 &&& 31) = 1 then (if 8 ≤ (S i &&& 65535) then 0 else kw_we S L lt f (i + 1) (lt (S i &&& 65535).toNatClampNeg :: s)) else kw_we S L lt f (i + 1) ((S i &&& 65535) :: s))
    else if S i >>> (16 &&& 31) ≤ 10 then (match s with
      | y :: x :: s => kw_we S L lt f (i + 1) ((if S i >>> (16 &&& 31) ≤ 5 then kw_j (S i >>> (16 &&& 31)) x y else kw_g (S i >>> (16 &&& 31)) x y) :: s)
      | _ => 0)
    else (match s with
      | [] => 0
      | v :: s => if S i >>> (16 &&& 31) = 13 then v else if S i >>> (16 &&& 31) = 11 then kw_we S L lt f (i + 1) ((if v = 0 then 1 else 0) :: s) else if v = 0 ∧ Int32.ofNat i < (S i &&& 65535) then kw_we S L lt f (S i &&& 65535).toNatClampNeg s else kw_we S L lt f (i + 1) s)
theorem kw_and16 (x : Int32) : 0 ≤ x &&& 65535 ∧ (x &&& 65535).toNatClampNeg < 65536 := by
  have h : (x &&& 65535).toInt = ((x.toBitVec.toNat % 65536 : Nat) : Int) := by
    show ((x &&& 65535).toBitVec).toInt = _
    have h1 : (x &&& 65535).toBitVec.toNat = x.toBitVec.toNat % 65536 := by
      show (x.toBitVec &&& 65535#32).toNat = _
      rw [BitVec.toNat_and]
      exact Nat.and_two_pow_sub_one_eq_mod _ 16
    rw [BitVec.toInt_eq_toNat_of_lt (by rw [h1]; omega), h1]
  constructor
  · rw [Int32.le_iff_toInt_le, h]
    show (0 : Int) ≤ _
    omega
  · show (x &&& 65535).toInt.toNat < _
    rw [h]
    omega
end
