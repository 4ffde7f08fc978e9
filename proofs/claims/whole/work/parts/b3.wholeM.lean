/-! fields as texts: the model looks whether a field can stand -/
section
variable {d L a : Nat} {t : Nat → Int32} {z : Nat → Nat → Int32} {zl : Nat → Nat → Int64}
def kx_fM (q : kx_fs) (z : Nat → Nat → Int32) : Prop := (z 0 20 = Int32.ofNat q.2.1 ∧ q.2.1 ≤ 8) ∧ (z 0 21 = Int32.ofNat q.2.2.1 ∧ q.2.2.1 ≤ 6) ∧ (∀ j, j < 4 → z 11 j = q.2.2.2.1 j) ∧ (∀ k, k < q.2.1 → ∀ i, i < 8 → z 12 (8 * k + i) = q.2.2.2.2.1 k i) ∧ ∀ j, j < q.2.2.1 → ∀ i, i < 3 → z 13 (3 * j + i) = q.2.2.2.2.2 j i
noncomputable def kx_b (P : Prop) : Int32 := @ite _ P (Classical.propDecidable _) 1 0
theorem kx_b1 {P : Prop} (h : P) : kx_b P = 1 := if_pos h
theorem kx_b0 {P : Prop} (h : ¬ P) : kx_b P = 0 := if_neg h
theorem kx_bc {P Q : Prop} (h : P ↔ Q) : kx_b P = kx_b Q := by rw [propext h]
theorem kx_b00 (P : Prop) : (kx_b P = 0) = ¬ P := by
  by_cases h : P
  · rw [kx_b1 h]
    exact propext ⟨fun s => absurd s (by decide), fun s => absurd h s⟩
  · rw [kx_b0 h]
    exact propext ⟨fun _ => h, fun _ => rfl⟩
theorem kx_ix8 (k i : Nat) : (8 : Int32) * Int32.ofNat k + Int32.ofNat i = Int32.ofNat (8 * k + i) := by rw [show (8 : Int32) = Int32.ofNat 8 from rfl, kw_mulN, kw_addN]
theorem kx_inner {q : kx_fs} (hq : kx_fM q z) {i : Nat} (hi : i < q.2.1) : ∀ m j (P : Prop), j + m = i → kv_Rn d 188 80 [some (.ref 0), some (.int (kx_b P)), some (.int (Int32.ofNat i)), some (.int (Int32.ofNat j))] [] (kv_m z zl) = kv_Rn d 188 126 [some (.ref 0), some (.int (kx_b (P ∧ ∀ j', j ≤ j' → j' < i → ¬ q.2.2.2.2.1 j' 0 = q.2.2.2.2.1 i 0))), some (.int (Int32.ofNat i)), some (.int (Int32.ofNat i))] [] (kv_m z zl) := by
  obtain ⟨⟨h20, h8⟩, -, -, hK, -⟩ := hq
  intro m
  induction m with
  | zero =>
    intro j P hj
    have hj : j = i := by omega
    subst hj
    have ge : (Int32.ofNat j ≤ Int32.ofNat j) = True := eq_true (Int32.le_refl _)
    rw [kx_bc (show (P ∧ ∀ j', j ≤ j' → j' < j → ¬ q.2.2.2.2.1 j' 0 = q.2.2.2.2.1 j 0) ↔ P from ⟨fun s => s.1, fun s => ⟨s, fun j' h1 h2 => by omega⟩⟩), kv_e188_80]
    simp only [kv_e188_81, kv_e188_82, kv_e188_85, kv_e188_86, kv_e188_89, kv_e188_90, kv_e188_93, kv_e188_95, kv_e188_96, kv_e188_97, kv_e188_98, kv_e188_99, kv_e188_100, kv_e188_101, kv_e188_104, kv_e188_106, kv_e188_107, kv_e188_108, kv_e188_109, kv_e188_110, kv_e188_111, kv_e188_114, kv_e188_115, kv_e188_118, kv_e188_119, kv_e188_120, kv_e188_123, kv_o10, not_false_eq_true, not_true, if_true, if_false, kv_then_s, kv_then_v, kv_then_n, List.cons_append, List.nil_append, kv_Ci, kv_Cr, kv_Cn, kv_Cu, kv_C0, kv_catc, kv_gCi, kv_gCl, kv_gCr, kv_nb0, kv_nb1, kv_nbi, kv_nb01, Nat.reduceAdd, Nat.reduceLeDiff, ge]
  | succ m ih =>
    intro j P hj
    have hji : j < i := by omega
    have ge : (Int32.ofNat i ≤ Int32.ofNat j) = False := kv_ln_ hji (by omega)
    have hx1 : 8 * j + 0 < 2147483648 := by omega
    have hx2 : 8 * i + 0 < 2147483648 := by omega
    have r12 : ∀ (w : Nat → Nat → Int32) j, kv_rd w 12 j = w 12 j := fun w j => kv_rd_lt (by omega)
    have ek : (8 : Int32) * Int32.ofNat j + 0 = Int32.ofNat (8 * j + 0) := kx_ix8 j 0
    have ek2 : (8 : Int32) * Int32.ofNat i + 0 = Int32.ofNat (8 * i + 0) := kx_ix8 i 0
    have v1 := hK j (by omega) 0 (by omega)
    have v2 := hK i hi 0 (by omega)
    have key : ∀ Q : Prop, (Q ↔ (P ∧ ¬ q.2.2.2.2.1 j 0 = q.2.2.2.2.1 i 0)) → kv_Rn d 188 80 [some (.ref 0), some (.int (kx_b Q)), some (.int (Int32.ofNat i)), some (.int (Int32.ofNat (j + 1)))] [] (kv_m z zl) = kv_Rn d 188 126 [some (.ref 0), some (.int (kx_b (P ∧ ∀ j', j ≤ j' → j' < i → ¬ q.2.2.2.2.1 j' 0 = q.2.2.2.2.1 i 0))), some (.int (Int32.ofNat i)), some (.int (Int32.ofNat i))] [] (kv_m z zl) := by
      intro Q hQ
      rw [ih (j + 1) Q (by omega)]
      rw [kx_bc (show (Q ∧ ∀ j', j + 1 ≤ j' → j' < i → ¬ q.2.2.2.2.1 j' 0 = q.2.2.2.2.1 i 0) ↔ (P ∧ ∀ j', j ≤ j' → j' < i → ¬ q.2.2.2.2.1 j' 0 = q.2.2.2.2.1 i 0) from ⟨fun s => ⟨(hQ.mp s.1).1, fun j' h1 h2 => by
        by_cases e : j' = j
        · subst e
          exact (hQ.mp s.1).2
        · exact s.2 j' (by omega) h2⟩, fun s => ⟨hQ.mpr ⟨s.1, s.2 j (Nat.le_refl _) hji⟩, fun j' h1 h2 => s.2 j' (by omega) h2⟩⟩)]
    rw [kv_e188_80]
    by_cases hP : P
    · by_cases hne : q.2.2.2.2.1 j 0 = q.2.2.2.2.1 i 0
      · have k := key False ⟨fun s => s.elim, fun s => s.2 hne⟩
        rw [kx_b0 (fun s => s)] at k
        rw [← k, kx_b1 hP]
        simp only [kv_e188_81, kv_e188_82, kv_e188_85, kv_e188_86, kv_e188_89, kv_e188_90, kv_e188_93, kv_e188_95, kv_e188_96, kv_e188_97, kv_e188_98, kv_e188_99, kv_e188_100, kv_e188_101, kv_e188_104, kv_e188_106, kv_e188_107, kv_e188_108, kv_e188_109, kv_e188_110, kv_e188_111, kv_e188_114, kv_e188_115, kv_e188_118, kv_e188_119, kv_e188_120, kv_e188_123, kv_o10, not_false_eq_true, not_true, if_true, if_false, kv_then_s, kv_then_v, kv_then_n, List.cons_append, List.nil_append, kv_Ci, kv_Cr, kv_Cn, kv_Cu, kv_C0, kv_catc, kv_gCi, kv_gCl, kv_gCr, kv_nb0, kv_nb1, kv_nbi, kv_nb01, Nat.reduceAdd, Nat.reduceLeDiff, ge, show ((1 : Int32) = 0) = False from by decide, ek, ek2, kw_n0 hx1, kv_tn hx1, kv_lN (show 8 * j + 0 < 64 by omega), kw_n0 hx2, kv_tn hx2, kv_lN (show 8 * i + 0 < 64 by omega), kv_ar_lt (show 12 < 300 by omega), kv_am12, or_self, r12, v1, v2, hne, kv_suc]
      · have k := key True ⟨fun _ => ⟨hP, hne⟩, fun _ => trivial⟩
        rw [kx_b1 trivial] at k
        rw [← k, kx_b1 hP]
        simp only [kv_e188_81, kv_e188_82, kv_e188_85, kv_e188_86, kv_e188_89, kv_e188_90, kv_e188_93, kv_e188_95, kv_e188_96, kv_e188_97, kv_e188_98, kv_e188_99, kv_e188_100, kv_e188_101, kv_e188_104, kv_e188_106, kv_e188_107, kv_e188_108, kv_e188_109, kv_e188_110, kv_e188_111, kv_e188_114, kv_e188_115, kv_e188_118, kv_e188_119, kv_e188_120, kv_e188_123, kv_o10, not_false_eq_true, not_true, if_true, if_false, kv_then_s, kv_then_v, kv_then_n, List.cons_append, List.nil_append, kv_Ci, kv_Cr, kv_Cn, kv_Cu, kv_C0, kv_catc, kv_gCi, kv_gCl, kv_gCr, kv_nb0, kv_nb1, kv_nbi, kv_nb01, Nat.reduceAdd, Nat.reduceLeDiff, ge, show ((1 : Int32) = 0) = False from by decide, ek, ek2, kw_n0 hx1, kv_tn hx1, kv_lN (show 8 * j + 0 < 64 by omega), kw_n0 hx2, kv_tn hx2, kv_lN (show 8 * i + 0 < 64 by omega), kv_ar_lt (show 12 < 300 by omega), kv_am12, or_self, r12, v1, v2, hne, kv_suc]
    · have k := key False ⟨fun s => s.elim, fun s => hP s.1⟩
      rw [kx_b0 (fun s => s)] at k
      rw [← k, kx_b0 hP]
      simp only [kv_e188_81, kv_e188_82, kv_e188_85, kv_e188_86, kv_e188_89, kv_e188_90, kv_e188_93, kv_e188_95, kv_e188_96, kv_e188_97, kv_e188_98, kv_e188_99, kv_e188_100, kv_e188_101, kv_e188_104, kv_e188_106, kv_e188_107, kv_e188_108, kv_e188_109, kv_e188_110, kv_e188_111, kv_e188_114, kv_e188_115, kv_e188_118, kv_e188_119, kv_e188_120, kv_e188_123, kv_o10, not_false_eq_true, not_true, if_true, if_false, kv_then_s, kv_then_v, kv_then_n, List.cons_append, List.nil_append, kv_Ci, kv_Cr, kv_Cn, kv_Cu, kv_C0, kv_catc, kv_gCi, kv_gCl, kv_gCr, kv_nb0, kv_nb1, kv_nbi, kv_nb01, Nat.reduceAdd, Nat.reduceLeDiff, ge, kv_suc]
theorem kx_wholeM {q : kx_fs} (hq : kx_fM q z) : kv_Rn d 188 0 [some (.ref 0), none, none, none] [] (kv_m z zl) = some (some (.int (kx_b (kx_st q))), kv_m z zl) := by
  have hq0 := hq
  obtain ⟨⟨h20, h8⟩, -, hF, hK, -⟩ := hq
  have n0 : ((Int32.ofNat q.2.1 ≤ 0) = (q.2.1 = 0)) := kw_le0 h8
  have outer : ∀ m i (P : Prop) (u : Option Value), i + m = q.2.1 → kv_Rn d 188 15 [some (.ref 0), some (.int (kx_b P)), some (.int (Int32.ofNat i)), u] [] (kv_m z zl) = some (some (.int (kx_b (P ∧ ∀ k, i ≤ k → k < q.2.1 → kx_gk q k))), kv_m z zl) := by
    intro m
    induction m with
    | zero =>
      intro i P u hi
      have ge : (Int32.ofNat q.2.1 ≤ Int32.ofNat i) = True := by
        rw [kv_nle (by omega) (by omega)]
        exact eq_true (by omega)
      rw [kx_bc (show (P ∧ ∀ k, i ≤ k → k < q.2.1 → kx_gk q k) ↔ P from ⟨fun s => s.1, fun s => ⟨s, fun k h1 h2 => by omega⟩⟩), kv_e188_15]
      by_cases hP : P
      · rw [kx_b1 hP]
        simp only [kv_e188_16, kv_e188_17, kv_e188_20, kv_e188_132, kv_e188_133, kv_o10, not_false_eq_true, not_true, if_true, if_false, kv_then_s, kv_then_v, kv_then_n, List.cons_append, List.nil_append, kv_Ci, kv_Cr, kv_Cn, kv_Cu, kv_C0, kv_catc, kv_gCi, kv_gCl, kv_gCr, kv_nb0, kv_nb1, kv_nbi, kv_nb01, Nat.reduceAdd, Nat.reduceLeDiff, h20, ge]
      · rw [kx_b0 hP]
        simp only [kv_e188_16, kv_e188_17, kv_e188_20, kv_e188_132, kv_e188_133, kv_o10, not_false_eq_true, not_true, if_true, if_false, kv_then_s, kv_then_v, kv_then_n, List.cons_append, List.nil_append, kv_Ci, kv_Cr, kv_Cn, kv_Cu, kv_C0, kv_catc, kv_gCi, kv_gCl, kv_gCr, kv_nb0, kv_nb1, kv_nbi, kv_nb01, Nat.reduceAdd, Nat.reduceLeDiff, h20, ge]
    | succ m ih =>
      intro i P u hi
      have hin : i < q.2.1 := by omega
      have ge : (Int32.ofNat q.2.1 ≤ Int32.ofNat i) = False := kv_ln_ hin (by omega)
      have r12 : ∀ (w : Nat → Nat → Int32) j, kv_rd w 12 j = w 12 j := fun w j => kv_rd_lt (by omega)
      have r11 : ∀ (w : Nat → Nat → Int32) j, kv_rd w 11 j = w 11 j := fun w j => kv_rd_lt (by omega)
      have hx0 : 8 * i + 0 < 2147483648 := by omega
      have hx2 : 8 * i + 2 < 2147483648 := by omega
      have hx3 : 8 * i + 3 < 2147483648 := by omega
      have e0 : (8 : Int32) * Int32.ofNat i + 0 = Int32.ofNat (8 * i + 0) := kx_ix8 i 0
      have e2 : (8 : Int32) * Int32.ofNat i + 2 = Int32.ofNat (8 * i + 2) := kx_ix8 i 2
      have e3 : (8 : Int32) * Int32.ofNat i + 3 = Int32.ofNat (8 * i + 3) := kx_ix8 i 3
      have v0 := hK i hin 0 (by omega)
      have v2 := hK i hin 2 (by omega)
      have v3 := hK i hin 3 (by omega)
      have f0 := hF 0 (by omega)
      have rest : ∀ Q : Prop, (Q ↔ (P ∧ q.2.2.2.2.1 i 0 < q.2.2.2.1 0 ∧ ¬ q.2.2.2.2.1 i 2 < q.2.2.2.2.1 i 3)) → kv_Rn d 188 80 [some (.ref 0), some (.int (kx_b Q)), some (.int (Int32.ofNat i)), some (.int (Int32.ofNat 0))] [] (kv_m z zl) = some (some (.int (kx_b (P ∧ ∀ k, i ≤ k → k < q.2.1 → kx_gk q k))), kv_m z zl) := by
        intro Q hQ
        rw [kx_inner hq0 hin i 0 Q (Nat.zero_add _)]
        have ih := ih (i + 1) (Q ∧ ∀ j', 0 ≤ j' → j' < i → ¬ q.2.2.2.2.1 j' 0 = q.2.2.2.2.1 i 0) (some (.int (Int32.ofNat i))) (by omega)
        rw [kx_bc (show (P ∧ ∀ k, i ≤ k → k < q.2.1 → kx_gk q k) ↔ ((Q ∧ ∀ j', 0 ≤ j' → j' < i → ¬ q.2.2.2.2.1 j' 0 = q.2.2.2.2.1 i 0) ∧ ∀ k, i + 1 ≤ k → k < q.2.1 → kx_gk q k) from ⟨fun s => ⟨⟨hQ.mpr ⟨s.1, (s.2 i (Nat.le_refl _) hin).1, (s.2 i (Nat.le_refl _) hin).2.1⟩, fun j' _ h => (s.2 i (Nat.le_refl _) hin).2.2 j' h⟩, fun k h1 h2 => s.2 k (by omega) h2⟩, fun s => ⟨(hQ.mp s.1.1).1, fun k h1 h2 => by
          by_cases e : k = i
          · subst e
            exact ⟨(hQ.mp s.1.1).2.1, (hQ.mp s.1.1).2.2, fun j hj => s.1.2 j (Nat.zero_le _) hj⟩
          · exact s.2 k (by omega) h2⟩⟩), ← ih]
        simp only [kv_e188_126, kv_e188_129, kv_o10, not_false_eq_true, not_true, if_true, if_false, kv_then_s, kv_then_v, kv_then_n, List.cons_append, List.nil_append, kv_Ci, kv_Cr, kv_Cn, kv_Cu, kv_C0, kv_catc, kv_gCi, kv_gCl, kv_gCr, kv_nb0, kv_nb1, kv_nbi, kv_nb01, Nat.reduceAdd, Nat.reduceLeDiff, kv_suc]
      rw [kv_e188_15]
      by_cases hP : P
      · by_cases g1 : q.2.2.2.1 0 ≤ q.2.2.2.2.1 i 0
        · have k := rest False ⟨fun s => s.elim, fun s => Int32.not_le.mpr s.2.1 g1⟩
          rw [kx_b0 (fun s => s)] at k
          rw [← k, kx_b1 hP]
          simp only [kv_e188_16, kv_e188_17, kv_e188_20, kv_e188_23, kv_e188_24, kv_e188_27, kv_e188_28, kv_e188_31, kv_e188_33, kv_e188_34, kv_e188_35, kv_e188_36, kv_e188_37, kv_e188_38, kv_e188_39, kv_e188_42, kv_e188_43, kv_e188_44, kv_e188_47, kv_e188_48, kv_e188_51, kv_e188_53, kv_e188_54, kv_e188_55, kv_e188_56, kv_e188_57, kv_e188_58, kv_e188_59, kv_e188_62, kv_e188_64, kv_e188_65, kv_e188_66, kv_e188_67, kv_e188_68, kv_e188_69, kv_e188_72, kv_e188_73, kv_e188_76, kv_e188_77, kv_e188_78, kv_e188_79, kv_o10, not_false_eq_true, not_true, if_true, if_false, kv_then_s, kv_then_v, kv_then_n, List.cons_append, List.nil_append, kv_Ci, kv_Cr, kv_Cn, kv_Cu, kv_C0, kv_catc, kv_gCi, kv_gCl, kv_gCr, kv_nb0, kv_nb1, kv_nbi, kv_nb01, Nat.reduceAdd, Nat.reduceLeDiff, h20, ge, show ((1 : Int32) = 0) = False from by decide, e0, kw_n0 hx0, kv_tn hx0, kv_lN (show 8 * i + 0 < 64 by omega), kv_ar_lt (show 12 < 300 by omega), kv_ar_lt (show 11 < 300 by omega), kv_am12, kv_am11, or_self, r12, r11, v0, f0, g1, Int32.lt_irrefl, false_or, show (0 : Int32).toNatClampNeg = 0 from rfl, show (4 ≤ 0) = False from by decide]
          rfl
        · by_cases g2 : q.2.2.2.2.1 i 2 < q.2.2.2.2.1 i 3
          · have k := rest False ⟨fun s => s.elim, fun s => s.2.2 g2⟩
            rw [kx_b0 (fun s => s)] at k
            rw [← k, kx_b1 hP]
            simp only [kv_e188_16, kv_e188_17, kv_e188_20, kv_e188_23, kv_e188_24, kv_e188_27, kv_e188_28, kv_e188_31, kv_e188_33, kv_e188_34, kv_e188_35, kv_e188_36, kv_e188_37, kv_e188_38, kv_e188_39, kv_e188_42, kv_e188_43, kv_e188_44, kv_e188_47, kv_e188_48, kv_e188_51, kv_e188_53, kv_e188_54, kv_e188_55, kv_e188_56, kv_e188_57, kv_e188_58, kv_e188_59, kv_e188_62, kv_e188_64, kv_e188_65, kv_e188_66, kv_e188_67, kv_e188_68, kv_e188_69, kv_e188_72, kv_e188_73, kv_e188_76, kv_e188_77, kv_e188_78, kv_e188_79, kv_o10, not_false_eq_true, not_true, if_true, if_false, kv_then_s, kv_then_v, kv_then_n, List.cons_append, List.nil_append, kv_Ci, kv_Cr, kv_Cn, kv_Cu, kv_C0, kv_catc, kv_gCi, kv_gCl, kv_gCr, kv_nb0, kv_nb1, kv_nbi, kv_nb01, Nat.reduceAdd, Nat.reduceLeDiff, h20, ge, show ((1 : Int32) = 0) = False from by decide, e0, e2, e3, kw_n0 hx0, kv_tn hx0, kv_lN (show 8 * i + 0 < 64 by omega), kw_n0 hx2, kv_tn hx2, kv_lN (show 8 * i + 2 < 64 by omega), kw_n0 hx3, kv_tn hx3, kv_lN (show 8 * i + 3 < 64 by omega), kv_ar_lt (show 12 < 300 by omega), kv_ar_lt (show 11 < 300 by omega), kv_am12, kv_am11, or_self, r12, r11, v0, v2, v3, f0, g1, g2, Int32.lt_irrefl, false_or, show (0 : Int32).toNatClampNeg = 0 from rfl, show (4 ≤ 0) = False from by decide]
            rfl
          · have k := rest True ⟨fun _ => ⟨hP, Int32.not_le.mp g1, g2⟩, fun _ => trivial⟩
            rw [kx_b1 trivial] at k
            rw [← k, kx_b1 hP]
            simp only [kv_e188_16, kv_e188_17, kv_e188_20, kv_e188_23, kv_e188_24, kv_e188_27, kv_e188_28, kv_e188_31, kv_e188_33, kv_e188_34, kv_e188_35, kv_e188_36, kv_e188_37, kv_e188_38, kv_e188_39, kv_e188_42, kv_e188_43, kv_e188_44, kv_e188_47, kv_e188_48, kv_e188_51, kv_e188_53, kv_e188_54, kv_e188_55, kv_e188_56, kv_e188_57, kv_e188_58, kv_e188_59, kv_e188_62, kv_e188_64, kv_e188_65, kv_e188_66, kv_e188_67, kv_e188_68, kv_e188_69, kv_e188_72, kv_e188_73, kv_e188_76, kv_e188_77, kv_e188_78, kv_e188_79, kv_o10, not_false_eq_true, not_true, if_true, if_false, kv_then_s, kv_then_v, kv_then_n, List.cons_append, List.nil_append, kv_Ci, kv_Cr, kv_Cn, kv_Cu, kv_C0, kv_catc, kv_gCi, kv_gCl, kv_gCr, kv_nb0, kv_nb1, kv_nbi, kv_nb01, Nat.reduceAdd, Nat.reduceLeDiff, h20, ge, show ((1 : Int32) = 0) = False from by decide, e0, e2, e3, kw_n0 hx0, kv_tn hx0, kv_lN (show 8 * i + 0 < 64 by omega), kw_n0 hx2, kv_tn hx2, kv_lN (show 8 * i + 2 < 64 by omega), kw_n0 hx3, kv_tn hx3, kv_lN (show 8 * i + 3 < 64 by omega), kv_ar_lt (show 12 < 300 by omega), kv_ar_lt (show 11 < 300 by omega), kv_am12, kv_am11, or_self, r12, r11, v0, v2, v3, f0, g1, g2, Int32.lt_irrefl, false_or, show (0 : Int32).toNatClampNeg = 0 from rfl, show (4 ≤ 0) = False from by decide]
            rfl
      · have k := rest False ⟨fun s => s.elim, fun s => hP s.1⟩
        rw [kx_b0 (fun s => s)] at k
        rw [← k, kx_b0 hP]
        simp only [kv_e188_16, kv_e188_17, kv_e188_20, kv_e188_23, kv_e188_24, kv_e188_27, kv_e188_28, kv_e188_31, kv_e188_33, kv_e188_34, kv_e188_35, kv_e188_36, kv_e188_37, kv_e188_38, kv_e188_39, kv_e188_42, kv_e188_43, kv_e188_44, kv_e188_47, kv_e188_48, kv_e188_51, kv_e188_53, kv_e188_54, kv_e188_55, kv_e188_56, kv_e188_57, kv_e188_58, kv_e188_59, kv_e188_62, kv_e188_64, kv_e188_65, kv_e188_66, kv_e188_67, kv_e188_68, kv_e188_69, kv_e188_72, kv_e188_73, kv_e188_76, kv_e188_77, kv_e188_78, kv_e188_79, kv_o10, not_false_eq_true, not_true, if_true, if_false, kv_then_s, kv_then_v, kv_then_n, List.cons_append, List.nil_append, kv_Ci, kv_Cr, kv_Cn, kv_Cu, kv_C0, kv_catc, kv_gCi, kv_gCl, kv_gCr, kv_nb0, kv_nb1, kv_nbi, kv_nb01, Nat.reduceAdd, Nat.reduceLeDiff, h20, ge]
        rfl
  have o := outer q.2.1 0 (0 < q.2.1) none (Nat.zero_add _)
  rw [kx_bc (show (0 < q.2.1 ∧ ∀ k, 0 ≤ k → k < q.2.1 → kx_gk q k) ↔ kx_st q from ⟨fun s => ⟨s.1, fun k h => s.2 k (Nat.zero_le _) h⟩, fun s => ⟨s.1, fun k _ h => s.2 k h⟩⟩)] at o
  rw [← o]
  by_cases qn : q.2.1 = 0
  · have n0 : (Int32.ofNat q.2.1 ≤ 0) = True := by rw [n0]; exact eq_true qn
    rw [kx_b0 (show ¬ 0 < q.2.1 by omega)]
    simp only [kv_e188_0, kv_e188_1, kv_e188_4, kv_e188_7, kv_e188_8, kv_e188_11, kv_e188_12, kv_e188_13, kv_e188_14, kv_o10, not_false_eq_true, not_true, if_true, if_false, kv_then_s, kv_then_v, kv_then_n, List.cons_append, List.nil_append, kv_Ci, kv_Cr, kv_Cn, kv_Cu, kv_C0, kv_catc, kv_gCi, kv_gCl, kv_gCr, kv_nb0, kv_nb1, kv_nbi, kv_nb01, Nat.reduceAdd, Nat.reduceLeDiff, h20, n0]
    rfl
  · have n0 : (Int32.ofNat q.2.1 ≤ 0) = False := by rw [n0]; exact eq_false qn
    rw [kx_b1 (show 0 < q.2.1 by omega)]
    simp only [kv_e188_0, kv_e188_1, kv_e188_4, kv_e188_7, kv_e188_8, kv_e188_11, kv_e188_12, kv_e188_13, kv_e188_14, kv_o10, not_false_eq_true, not_true, if_true, if_false, kv_then_s, kv_then_v, kv_then_n, List.cons_append, List.nil_append, kv_Ci, kv_Cr, kv_Cn, kv_Cu, kv_C0, kv_catc, kv_gCi, kv_gCl, kv_gCr, kv_nb0, kv_nb1, kv_nbi, kv_nb01, Nat.reduceAdd, Nat.reduceLeDiff, h20, n0]
    rfl
end
