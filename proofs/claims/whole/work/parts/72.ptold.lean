/-! told and count: alike -/
section RZQ
variable {V : m_V} {m n : Nat} {ls st : List Value} {t N M : Nat} {I I' : m_I} {R : m_R} {L L' : m_L} {e : Option Nat} {a b u x : Nat} {Q : Option Value → Nat → m_I → m_L → m_R → Prop}
theorem s_told (hT : TP N e I L) (ht : 55 ≤ t) (v0 v : Int32) : same_v V t e I L 101 [.int v0, .int v] 183 [.int v0, .int v] := by
  obtain ⟨i1, i2⟩ := n_inx (m := 7) (by omega) v0
  obtain ⟨j1, j2⟩ := n_inx (m := 13) (by omega) v
  have eC : m_loc 101 (.ref 0 :: [.int v0, .int v]) = [.ref 0, .int v0, .int v, m_u] := rfl
  have eD : m_loc 183 (.ref 27 :: [.int v0, .int v]) = [.ref 27, .int v0, .int v, m_u] := rfl
  have hA := aa28
  cases hin : d_in v0 (nI 0) (nI 7)
  · rw [hin] at i1
    refine same_mk (v := (-101)) (fun Q => ?_) (fun Q => ?_)
    · rw [eC]
      simp (disch := first | assumption | omega | decide) only [nI_add, n_mul, n_sub, n_le, n_lt, n_eq, n_ne1, n_0, m_bl_t, m_bl_f, if_true, if_false, Nat.reduceAdd, Nat.reduceMul, Nat.reduceSub, Nat.reduceLeDiff, Nat.reduceEqDiff, Nat.add_zero, Nat.add_sub_cancel, Option.toList, List.cons_append, List.nil_append, i101_0, i101_1, i101_2, i101_3, i101_4, i101_5, c109, b_0, ← i1]
    · rw [eD]
      simp (disch := first | assumption | omega | decide) only [nI_add, n_mul, n_sub, n_le, n_lt, n_eq, n_ne1, n_0, m_bl_t, m_bl_f, if_true, if_false, Nat.reduceAdd, Nat.reduceMul, Nat.reduceSub, Nat.reduceLeDiff, Nat.reduceEqDiff, Nat.add_zero, Nat.add_sub_cancel, Option.toList, List.cons_append, List.nil_append, i183_0, i183_1, i183_2, i183_3, i183_4, c121, b_0, hin]
  · obtain ⟨x, hx, rfl⟩ := i2 hin
    have hx8 : x < 8 := by omega
    have hb : (decide (0 ≤ x) && decide (x < 8)) = true := by simp [hx8]
    obtain ⟨c, b, k, n, c1, b1, k1, hL, n3, h5, hNt, hO⟩ := XX_get hT.1.1
    obtain ⟨n', p1, p2, p3, p4, p5, p6, p7, p8, p9, p10⟩ := hL.2.2.1 x hx8
    cases hv : d_in v (nI 0) (nI 13)
    · rw [hv] at j1
      have f02 : d_in v (nI 0) (nI 2) = false := d_in_sub (lo := 0) (m := 2) hv (by omega) (by omega)
      have f57 : d_in v (nI 5) (nI 7) = false := d_in_sub (lo := 5) (m := 2) hv (by omega) (by omega)
      have f80 : d_in v (nI 8) (nI 10) = false := d_in_sub (lo := 8) (m := 2) hv (by omega) (by omega)
      have f13 : d_in v (nI 11) (nI 13) = false := d_in_sub (lo := 11) (m := 2) hv (by omega) (by omega)
      have v3 : ¬ v = nI 3 := fun q => by subst q; revert hv; decide
      have v4 : ¬ v = nI 4 := fun q => by subst q; revert hv; decide
      refine same_mk (v := (-102)) (fun Q => ?_) (fun Q => ?_)
      · rw [eC]
        simp (disch := first | assumption | omega | decide) only [nI_add, n_mul, n_sub, n_le, n_lt, n_eq, n_ne1, n_0, m_bl_t, m_bl_f, if_true, if_false, Nat.reduceAdd, Nat.reduceMul, Nat.reduceSub, Nat.reduceLeDiff, Nat.reduceEqDiff, Nat.add_zero, Nat.add_sub_cancel, Option.toList, List.cons_append, List.nil_append, i101_0, i101_1, i101_2, i101_3, i101_6, i101_7, i101_8, i101_9, i101_10, i101_11, c109, b_0, hb, Bool.true_eq_false, ← j1]
      · rw [eD]
        simp (disch := first | assumption | omega | decide) only [nI_add, n_mul, n_sub, n_le, n_lt, n_eq, n_ne1, n_0, m_bl_t, m_bl_f, if_true, if_false, Nat.reduceAdd, Nat.reduceMul, Nat.reduceSub, Nat.reduceLeDiff, Nat.reduceEqDiff, Nat.add_zero, Nat.add_sub_cancel, Option.toList, List.cons_append, List.nil_append, i183_0, i183_1, i183_2, i183_5, i183_6, i183_7, i183_8, i183_9, i183_10, i183_11, i183_12, i183_20, i183_21, i183_22, i183_23, i183_24, i183_25, i183_37, i183_38, i183_39, i183_40, i183_41, i183_54, i183_55, i183_56, i183_57, i183_58, i183_73, i183_74, i183_75, i183_76, i183_77, i183_94, i183_95, c121, c112, c111, b_0, hin, Bool.true_eq_false, f02, f57, f80, f13, v3, v4]
    · obtain ⟨i, hi, rfl⟩ := j2 hv
      have hi14 : i < 14 := by omega
      have hb2 : (decide (0 ≤ i) && decide (i < 14)) = true := by simp [hi14]
      have hC : ∀ Q, WP V 101 0 (m_loc 101 (.ref 0 :: [.int (nI x), .int (nI i)])) [] t I L (m_RR e 28 48) Q = WP V 101 17 [.ref 0, .int (nI x), .int (nI i), .ref 2] [.int (nI i)] t I L (m_RR e 28 48) Q := fun Q => by
        rw [eC]
        simp (disch := first | assumption | omega | decide) only [nI_add, n_mul, n_sub, n_le, n_lt, n_eq, n_ne1, n_0, m_bl_t, m_bl_f, if_true, if_false, Nat.reduceAdd, Nat.reduceMul, Nat.reduceSub, Nat.reduceLeDiff, Nat.reduceEqDiff, Nat.add_zero, Nat.add_sub_cancel, Option.toList, List.cons_append, List.nil_append, i101_0, i101_1, i101_2, i101_3, i101_6, i101_7, i101_8, i101_9, i101_12, i101_13, i101_14, i101_15, i101_16, rv_0_0, rv_13_0, rv_1_0, c109, b_0, hb, hb2, Bool.true_eq_false]
      by_cases h5i : i < 5
      · obtain rfl | rfl | rfl | rfl | rfl : i = 0 ∨ i = 1 ∨ i = 2 ∨ i = 3 ∨ i = 4 := by omega
        · have f02 : d_in (nI 0) (nI 0) (nI 2) = true := by decide
          refine same_mk (v := (I 2 (49 + x))) (fun Q => ?_) (fun Q => ?_)
          · rw [hC]
            simp (disch := first | assumption | omega | decide) only [nI_add, n_mul, n_sub, n_le, n_lt, n_eq, n_ne1, n_0, m_bl_t, m_bl_f, if_true, if_false, Nat.reduceAdd, Nat.reduceMul, Nat.reduceSub, Nat.reduceLeDiff, Nat.reduceEqDiff, Nat.add_zero, Nat.add_sub_cancel, Option.toList, List.cons_append, List.nil_append, i101_17s0, i101_18, i101_19, i101_20, i101_21, i101_22, i101_23]
          · rw [eD]
            simp (disch := first | assumption | omega | decide) only [nI_add, n_mul, n_sub, n_le, n_lt, n_eq, n_ne1, n_0, m_bl_t, m_bl_f, if_true, if_false, Nat.reduceAdd, Nat.reduceMul, Nat.reduceSub, Nat.reduceLeDiff, Nat.reduceEqDiff, Nat.add_zero, Nat.add_sub_cancel, Option.toList, List.cons_append, List.nil_append, i183_0, i183_1, i183_2, i183_5, i183_6, i183_7, i183_8, i183_9, i183_10, i183_11, i183_12, i183_13, i183_14, i183_15, i183_16, i183_17, i183_18, i183_19, rv_27_0, c121, c112, c111, b_0, hin, Bool.true_eq_false, f02, ← p6]
        · have f02 : d_in (nI 1) (nI 0) (nI 2) = true := by decide
          refine same_mk (v := (I 2 (57 + x))) (fun Q => ?_) (fun Q => ?_)
          · rw [hC]
            simp (disch := first | assumption | omega | decide) only [nI_add, n_mul, n_sub, n_le, n_lt, n_eq, n_ne1, n_0, m_bl_t, m_bl_f, if_true, if_false, Nat.reduceAdd, Nat.reduceMul, Nat.reduceSub, Nat.reduceLeDiff, Nat.reduceEqDiff, Nat.add_zero, Nat.add_sub_cancel, Option.toList, List.cons_append, List.nil_append, i101_17s1, i101_24, i101_25, i101_26, i101_27, i101_28, i101_29]
          · rw [eD]
            simp (disch := first | assumption | omega | decide) only [nI_add, n_mul, n_sub, n_le, n_lt, n_eq, n_ne1, n_0, m_bl_t, m_bl_f, if_true, if_false, Nat.reduceAdd, Nat.reduceMul, Nat.reduceSub, Nat.reduceLeDiff, Nat.reduceEqDiff, Nat.add_zero, Nat.add_sub_cancel, Option.toList, List.cons_append, List.nil_append, i183_0, i183_1, i183_2, i183_5, i183_6, i183_7, i183_8, i183_9, i183_10, i183_11, i183_12, i183_13, i183_14, i183_15, i183_16, i183_17, i183_18, i183_19, rv_27_0, c121, c112, c111, b_0, hin, Bool.true_eq_false, f02, ← p7]
        · have f02 : d_in (nI 2) (nI 0) (nI 2) = true := by decide
          refine same_mk (v := (I 2 (65 + x))) (fun Q => ?_) (fun Q => ?_)
          · rw [hC]
            simp (disch := first | assumption | omega | decide) only [nI_add, n_mul, n_sub, n_le, n_lt, n_eq, n_ne1, n_0, m_bl_t, m_bl_f, if_true, if_false, Nat.reduceAdd, Nat.reduceMul, Nat.reduceSub, Nat.reduceLeDiff, Nat.reduceEqDiff, Nat.add_zero, Nat.add_sub_cancel, Option.toList, List.cons_append, List.nil_append, i101_17s2, i101_30, i101_31, i101_32, i101_33, i101_34, i101_35]
          · rw [eD]
            simp (disch := first | assumption | omega | decide) only [nI_add, n_mul, n_sub, n_le, n_lt, n_eq, n_ne1, n_0, m_bl_t, m_bl_f, if_true, if_false, Nat.reduceAdd, Nat.reduceMul, Nat.reduceSub, Nat.reduceLeDiff, Nat.reduceEqDiff, Nat.add_zero, Nat.add_sub_cancel, Option.toList, List.cons_append, List.nil_append, i183_0, i183_1, i183_2, i183_5, i183_6, i183_7, i183_8, i183_9, i183_10, i183_11, i183_12, i183_13, i183_14, i183_15, i183_16, i183_17, i183_18, i183_19, rv_27_0, c121, c112, c111, b_0, hin, Bool.true_eq_false, f02, ← p8]
        · have f02 : d_in (nI 3) (nI 0) (nI 2) = false := by decide
          have e1 : 18 * x + 16 + 3 - 3 = 18 * x + 16 := by omega
          refine same_mk (v := (I 2 (33 + x))) (fun Q => ?_) (fun Q => ?_)
          · rw [hC]
            simp (disch := first | assumption | omega | decide) only [nI_add, n_mul, n_sub, n_le, n_lt, n_eq, n_ne1, n_0, m_bl_t, m_bl_f, if_true, if_false, Nat.reduceAdd, Nat.reduceMul, Nat.reduceSub, Nat.reduceLeDiff, Nat.reduceEqDiff, Nat.add_zero, Nat.add_sub_cancel, Option.toList, List.cons_append, List.nil_append, i101_17s3, i101_36, i101_37, i101_38, i101_39, i101_40, i101_41]
          · rw [eD]
            simp (disch := first | assumption | omega | decide) only [nI_add, n_mul, n_sub, n_le, n_lt, n_eq, n_ne1, n_0, m_bl_t, m_bl_f, if_true, if_false, Nat.reduceAdd, Nat.reduceMul, Nat.reduceSub, Nat.reduceLeDiff, Nat.reduceEqDiff, Nat.add_zero, Nat.add_sub_cancel, Option.toList, List.cons_append, List.nil_append, i183_0, i183_1, i183_2, i183_5, i183_6, i183_7, i183_8, i183_9, i183_10, i183_11, i183_12, i183_20, i183_21, i183_22, i183_26, i183_27, i183_28, i183_29, i183_30, i183_31, i183_32, i183_33, i183_34, i183_35, i183_36, rv_27_0, c121, c112, c111, b_0, hin, Bool.true_eq_false, f02, e1, ← p4]
        · have f02 : d_in (nI 4) (nI 0) (nI 2) = false := by decide
          have e1 : 18 * x + 16 + 4 - 3 = 18 * x + 17 := by omega
          refine same_mk (v := (I 2 (41 + x))) (fun Q => ?_) (fun Q => ?_)
          · rw [hC]
            simp (disch := first | assumption | omega | decide) only [nI_add, n_mul, n_sub, n_le, n_lt, n_eq, n_ne1, n_0, m_bl_t, m_bl_f, if_true, if_false, Nat.reduceAdd, Nat.reduceMul, Nat.reduceSub, Nat.reduceLeDiff, Nat.reduceEqDiff, Nat.add_zero, Nat.add_sub_cancel, Option.toList, List.cons_append, List.nil_append, i101_17s4, i101_42, i101_43, i101_44, i101_45, i101_46, i101_47]
          · rw [eD]
            simp (disch := first | assumption | omega | decide) only [nI_add, n_mul, n_sub, n_le, n_lt, n_eq, n_ne1, n_0, m_bl_t, m_bl_f, if_true, if_false, Nat.reduceAdd, Nat.reduceMul, Nat.reduceSub, Nat.reduceLeDiff, Nat.reduceEqDiff, Nat.add_zero, Nat.add_sub_cancel, Option.toList, List.cons_append, List.nil_append, i183_0, i183_1, i183_2, i183_5, i183_6, i183_7, i183_8, i183_9, i183_10, i183_11, i183_12, i183_20, i183_21, i183_22, i183_23, i183_24, i183_25, i183_26, i183_27, i183_28, i183_29, i183_30, i183_31, i183_32, i183_33, i183_34, i183_35, i183_36, rv_27_0, c121, c112, c111, b_0, hin, Bool.true_eq_false, f02, e1, ← p5]
      · have ho : (nI i).toInt < 0 ∨ 4 < (nI i).toInt := by rw [nI_toInt (by omega)]; omega
        have n3' : ¬ i = 3 := by omega
        have n4' : ¬ i = 4 := by omega
        have n02 : ¬ d_in (nI i) (nI 0) (nI 2) = true := fun q => by
          obtain ⟨r, hr, e1⟩ := (d_ink (lo := 0) (m := 2) (by omega)).mp q
          rw [n_eq (by omega) (by omega)] at e1
          omega
        have f02 : d_in (nI i) (nI 0) (nI 2) = false := by
          cases q : d_in (nI i) (nI 0) (nI 2)
          · rfl
          · exact absurd q n02
        have fin : ∀ lo, lo ≤ i → i ≤ lo + 2 → d_in (nI i) (nI lo) (nI (lo + 2)) = true := fun lo l1 l2 => (d_ink (m := 2) (by omega)).mpr ⟨i - lo, by omega, by rw [show lo + (i - lo) = i by omega]⟩
        have fnot : ∀ lo, lo + 2 < 1000 → (i < lo ∨ lo + 2 < i) → d_in (nI i) (nI lo) (nI (lo + 2)) = false := fun lo l0 l1 => by
          cases q : d_in (nI i) (nI lo) (nI (lo + 2))
          · rfl
          · obtain ⟨r, hr, e1⟩ := (d_ink (m := 2) (by omega)).mp q
            rw [n_eq (by omega) (by omega)] at e1
            omega
        by_cases h8 : i < 8
        · obtain ⟨u, rfl⟩ : ∃ u, i = 5 + u := ⟨i - 5, by omega⟩
          have hu3 : u < 3 := by omega
          obtain ⟨d, o, a1, a2, a3, a4, a5, a6, arest⟩ := hL.2.1 u hu3
          have f57 : d_in (nI (5 + u)) (nI 5) (nI 7) = true := fin 5 (by omega) (by omega)
          have h8n : ¬ 8 ≤ 5 + u := by omega
          have eu : 5 + u - 5 = u := by omega
          have c0 : 152 + 47 * u + x < 581 := by omega
          refine same_mk (v := (I 2 (152 + 47 * u + x))) (fun Q => ?_) (fun Q => ?_)
          · rw [eC]
            simp (disch := first | assumption | omega | decide) only [nI_add, n_mul, n_sub, n_le, n_lt, n_eq, n_ne1, n_0, m_bl_t, m_bl_f, if_true, if_false, Nat.reduceAdd, Nat.reduceMul, Nat.reduceSub, Nat.reduceLeDiff, Nat.reduceEqDiff, Nat.add_zero, Nat.add_sub_cancel, Option.toList, List.cons_append, List.nil_append, i101_0, i101_1, i101_2, i101_3, i101_6, i101_7, i101_8, i101_9, i101_12, i101_13, i101_14, i101_15, i101_16, rv_0_0, rv_13_0, rv_1_0, c109, b_0, hb, hb2, Bool.true_eq_false]
            rw [i101_17sd ho]
            simp (disch := first | assumption | omega | decide) only [nI_add, n_mul, n_sub, n_le, n_lt, n_eq, n_ne1, n_0, m_bl_t, m_bl_f, if_true, if_false, Nat.reduceAdd, Nat.reduceMul, Nat.reduceSub, Nat.reduceLeDiff, Nat.reduceEqDiff, Nat.add_zero, Nat.add_sub_cancel, Option.toList, List.cons_append, List.nil_append, i101_48, i101_49, i101_50, i101_51, i101_52, i101_53, i101_54, i101_55, i101_56, i101_57, i101_58, i101_59, i101_60, i101_61, i101_62, h8n, eu]
          · rw [eD]
            simp (disch := first | assumption | omega | decide) only [nI_add, n_mul, n_sub, n_le, n_lt, n_eq, n_ne1, n_0, m_bl_t, m_bl_f, if_true, if_false, Nat.reduceAdd, Nat.reduceMul, Nat.reduceSub, Nat.reduceLeDiff, Nat.reduceEqDiff, Nat.add_zero, Nat.add_sub_cancel, Option.toList, List.cons_append, List.nil_append, i183_0, i183_1, i183_2, i183_5, i183_6, i183_7, i183_8, i183_9, i183_10, i183_11, i183_12, i183_20, i183_21, i183_22, i183_23, i183_24, i183_25, i183_37, i183_38, i183_39, i183_40, i183_41, i183_42, i183_43, i183_44, i183_45, i183_46, i183_47, i183_48, i183_49, i183_50, i183_51, i183_52, i183_53, rv_27_0, c121, c112, c111, c113, b_0, hin, Bool.true_eq_false, f02, f57, n3', n4', eu, ← (a6 x hx8).1]
        · by_cases h11 : i < 11
          · obtain ⟨u, rfl⟩ : ∃ u, i = 8 + u := ⟨i - 8, by omega⟩
            have hu3 : u < 3 := by omega
            obtain ⟨d, o, a1, a2, a3, a4, a5, a6, arest⟩ := hL.2.1 u hu3
            have f57 : d_in (nI (8 + u)) (nI 5) (nI 7) = false := fnot 5 (by omega) (by omega)
            have f80 : d_in (nI (8 + u)) (nI 8) (nI 10) = true := fin 8 (by omega) (by omega)
            have h8n : 8 ≤ 8 + u := by omega
            have h11n : ¬ 11 ≤ 8 + u := by omega
            have eu : 8 + u - 8 = u := by omega
            refine same_mk (v := (I 2 (176 + 47 * u + x))) (fun Q => ?_) (fun Q => ?_)
            · rw [eC]
              simp (disch := first | assumption | omega | decide) only [nI_add, n_mul, n_sub, n_le, n_lt, n_eq, n_ne1, n_0, m_bl_t, m_bl_f, if_true, if_false, Nat.reduceAdd, Nat.reduceMul, Nat.reduceSub, Nat.reduceLeDiff, Nat.reduceEqDiff, Nat.add_zero, Nat.add_sub_cancel, Option.toList, List.cons_append, List.nil_append, i101_0, i101_1, i101_2, i101_3, i101_6, i101_7, i101_8, i101_9, i101_12, i101_13, i101_14, i101_15, i101_16, rv_0_0, rv_13_0, rv_1_0, c109, b_0, hb, hb2, Bool.true_eq_false]
              rw [i101_17sd ho]
              simp (disch := first | assumption | omega | decide) only [nI_add, n_mul, n_sub, n_le, n_lt, n_eq, n_ne1, n_0, m_bl_t, m_bl_f, if_true, if_false, Nat.reduceAdd, Nat.reduceMul, Nat.reduceSub, Nat.reduceLeDiff, Nat.reduceEqDiff, Nat.add_zero, Nat.add_sub_cancel, Option.toList, List.cons_append, List.nil_append, i101_48, i101_49, i101_50, i101_63, i101_64, i101_65, i101_66, i101_67, i101_68, i101_69, i101_70, i101_71, i101_72, i101_73, i101_74, i101_75, i101_76, i101_77, h8n, h11n, eu]
            · rw [eD]
              simp (disch := first | assumption | omega | decide) only [nI_add, n_mul, n_sub, n_le, n_lt, n_eq, n_ne1, n_0, m_bl_t, m_bl_f, if_true, if_false, Nat.reduceAdd, Nat.reduceMul, Nat.reduceSub, Nat.reduceLeDiff, Nat.reduceEqDiff, Nat.add_zero, Nat.add_sub_cancel, Option.toList, List.cons_append, List.nil_append, i183_0, i183_1, i183_2, i183_5, i183_6, i183_7, i183_8, i183_9, i183_10, i183_11, i183_12, i183_20, i183_21, i183_22, i183_23, i183_24, i183_25, i183_37, i183_38, i183_39, i183_40, i183_41, i183_54, i183_55, i183_56, i183_57, i183_58, i183_59, i183_60, i183_61, i183_62, i183_63, i183_64, i183_65, i183_66, i183_67, i183_68, i183_69, i183_70, i183_71, i183_72, rv_27_0, c121, c112, c111, c113, b_0, hin, Bool.true_eq_false, f02, f57, f80, n3', n4', eu, ← (a6 x hx8).2.2.2.1]
          · obtain ⟨u, rfl⟩ : ∃ u, i = 11 + u := ⟨i - 11, by omega⟩
            have hu3 : u < 3 := by omega
            obtain ⟨d, o, a1, a2, a3, a4, a5, a6, arest⟩ := hL.2.1 u hu3
            have f57 : d_in (nI (11 + u)) (nI 5) (nI 7) = false := fnot 5 (by omega) (by omega)
            have f80 : d_in (nI (11 + u)) (nI 8) (nI 10) = false := fnot 8 (by omega) (by omega)
            have f13 : d_in (nI (11 + u)) (nI 11) (nI 13) = true := fin 11 (by omega) (by omega)
            have h8n : 8 ≤ 11 + u := by omega
            have h11n : 11 ≤ 11 + u := by omega
            have eu : 11 + u - 11 = u := by omega
            have e6 := (a6 x hx8).2.2.2.2.1
            have e7 : 150 + 154 * u + 135 + 2 * x + 1 = 150 + 154 * u + 136 + 2 * x := by omega
            have e8 : 176 + 47 * u + 8 + x = 184 + 47 * u + x := by omega
            refine same_mk (v := (I 2 (184 + 47 * u + x))) (fun Q => ?_) (fun Q => ?_)
            · rw [eC]
              simp (disch := first | assumption | omega | decide) only [nI_add, n_mul, n_sub, n_le, n_lt, n_eq, n_ne1, n_0, m_bl_t, m_bl_f, if_true, if_false, Nat.reduceAdd, Nat.reduceMul, Nat.reduceSub, Nat.reduceLeDiff, Nat.reduceEqDiff, Nat.add_zero, Nat.add_sub_cancel, Option.toList, List.cons_append, List.nil_append, i101_0, i101_1, i101_2, i101_3, i101_6, i101_7, i101_8, i101_9, i101_12, i101_13, i101_14, i101_15, i101_16, rv_0_0, rv_13_0, rv_1_0, c109, b_0, hb, hb2, Bool.true_eq_false]
              rw [i101_17sd ho]
              simp (disch := first | assumption | omega | decide) only [nI_add, n_mul, n_sub, n_le, n_lt, n_eq, n_ne1, n_0, m_bl_t, m_bl_f, if_true, if_false, Nat.reduceAdd, Nat.reduceMul, Nat.reduceSub, Nat.reduceLeDiff, Nat.reduceEqDiff, Nat.add_zero, Nat.add_sub_cancel, Option.toList, List.cons_append, List.nil_append, i101_48, i101_49, i101_50, i101_63, i101_64, i101_65, i101_78, i101_79, i101_80, i101_81, i101_82, i101_83, i101_84, i101_85, i101_86, i101_87, i101_88, i101_89, i101_90, i101_91, h8n, h11n, eu, e8]
            · rw [eD]
              simp (disch := first | assumption | omega | decide) only [nI_add, n_mul, n_sub, n_le, n_lt, n_eq, n_ne1, n_0, m_bl_t, m_bl_f, if_true, if_false, Nat.reduceAdd, Nat.reduceMul, Nat.reduceSub, Nat.reduceLeDiff, Nat.reduceEqDiff, Nat.add_zero, Nat.add_sub_cancel, Option.toList, List.cons_append, List.nil_append, i183_0, i183_1, i183_2, i183_5, i183_6, i183_7, i183_8, i183_9, i183_10, i183_11, i183_12, i183_20, i183_21, i183_22, i183_23, i183_24, i183_25, i183_37, i183_38, i183_39, i183_40, i183_41, i183_54, i183_55, i183_56, i183_57, i183_58, i183_73, i183_74, i183_75, i183_76, i183_77, i183_78, i183_79, i183_80, i183_81, i183_82, i183_83, i183_84, i183_85, i183_86, i183_87, i183_88, i183_89, i183_90, i183_91, i183_92, i183_93, i183_95, rv_27_0, c121, c112, c111, c113, b_0, hin, Bool.true_eq_false, f02, f57, f80, f13, n3', n4', eu, e7, ← e6]
theorem p_told (hT : TP N e I L) (ht : 55 ≤ t) (v0 v : Int32) : pair_ok V t e N I L 101 [.int v0, .int v] 183 [.int v0, .int v] := same_pair hT (s_told hT ht v0 v)
end RZQ
