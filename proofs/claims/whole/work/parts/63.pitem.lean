/-! item and tear: alike -/
theorem n_inz {s : Nat} (hs : s < 2147483648) (v : Int32) : d_in v (nI 0) (nI s - nI 1) = (decide (nI 0 ≤ v) && decide (v < nI s)) ∧ (d_in v (nI 0) (nI s - nI 1) = true → ∃ u, u < s ∧ v = nI u) := by
  cases s with
  | zero =>
    have e : d_in v (nI 0) (nI 0 - nI 1) = false := by
      unfold d_in
      by_cases h0 : nI 0 ≤ v
      · have : ¬ v ≤ nI 0 - nI 1 := fun q => absurd (Int32.le_trans h0 q) (by decide)
        rw [decide_eq_false this, Bool.and_false]
      · rw [decide_eq_false h0, Bool.false_and]
    refine ⟨?_, fun q => by rw [e] at q; cases q⟩
    rw [e]
    by_cases h0 : nI 0 ≤ v
    · rw [decide_eq_false (Int32.not_lt.mpr h0), Bool.and_false]
    · rw [decide_eq_false h0, Bool.false_and]
  | succ s =>
    rw [n_sub (by omega), Nat.add_sub_cancel]
    exact n_inx hs v
section RZI
variable {V : m_V} {m n : Nat} {ls st : List Value} {t N M : Nat} {I I' : m_I} {R : m_R} {L L' : m_L} {e : Option Nat} {Q : Option Value → Nat → m_I → m_L → m_R → Prop}
def l_cast (l : Nat) (x : Int64) : Int64 := if l = 0 then x &&& lN 1 else if l = 1 then x.toInt32.toInt8.toInt32.toInt64 else if l = 2 then x.toInt32.toInt16.toInt32.toInt64 else if l = 3 then x.toInt32.toInt64 else x
theorem w67 {l : Nat} {x : Int64} (hl : l < 5) : WP V 67 0 (m_loc 67 [.int (nI l), .long x]) [] t I L R Q = Q (some (.long (l_cast l x))) t I L R := by
  rw [show m_loc 67 [.int (nI l), .long x] = [.int (nI l), .long x, m_u] from rfl]
  obtain rfl | rfl | rfl | rfl | rfl : l = 0 ∨ l = 1 ∨ l = 2 ∨ l = 3 ∨ l = 4 := by omega
  · simp (disch := first | assumption | omega | decide) only [nI_add, n_mul, n_sub, n_le, n_lt, n_eq, n_ne1, n_0, m_bl_t, m_bl_f, if_true, if_false, Nat.reduceAdd, Nat.reduceMul, Nat.reduceSub, Nat.reduceLeDiff, Nat.reduceEqDiff, Nat.add_zero, Nat.add_sub_cancel, Option.toList, List.cons_append, List.nil_append, i67_0, i67_1s0, i67_2, i67_3, i67_4, i67_5]
    rfl
  · simp (disch := first | assumption | omega | decide) only [nI_add, n_mul, n_sub, n_le, n_lt, n_eq, n_ne1, n_0, m_bl_t, m_bl_f, if_true, if_false, Nat.reduceAdd, Nat.reduceMul, Nat.reduceSub, Nat.reduceLeDiff, Nat.reduceEqDiff, Nat.add_zero, Nat.add_sub_cancel, Option.toList, List.cons_append, List.nil_append, i67_0, i67_1s1, i67_6, i67_7, i67_8, i67_9, i67_10]
    rfl
  · simp (disch := first | assumption | omega | decide) only [nI_add, n_mul, n_sub, n_le, n_lt, n_eq, n_ne1, n_0, m_bl_t, m_bl_f, if_true, if_false, Nat.reduceAdd, Nat.reduceMul, Nat.reduceSub, Nat.reduceLeDiff, Nat.reduceEqDiff, Nat.add_zero, Nat.add_sub_cancel, Option.toList, List.cons_append, List.nil_append, i67_0, i67_1s2, i67_11, i67_12, i67_13, i67_14, i67_15]
    rfl
  · simp (disch := first | assumption | omega | decide) only [nI_add, n_mul, n_sub, n_le, n_lt, n_eq, n_ne1, n_0, m_bl_t, m_bl_f, if_true, if_false, Nat.reduceAdd, Nat.reduceMul, Nat.reduceSub, Nat.reduceLeDiff, Nat.reduceEqDiff, Nat.add_zero, Nat.add_sub_cancel, Option.toList, List.cons_append, List.nil_append, i67_0, i67_1s3, i67_16, i67_17, i67_18, i67_19]
    rfl
  · have h4 : (nI 4).toInt < 0 ∨ 3 < (nI 4).toInt := by decide
    rw [i67_0, i67_1sd h4]
    simp (disch := first | assumption | omega | decide) only [nI_add, n_mul, n_sub, n_le, n_lt, n_eq, n_ne1, n_0, m_bl_t, m_bl_f, if_true, if_false, Nat.reduceAdd, Nat.reduceMul, Nat.reduceSub, Nat.reduceLeDiff, Nat.reduceEqDiff, Nat.add_zero, Nat.add_sub_cancel, Option.toList, List.cons_append, List.nil_append, i67_20, i67_21]
    rfl
theorem c67 {l : Nat} {x : Int64} (hl : l < 5) : WPC V 67 [.int (nI l), .long x] m n ls st t I L R Q = WP V m n ls ((.long (l_cast l x)) :: st) t I L R Q := wpc_of (fun Q => w67 hl)
theorem w66 (ht : 55 ≤ t) {cc a b i l : Nat} {x : Int64} (hc : cc < 6) (hi : i < 16) (hl : l < 5) (h7 : I 7 cc = nI l) : WP V 66 0 (m_loc 66 [.ref 6, .int (nI cc), .int (nI i), .long x]) [] t I L (m_RR e a b) Q = Q none t I (m_sc L 9 (m_sc (L 9) (cc * 16 + i) (l_cast l x))) (m_RR e a b) := by
  rw [show m_loc 66 [.ref 6, .int (nI cc), .int (nI i), .long x] = [.ref 6, .int (nI cc), .int (nI i), .long x, m_u] from rfl]
  have hj : cc * 16 + i < 96 := by omega
  simp (disch := first | assumption | omega | decide) only [nI_add, n_mul, n_sub, n_le, n_lt, n_eq, n_ne1, n_0, m_bl_t, m_bl_f, if_true, if_false, Nat.reduceAdd, Nat.reduceMul, Nat.reduceSub, Nat.reduceLeDiff, Nat.reduceEqDiff, Nat.add_zero, Nat.add_sub_cancel, Option.toList, List.cons_append, List.nil_append, i66_0, i66_1, i66_2, i66_3, i66_4, i66_5, i66_6, i66_7, i66_8, i66_9, i66_10, i66_11, i66_12, rv_18_0, rv_18_2, rv_6_0, rv_6_2, h7, c67 hl]
  simp (disch := first | assumption | omega | decide) only [nI_add, n_mul, n_sub, n_le, n_lt, n_eq, n_ne1, n_0, m_bl_t, m_bl_f, if_true, if_false, Nat.reduceAdd, Nat.reduceMul, Nat.reduceSub, Nat.reduceLeDiff, Nat.reduceEqDiff, Nat.add_zero, Nat.add_sub_cancel, Option.toList, List.cons_append, List.nil_append, i66_13, i66_14]
theorem c66 (ht : 55 ≤ t) {cc a b i l : Nat} {x : Int64} (hc : cc < 6) (hi : i < 16) (hl : l < 5) (h7 : I 7 cc = nI l) : WPC V 66 [.ref 6, .int (nI cc), .int (nI i), .long x] m n ls st t I L (m_RR e a b) Q = WP V m n ls st t I (m_sc L 9 (m_sc (L 9) (cc * 16 + i) (l_cast l x))) (m_RR e a b) Q := wpc_of (fun Q => w66 ht hc hi hl h7)
theorem w128_30 (ht : 55 ≤ t) {cc b i l : Nat} {x : Int64} (hc : cc < 6) (hi : i < 16) (hl : l < 5) : WP V 128 30 [.ref 27, .int (nI cc), .int (nI i), .long x, m_u, m_u] [.int (nI l)] t I L (m_RR e 28 b) Q = Q (some (.int (nI 0))) t I (m_sc L 37 (m_sc (L 37) (16 * cc + i) (l_cast l x))) (m_RR e 28 b) := by
  have hj : 16 * cc + i < 96 := by omega
  have h37 : m_ar 37 4 96 = true := by decide
  have h37t : 37 < t := by omega
  obtain rfl | rfl | rfl | rfl | rfl : l = 0 ∨ l = 1 ∨ l = 2 ∨ l = 3 ∨ l = 4 := by omega
  · simp (disch := first | assumption | omega | decide) only [nI_add, n_mul, n_sub, n_le, n_lt, n_eq, n_ne1, n_0, m_bl_t, m_bl_f, if_true, if_false, Nat.reduceAdd, Nat.reduceMul, Nat.reduceSub, Nat.reduceLeDiff, Nat.reduceEqDiff, Nat.add_zero, Nat.add_sub_cancel, Option.toList, List.cons_append, List.nil_append, i128_30, i128_31, i128_32, i128_33, i128_34, i128_35, i128_36, i128_37, i128_38, i128_39, i128_40, i128_41, i128_42, i128_43, i128_68, i128_69, i128_70, rv_27_14]
    rfl
  · simp (disch := first | assumption | omega | decide) only [nI_add, n_mul, n_sub, n_le, n_lt, n_eq, n_ne1, n_0, m_bl_t, m_bl_f, if_true, if_false, Nat.reduceAdd, Nat.reduceMul, Nat.reduceSub, Nat.reduceLeDiff, Nat.reduceEqDiff, Nat.add_zero, Nat.add_sub_cancel, Option.toList, List.cons_append, List.nil_append, i128_30, i128_31, i128_32, i128_33, i128_34, i128_35, i128_36, i128_37, i128_38, i128_39, i128_44, i128_45, i128_46, i128_47, i128_48, i128_49, i128_50, i128_51, i128_68, i128_69, i128_70, rv_27_14]
    rfl
  · simp (disch := first | assumption | omega | decide) only [nI_add, n_mul, n_sub, n_le, n_lt, n_eq, n_ne1, n_0, m_bl_t, m_bl_f, if_true, if_false, Nat.reduceAdd, Nat.reduceMul, Nat.reduceSub, Nat.reduceLeDiff, Nat.reduceEqDiff, Nat.add_zero, Nat.add_sub_cancel, Option.toList, List.cons_append, List.nil_append, i128_30, i128_31, i128_32, i128_33, i128_34, i128_35, i128_36, i128_37, i128_38, i128_39, i128_44, i128_45, i128_46, i128_52, i128_53, i128_54, i128_55, i128_56, i128_57, i128_58, i128_59, i128_68, i128_69, i128_70, rv_27_14]
    rfl
  · simp (disch := first | assumption | omega | decide) only [nI_add, n_mul, n_sub, n_le, n_lt, n_eq, n_ne1, n_0, m_bl_t, m_bl_f, if_true, if_false, Nat.reduceAdd, Nat.reduceMul, Nat.reduceSub, Nat.reduceLeDiff, Nat.reduceEqDiff, Nat.add_zero, Nat.add_sub_cancel, Option.toList, List.cons_append, List.nil_append, i128_30, i128_31, i128_32, i128_33, i128_34, i128_35, i128_36, i128_37, i128_38, i128_39, i128_44, i128_45, i128_46, i128_52, i128_53, i128_54, i128_60, i128_61, i128_62, i128_63, i128_64, i128_65, i128_66, i128_68, i128_69, i128_70, rv_27_14]
    rfl
  · simp (disch := first | assumption | omega | decide) only [nI_add, n_mul, n_sub, n_le, n_lt, n_eq, n_ne1, n_0, m_bl_t, m_bl_f, if_true, if_false, Nat.reduceAdd, Nat.reduceMul, Nat.reduceSub, Nat.reduceLeDiff, Nat.reduceEqDiff, Nat.add_zero, Nat.add_sub_cancel, Option.toList, List.cons_append, List.nil_append, i128_30, i128_31, i128_32, i128_33, i128_34, i128_35, i128_36, i128_37, i128_38, i128_39, i128_44, i128_45, i128_46, i128_52, i128_53, i128_54, i128_60, i128_61, i128_62, i128_67, i128_68, i128_69, i128_70, rv_27_14]
    rfl
theorem p_item (hT : TP N e I L) (ht : 55 ≤ t) (v0 v : Int32) (x : Int64) : pair_ok V t e N I L 89 [.int v0, .int v, .long x] 128 [.int v0, .int v, .long x] := by
  obtain ⟨i1, i2⟩ := n_inx (m := 5) (by omega) v0
  have eC : m_loc 89 (.ref 0 :: [.int v0, .int v, .long x]) = [.ref 0, .int v0, .int v, .long x, m_u] := rfl
  have eD : m_loc 128 (.ref 27 :: [.int v0, .int v, .long x]) = [.ref 27, .int v0, .int v, .long x, m_u, m_u] := rfl
  cases hin : d_in v0 (nI 0) (nI 5)
  · rw [hin] at i1
    refine pair_v (v := .int (-101)) hT (fun Q => ?_) (fun Q => ?_)
    · rw [eC]
      simp (disch := first | assumption | omega | decide) only [nI_add, n_mul, n_sub, n_le, n_lt, n_eq, n_ne1, n_0, m_bl_t, m_bl_f, if_true, if_false, Nat.reduceAdd, Nat.reduceMul, Nat.reduceSub, Nat.reduceLeDiff, Nat.reduceEqDiff, Nat.add_zero, Nat.add_sub_cancel, Option.toList, List.cons_append, List.nil_append, i89_0, i89_1, i89_2, i89_3, i89_4, i89_5, c109, b_0, ← i1]
    · rw [eD]
      simp (disch := first | assumption | omega | decide) only [nI_add, n_mul, n_sub, n_le, n_lt, n_eq, n_ne1, n_0, m_bl_t, m_bl_f, if_true, if_false, Nat.reduceAdd, Nat.reduceMul, Nat.reduceSub, Nat.reduceLeDiff, Nat.reduceEqDiff, Nat.add_zero, Nat.add_sub_cancel, Option.toList, List.cons_append, List.nil_append, i128_0, i128_1, i128_2, i128_3, i128_4, i128_5, i128_6, c111, b_0, hin]
  · obtain ⟨cc, hcc, rfl⟩ := i2 hin
    have hcc6 : cc < 6 := by omega
    have hb : (decide (0 ≤ cc) && decide (cc < 6)) = true := by simp [hcc6]
    obtain ⟨a1, ⟨s, s1, s2, s3⟩, a3, a4⟩ := hT.1.2.1 cc hcc6
    by_cases h7 : I 7 cc = -1
    · have h34 := a1.mp h7
      have hd : decide (I 7 cc = -1) = true := decide_eq_true h7
      refine pair_v (v := .int (-103)) hT (fun Q => ?_) (fun Q => ?_)
      · rw [eC]
        simp (disch := first | assumption | omega | decide) only [nI_add, n_mul, n_sub, n_le, n_lt, n_eq, n_ne1, n_0, m_bl_t, m_bl_f, if_true, if_false, Nat.reduceAdd, Nat.reduceMul, Nat.reduceSub, Nat.reduceLeDiff, Nat.reduceEqDiff, Nat.add_zero, Nat.add_sub_cancel, Option.toList, List.cons_append, List.nil_append, i89_0, i89_1, i89_2, i89_3, i89_6, i89_7, i89_8, i89_9, i89_10, i89_11, i89_12, i89_13, rv_0_0, rv_13_2, rv_1_2, c109, c64 ht hcc6, b_0, hb, hd, Bool.true_eq_false]
      · rw [eD]
        simp (disch := first | assumption | omega | decide) only [nI_add, n_mul, n_sub, n_le, n_lt, n_eq, n_ne1, n_0, m_bl_t, m_bl_f, if_true, if_false, Nat.reduceAdd, Nat.reduceMul, Nat.reduceSub, Nat.reduceLeDiff, Nat.reduceEqDiff, Nat.add_zero, Nat.add_sub_cancel, Option.toList, List.cons_append, List.nil_append, i128_0, i128_1, i128_2, i128_3, i128_4, i128_7, i128_8, i128_9, i128_10, i128_11, i128_12, i128_13, rv_27_11, c111, b_0, hin, Bool.true_eq_false, h34]
    · have h34 : ¬ I 34 cc = nI 0 := fun q => h7 (a1.mpr q)
      have hd : decide (I 7 cc = -1) = false := decide_eq_false h7
      obtain ⟨l0, l, hl, hl7⟩ := a3 h7
      obtain ⟨j1, j2⟩ := n_inz (s := s) (by omega) v
      cases hv : d_in v (nI 0) (nI s - nI 1)
      · rw [hv] at j1
        refine pair_v (v := .int (-102)) hT (fun Q => ?_) (fun Q => ?_)
        · rw [eC]
          simp (disch := first | assumption | omega | decide) only [nI_add, n_mul, n_sub, n_le, n_lt, n_eq, n_ne1, n_0, m_bl_t, m_bl_f, if_true, if_false, Nat.reduceAdd, Nat.reduceMul, Nat.reduceSub, Nat.reduceLeDiff, Nat.reduceEqDiff, Nat.add_zero, Nat.add_sub_cancel, Option.toList, List.cons_append, List.nil_append, i89_0, i89_1, i89_2, i89_3, i89_6, i89_7, i89_8, i89_9, i89_10, i89_11, i89_14, i89_15, i89_16, i89_17, i89_18, i89_19, i89_20, i89_21, i89_22, i89_23, i89_24, rv_0_0, rv_13_2, rv_18_1, rv_1_2, rv_6_1, c109, c64 ht hcc6, b_0, hb, hd, Bool.true_eq_false, s2, ← j1]
        · rw [eD]
          simp (disch := first | assumption | omega | decide) only [nI_add, n_mul, n_sub, n_le, n_lt, n_eq, n_ne1, n_0, m_bl_t, m_bl_f, if_true, if_false, Nat.reduceAdd, Nat.reduceMul, Nat.reduceSub, Nat.reduceLeDiff, Nat.reduceEqDiff, Nat.add_zero, Nat.add_sub_cancel, Option.toList, List.cons_append, List.nil_append, i128_0, i128_1, i128_2, i128_3, i128_4, i128_7, i128_8, i128_9, i128_10, i128_11, i128_14, i128_15, i128_16, i128_17, i128_18, i128_19, i128_20, rv_27_11, rv_27_13, c111, b_0, hin, Bool.true_eq_false, h34, s3]
          rw [i128_21]
          simp (disch := first | assumption | omega | decide) only [nI_add, n_mul, n_sub, n_le, n_lt, n_eq, n_ne1, n_0, m_bl_t, m_bl_f, if_true, if_false, Nat.reduceAdd, Nat.reduceMul, Nat.reduceSub, Nat.reduceLeDiff, Nat.reduceEqDiff, Nat.add_zero, Nat.add_sub_cancel, Option.toList, List.cons_append, List.nil_append, i128_22, i128_23, i128_24, i128_25, c111, b_0, hv]
      · obtain ⟨i, hi, rfl⟩ := j2 hv
        have hi16 : i < 16 := by omega
        have hb2 : (decide (0 ≤ i) && decide (i < s)) = true := by simp [hi]
        have hv' : d_in (nI i) (nI 0) (nI (s - 1)) = true := by rw [← n_sub (by omega)]; exact hv
        refine ⟨.int (nI 0), I, m_sc L 9 (m_sc (L 9) (cc * 16 + i) (l_cast l x)), I, m_sc (m_sc L 9 (m_sc (L 9) (cc * 16 + i) (l_cast l x))) 37 (m_sc (L 37) (16 * cc + i) (l_cast l x)), fun Q => ?_, fun Q => ?_, ?_⟩
        · rw [eC]
          simp (disch := first | assumption | omega | decide) only [nI_add, n_mul, n_sub, n_le, n_lt, n_eq, n_ne1, n_0, m_bl_t, m_bl_f, if_true, if_false, Nat.reduceAdd, Nat.reduceMul, Nat.reduceSub, Nat.reduceLeDiff, Nat.reduceEqDiff, Nat.add_zero, Nat.add_sub_cancel, Option.toList, List.cons_append, List.nil_append, i89_0, i89_1, i89_2, i89_3, i89_6, i89_7, i89_8, i89_9, i89_10, i89_11, i89_14, i89_15, i89_16, i89_17, i89_18, i89_19, i89_20, i89_21, i89_22, rv_0_0, rv_13_2, rv_18_1, rv_1_2, rv_6_1, c109, c64 ht hcc6, b_0, hb, hb2, hd, Bool.true_eq_false, s2]
          simp (disch := first | assumption | omega | decide) only [nI_add, n_mul, n_sub, n_le, n_lt, n_eq, n_ne1, n_0, m_bl_t, m_bl_f, if_true, if_false, Nat.reduceAdd, Nat.reduceMul, Nat.reduceSub, Nat.reduceLeDiff, Nat.reduceEqDiff, Nat.add_zero, Nat.add_sub_cancel, Option.toList, List.cons_append, List.nil_append, i89_25, i89_26, i89_27, i89_28, i89_29, i89_30, i89_31, rv_0_0, rv_13_2, rv_1_2, c66 ht hcc6 hi16 hl hl7]
          simp (disch := first | assumption | omega | decide) only [nI_add, n_mul, n_sub, n_le, n_lt, n_eq, n_ne1, n_0, m_bl_t, m_bl_f, if_true, if_false, Nat.reduceAdd, Nat.reduceMul, Nat.reduceSub, Nat.reduceLeDiff, Nat.reduceEqDiff, Nat.add_zero, Nat.add_sub_cancel, Option.toList, List.cons_append, List.nil_append, i89_32, i89_33]
        · rw [eD]
          simp (disch := first | assumption | omega | decide) only [nI_add, n_mul, n_sub, n_le, n_lt, n_eq, n_ne1, n_0, m_bl_t, m_bl_f, if_true, if_false, Nat.reduceAdd, Nat.reduceMul, Nat.reduceSub, Nat.reduceLeDiff, Nat.reduceEqDiff, Nat.add_zero, Nat.add_sub_cancel, Option.toList, List.cons_append, List.nil_append, i128_0, i128_1, i128_2, i128_3, i128_4, i128_7, i128_8, i128_9, i128_10, i128_11, i128_14, i128_15, i128_16, i128_17, i128_18, i128_19, i128_20, rv_27_11, rv_27_13, c111, b_0, hin, Bool.true_eq_false, h34, s3]
          rw [i128_21]
          simp (disch := first | assumption | omega | decide) only [nI_add, n_mul, n_sub, n_le, n_lt, n_eq, n_ne1, n_0, m_bl_t, m_bl_f, if_true, if_false, Nat.reduceAdd, Nat.reduceMul, Nat.reduceSub, Nat.reduceLeDiff, Nat.reduceEqDiff, Nat.add_zero, Nat.add_sub_cancel, Option.toList, List.cons_append, List.nil_append, i128_22, i128_23, c111, b_0, hv', Bool.true_eq_false]
          simp (disch := first | assumption | omega | decide) only [nI_add, n_mul, n_sub, n_le, n_lt, n_eq, n_ne1, n_0, m_bl_t, m_bl_f, if_true, if_false, Nat.reduceAdd, Nat.reduceMul, Nat.reduceSub, Nat.reduceLeDiff, Nat.reduceEqDiff, Nat.add_zero, Nat.add_sub_cancel, Option.toList, List.cons_append, List.nil_append, i128_26, i128_27, i128_28, i128_29, rv_27_12, ← l0, hl7]
          rw [w128_30 ht hcc6 hi16 hl, m_sc_ne (j := 37) (k := 9) (by omega)]
        · have hL : ∀ k, k ≠ 9 → k ≠ 37 → m_sc (m_sc L 9 (m_sc (L 9) (cc * 16 + i) (l_cast l x))) 37 (m_sc (L 37) (16 * cc + i) (l_cast l x)) k = L k := fun k h1 h2 => by rw [m_sc_ne h2, m_sc_ne h1]
          have hro : rl_ro I (m_sc (m_sc L 9 (m_sc (L 9) (cc * 16 + i) (l_cast l x))) 37 (m_sc (L 37) (16 * cc + i) (l_cast l x))) := by
            intro y hy
            obtain ⟨b1, b2, b3, b4⟩ := hT.1.2.1 y hy
            refine ⟨b1, b2, b3, fun i' hi' => ?_⟩
            rw [m_sc_ne (j := 9) (by omega), m_sc_self, m_sc_self, show 16 * cc + i = cc * 16 + i by omega]
            by_cases hq : 16 * y + i' = cc * 16 + i
            · rw [hq, m_sc_self, m_sc_self]
            · rw [m_sc_ne hq, m_sc_ne hq]; exact b4 i' hi'
          exact TP_of hT ⟨rl_XX_le hT.1.1 (Nat.le_add_right _ _), hro, hT.1.2.2.1, hT.1.2.2.2⟩ rfl (fun j hj => rfl) rfl rfl rfl (fun k hk => rfl) (hL _ (by omega) (by omega)) (hL _ (by omega) (by omega)) (Nat.le_add_right _ _)
theorem p_tear (hT : TP N e I L) (ht : 55 ≤ t) (v0 : Int32) : pair_ok V t e N I L 90 [.int v0] 129 [.int v0] := by
  obtain ⟨i1, i2⟩ := n_inx (m := 5) (by omega) v0
  have eC : m_loc 90 (.ref 0 :: [.int v0]) = [.ref 0, .int v0] := rfl
  have eD : m_loc 129 (.ref 27 :: [.int v0]) = [.ref 27, .int v0, m_u] := rfl
  cases hin : d_in v0 (nI 0) (nI 5)
  · rw [hin] at i1
    refine pair_v (v := .int (-101)) hT (fun Q => ?_) (fun Q => ?_)
    · rw [eC]
      simp (disch := first | assumption | omega | decide) only [nI_add, n_mul, n_sub, n_le, n_lt, n_eq, n_ne1, n_0, m_bl_t, m_bl_f, if_true, if_false, Nat.reduceAdd, Nat.reduceMul, Nat.reduceSub, Nat.reduceLeDiff, Nat.reduceEqDiff, Nat.add_zero, Nat.add_sub_cancel, Option.toList, List.cons_append, List.nil_append, i90_0, i90_1, i90_2, i90_3, i90_4, i90_5, c109, b_0, ← i1]
    · rw [eD]
      simp (disch := first | assumption | omega | decide) only [nI_add, n_mul, n_sub, n_le, n_lt, n_eq, n_ne1, n_0, m_bl_t, m_bl_f, if_true, if_false, Nat.reduceAdd, Nat.reduceMul, Nat.reduceSub, Nat.reduceLeDiff, Nat.reduceEqDiff, Nat.add_zero, Nat.add_sub_cancel, Option.toList, List.cons_append, List.nil_append, i129_0, i129_1, i129_2, i129_3, i129_4, i129_5, i129_6, c111, b_0, hin]
  · obtain ⟨cc, hcc, rfl⟩ := i2 hin
    have hcc6 : cc < 6 := by omega
    have hb : (decide (0 ≤ cc) && decide (cc < 6)) = true := by simp [hcc6]
    obtain ⟨a1, a2, a3, a4⟩ := hT.1.2.1 cc hcc6
    have e0 : nI 0 &&& 1 = nI 0 := by decide
    have e11 : nI 1 - nI 0 = nI 1 := by decide
    have e10 : nI 1 - nI 1 = nI 0 := by decide
    by_cases h7 : I 7 cc = -1
    · have h34 := a1.mp h7
      have hd : decide (I 7 cc = -1) = true := decide_eq_true h7
      have hs : m_sc I 34 (m_sc (I 34) cc (nI 0)) = I := by rw [← h34, sc_id, sc_id]
      refine pair_v (v := .int (nI 0)) hT (fun Q => ?_) (fun Q => ?_)
      · rw [eC]
        simp (disch := first | assumption | omega | decide) only [nI_add, n_mul, n_sub, n_le, n_lt, n_eq, n_ne1, n_0, m_bl_t, m_bl_f, if_true, if_false, Nat.reduceAdd, Nat.reduceMul, Nat.reduceSub, Nat.reduceLeDiff, Nat.reduceEqDiff, Nat.add_zero, Nat.add_sub_cancel, Option.toList, List.cons_append, List.nil_append, i90_0, i90_1, i90_2, i90_3, i90_6, i90_7, i90_8, i90_9, i90_10, i90_11, i90_12, i90_13, rv_0_0, rv_13_2, rv_1_2, c109, c64 ht hcc6, b_0, hb, hd, Bool.true_eq_false]
      · rw [eD]
        simp (disch := first | assumption | omega | decide) only [nI_add, n_mul, n_sub, n_le, n_lt, n_eq, n_ne1, n_0, m_bl_t, m_bl_f, if_true, if_false, Nat.reduceAdd, Nat.reduceMul, Nat.reduceSub, Nat.reduceLeDiff, Nat.reduceEqDiff, Nat.add_zero, Nat.add_sub_cancel, Option.toList, List.cons_append, List.nil_append, i129_0, i129_1, i129_2, i129_3, i129_4, i129_7, i129_8, i129_9, i129_10, i129_11, i129_14, i129_15, i129_16, i129_17, i129_18, i129_19, i129_20, i129_21, i129_22, i129_23, i129_24, rv_27_11, c111, b_0, hin, Bool.true_eq_false, h34, e0, e10]
        rw [hs]
    · have h34 : ¬ I 34 cc = nI 0 := fun q => h7 (a1.mpr q)
      have hd : decide (I 7 cc = -1) = false := decide_eq_false h7
      have O : ∀ k, k ≠ 7 → k ≠ 34 → m_sc (m_sc I 7 (m_sc (I 7) cc (-1))) 34 (m_sc (I 34) cc (nI 0)) k = I k := fun k h1 h2 => by rw [m_sc_ne h2, m_sc_ne h1]
      refine ⟨.int (nI 1), m_sc I 7 (m_sc (I 7) cc (-1)), L, m_sc (m_sc I 7 (m_sc (I 7) cc (-1))) 34 (m_sc (I 34) cc (nI 0)), L, fun Q => ?_, fun Q => ?_, ?_⟩
      · rw [eC]
        simp (disch := first | assumption | omega | decide) only [nI_add, n_mul, n_sub, n_le, n_lt, n_eq, n_ne1, n_0, m_bl_t, m_bl_f, if_true, if_false, Nat.reduceAdd, Nat.reduceMul, Nat.reduceSub, Nat.reduceLeDiff, Nat.reduceEqDiff, Nat.add_zero, Nat.add_sub_cancel, Option.toList, List.cons_append, List.nil_append, i90_0, i90_1, i90_2, i90_3, i90_6, i90_7, i90_8, i90_9, i90_10, i90_11, i90_14, i90_15, i90_16, i90_17, i90_18, i90_19, i90_20, i90_21, i90_22, rv_0_0, rv_13_2, rv_18_0, rv_1_2, rv_6_0, c109, c64 ht hcc6, b_0, hb, hd, Bool.true_eq_false]
      · rw [eD]
        have e34 : m_sc I 7 (m_sc (I 7) cc (-1)) 34 = I 34 := m_sc_ne (by omega)
        simp (disch := first | assumption | omega | decide) only [nI_add, n_mul, n_sub, n_le, n_lt, n_eq, n_ne1, n_0, m_bl_t, m_bl_f, if_true, if_false, Nat.reduceAdd, Nat.reduceMul, Nat.reduceSub, Nat.reduceLeDiff, Nat.reduceEqDiff, Nat.add_zero, Nat.add_sub_cancel, Option.toList, List.cons_append, List.nil_append, i129_0, i129_1, i129_2, i129_3, i129_4, i129_7, i129_8, i129_9, i129_10, i129_11, i129_12, i129_13, i129_15, i129_16, i129_17, i129_18, i129_19, i129_20, i129_21, i129_22, i129_23, i129_24, rv_27_11, c111, b_0, hin, Bool.true_eq_false, e34, h34, e0, e11]
      · have hro : rl_ro (m_sc (m_sc I 7 (m_sc (I 7) cc (-1))) 34 (m_sc (I 34) cc (nI 0))) L := by
          intro y hy
          obtain ⟨b1, b2, b3, b4⟩ := hT.1.2.1 y hy
          rw [O 8 (by omega) (by omega), O 36 (by omega) (by omega), O 35 (by omega) (by omega), m_sc_self, m_sc_ne (k := 34) (j := 7) (by omega), m_sc_self]
          by_cases hq : y = cc
          · subst hq
            rw [m_sc_self, m_sc_self]
            exact ⟨⟨fun _ => rfl, fun _ => rfl⟩, b2, fun q => absurd rfl q, b4⟩
          · rw [m_sc_ne hq, m_sc_ne hq]
            exact ⟨b1, b2, b3, b4⟩
        exact TP_of hT ⟨rl_XX_le (XX_cell hT.1 (O _ (by omega) (by omega)) (O _ (by omega) (by omega)) (O _ (by omega) (by omega)) (O _ (by omega) (by omega)) (O _ (by omega) (by omega)) (O _ (by omega) (by omega)) (O _ (by omega) (by omega)) (O _ (by omega) (by omega)) (O _ (by omega) (by omega))) (Nat.le_add_right _ _), hro, cd_cell hT.1.2.2.1 (O _ (by omega) (by omega)) (O _ (by omega) (by omega)) (O _ (by omega) (by omega)) (O _ (by omega) (by omega)) (O _ (by omega) (by omega)) (O _ (by omega) (by omega)) (O _ (by omega) (by omega)), fs_cell hT.1.2.2.2 (O _ (by omega) (by omega)) (O _ (by omega) (by omega)) (O _ (by omega) (by omega))⟩ (O _ (by omega) (by omega)) (fun j hj => by rw [O _ (by omega) (by omega)]) (O _ (by omega) (by omega)) (O _ (by omega) (by omega)) (O _ (by omega) (by omega)) (fun k hk => O _ (by unfold cellK at hk; omega) (by unfold cellK at hk; omega)) rfl rfl (Nat.le_add_right _ _)
end RZI
