/-! count and order: alike -/
section RZR
variable {V : m_V} {m n : Nat} {ls st : List Value} {t N M : Nat} {I I' : m_I} {R : m_R} {L L' : m_L} {e : Option Nat} {a b u x : Nat} {Q : Option Value → Nat → m_I → m_L → m_R → Prop}
def c_noted (nn : Nat → Int32) : Int32 := if nI 60 < nn 2 then nI 60 else nn 2
theorem w54 (ht : 55 ≤ t) : WP V 54 0 (m_loc 54 [.ref 10]) [] t I L (m_RR e a b) Q = Q (some (.int (c_noted (I 10)))) t I L (m_RR e a b) := by
  rw [show m_loc 54 [.ref 10] = [.ref 10] from rfl]
  simp (disch := first | assumption | omega | decide) only [nI_add, n_mul, n_sub, n_le, n_lt, n_eq, n_ne1, n_0, m_bl_t, m_bl_f, if_true, if_false, Nat.reduceAdd, Nat.reduceMul, Nat.reduceSub, Nat.reduceLeDiff, Nat.reduceEqDiff, Nat.add_zero, Nat.add_sub_cancel, Option.toList, List.cons_append, List.nil_append, i54_0, i54_1, i54_2, i54_3, i54_4]
  rfl
theorem c54 (ht : 55 ≤ t) : WPC V 54 [.ref 10] m n ls st t I L (m_RR e a b) Q = WP V m n ls ((.int (c_noted (I 10))) :: st) t I L (m_RR e a b) Q := wpc_of (fun Q => w54 ht)
theorem noted_eq {nn ww h : Nat → Int32} {k n : Nat} (hN : rl_Nt nn ww h I k n) (hk : k < 800000) : c_noted nn = nI n ∧ h 17 = nI n ∧ n ≤ 60 := by
  obtain ⟨a1, a2, a3, a4, a5⟩ := hN
  refine ⟨?_, a3, by omega⟩
  unfold c_noted
  rw [a1]
  by_cases q : nI 60 < nI k
  · rw [if_pos q]
    rw [n_lt (by omega) (by omega)] at q
    rw [show n = 60 by omega]
  · rw [if_neg q]
    rw [n_lt (by omega) (by omega)] at q
    rw [show n = k by omega]
theorem s_count (hT : TP N e I L) (hN : N < 800000) (ht : 55 ≤ t) (v : Int32) : same_v V t e I L 102 [.int v] 184 [.int v] := by
  obtain ⟨j1, j2⟩ := n_inx (m := 7) (by omega) v
  have eC : m_loc 102 (.ref 0 :: [.int v]) = [.ref 0, .int v] := rfl
  have eD : m_loc 184 (.ref 27 :: [.int v]) = [.ref 27, .int v] := rfl
  have hA := aa28
  obtain ⟨c, b, k, n, c1, b1, k1, hL, n3, h5, hNt, hO⟩ := XX_get hT.1.1
  cases hv : d_in v (nI 0) (nI 7)
  · have ho := d_out hv (by omega)
    refine same_mk (v := (-102)) (fun Q => ?_) (fun Q => ?_)
    · rw [eC, i102_0, i102_1sd (by omega)]
      simp (disch := first | assumption | omega | decide) only [nI_add, n_mul, n_sub, n_le, n_lt, n_eq, n_ne1, n_0, m_bl_t, m_bl_f, if_true, if_false, Nat.reduceAdd, Nat.reduceMul, Nat.reduceSub, Nat.reduceLeDiff, Nat.reduceEqDiff, Nat.add_zero, Nat.add_sub_cancel, Option.toList, List.cons_append, List.nil_append, i102_48, i102_49]
    · rw [eD, i184_0, i184_1sd (by omega)]
      simp (disch := first | assumption | omega | decide) only [nI_add, n_mul, n_sub, n_le, n_lt, n_eq, n_ne1, n_0, m_bl_t, m_bl_f, if_true, if_false, Nat.reduceAdd, Nat.reduceMul, Nat.reduceSub, Nat.reduceLeDiff, Nat.reduceEqDiff, Nat.add_zero, Nat.add_sub_cancel, Option.toList, List.cons_append, List.nil_append, i184_32, i184_33]
  · obtain ⟨i, hi, rfl⟩ := j2 hv
    obtain ⟨g1, g2, g3, g4, g5, g6⟩ := hL.1
    obtain ⟨z1, z2, z3⟩ := noted_eq hNt (by omega)
    obtain rfl | rfl | rfl | rfl | rfl | rfl | rfl | rfl : i = 0 ∨ i = 1 ∨ i = 2 ∨ i = 3 ∨ i = 4 ∨ i = 5 ∨ i = 6 ∨ i = 7 := by omega
    · refine same_mk (v := (nI c)) (fun Q => ?_) (fun Q => ?_)
      · rw [eC]
        simp (disch := first | assumption | omega | decide) only [nI_add, n_mul, n_sub, n_le, n_lt, n_eq, n_ne1, n_0, m_bl_t, m_bl_f, if_true, if_false, Nat.reduceAdd, Nat.reduceMul, Nat.reduceSub, Nat.reduceLeDiff, Nat.reduceEqDiff, Nat.add_zero, Nat.add_sub_cancel, Option.toList, List.cons_append, List.nil_append, i102_0, i102_1s0, i102_2, i102_3, i102_4, i102_5, i102_6, i102_7, rv_0_0, rv_13_0, rv_1_0, g1]
      · rw [eD]
        simp (disch := first | assumption | omega | decide) only [nI_add, n_mul, n_sub, n_le, n_lt, n_eq, n_ne1, n_0, m_bl_t, m_bl_f, if_true, if_false, Nat.reduceAdd, Nat.reduceMul, Nat.reduceSub, Nat.reduceLeDiff, Nat.reduceEqDiff, Nat.add_zero, Nat.add_sub_cancel, Option.toList, List.cons_append, List.nil_append, i184_0, i184_1s0, i184_2, i184_3, i184_4, i184_5, i184_6, rv_27_0, g2]
    · refine same_mk (v := (nI k)) (fun Q => ?_) (fun Q => ?_)
      · rw [eC]
        simp (disch := first | assumption | omega | decide) only [nI_add, n_mul, n_sub, n_le, n_lt, n_eq, n_ne1, n_0, m_bl_t, m_bl_f, if_true, if_false, Nat.reduceAdd, Nat.reduceMul, Nat.reduceSub, Nat.reduceLeDiff, Nat.reduceEqDiff, Nat.add_zero, Nat.add_sub_cancel, Option.toList, List.cons_append, List.nil_append, i102_0, i102_1s1, i102_8, i102_9, i102_10, i102_11, i102_12, rv_0_0, rv_13_3, rv_1_3, hNt.1]
      · rw [eD]
        simp (disch := first | assumption | omega | decide) only [nI_add, n_mul, n_sub, n_le, n_lt, n_eq, n_ne1, n_0, m_bl_t, m_bl_f, if_true, if_false, Nat.reduceAdd, Nat.reduceMul, Nat.reduceSub, Nat.reduceLeDiff, Nat.reduceEqDiff, Nat.add_zero, Nat.add_sub_cancel, Option.toList, List.cons_append, List.nil_append, i184_0, i184_1s1, i184_7, i184_8, i184_9, hNt.2.1]
    · refine same_mk (v := (nI n)) (fun Q => ?_) (fun Q => ?_)
      · rw [eC]
        simp (disch := first | assumption | omega | decide) only [nI_add, n_mul, n_sub, n_le, n_lt, n_eq, n_ne1, n_0, m_bl_t, m_bl_f, if_true, if_false, Nat.reduceAdd, Nat.reduceMul, Nat.reduceSub, Nat.reduceLeDiff, Nat.reduceEqDiff, Nat.add_zero, Nat.add_sub_cancel, Option.toList, List.cons_append, List.nil_append, i102_0, i102_1s2, i102_13, i102_14, i102_15, i102_16, i102_17, rv_0_0, rv_13_3, rv_1_3, c54 ht, z1]
      · rw [eD]
        simp (disch := first | assumption | omega | decide) only [nI_add, n_mul, n_sub, n_le, n_lt, n_eq, n_ne1, n_0, m_bl_t, m_bl_f, if_true, if_false, Nat.reduceAdd, Nat.reduceMul, Nat.reduceSub, Nat.reduceLeDiff, Nat.reduceEqDiff, Nat.add_zero, Nat.add_sub_cancel, Option.toList, List.cons_append, List.nil_append, i184_0, i184_1s2, i184_10, i184_11, i184_12, z2]
    · refine same_mk (v := (nI b)) (fun Q => ?_) (fun Q => ?_)
      · rw [eC]
        simp (disch := first | assumption | omega | decide) only [nI_add, n_mul, n_sub, n_le, n_lt, n_eq, n_ne1, n_0, m_bl_t, m_bl_f, if_true, if_false, Nat.reduceAdd, Nat.reduceMul, Nat.reduceSub, Nat.reduceLeDiff, Nat.reduceEqDiff, Nat.add_zero, Nat.add_sub_cancel, Option.toList, List.cons_append, List.nil_append, i102_0, i102_1s3, i102_18, i102_19, i102_20, i102_21, i102_22, i102_23, rv_0_0, rv_13_0, rv_1_0, hL.2.2.2.2.2.1]
      · rw [eD]
        simp (disch := first | assumption | omega | decide) only [nI_add, n_mul, n_sub, n_le, n_lt, n_eq, n_ne1, n_0, m_bl_t, m_bl_f, if_true, if_false, Nat.reduceAdd, Nat.reduceMul, Nat.reduceSub, Nat.reduceLeDiff, Nat.reduceEqDiff, Nat.add_zero, Nat.add_sub_cancel, Option.toList, List.cons_append, List.nil_append, i184_0, i184_1s3, i184_13, i184_14, i184_15, hL.2.2.2.2.2.2.1]
    · refine same_mk (v := (I 2 560)) (fun Q => ?_) (fun Q => ?_)
      · rw [eC]
        simp (disch := first | assumption | omega | decide) only [nI_add, n_mul, n_sub, n_le, n_lt, n_eq, n_ne1, n_0, m_bl_t, m_bl_f, if_true, if_false, Nat.reduceAdd, Nat.reduceMul, Nat.reduceSub, Nat.reduceLeDiff, Nat.reduceEqDiff, Nat.add_zero, Nat.add_sub_cancel, Option.toList, List.cons_append, List.nil_append, i102_0, i102_1s4, i102_24, i102_25, i102_26, i102_27, i102_28, i102_29, rv_0_0, rv_13_0, rv_1_0]
      · rw [eD]
        simp (disch := first | assumption | omega | decide) only [nI_add, n_mul, n_sub, n_le, n_lt, n_eq, n_ne1, n_0, m_bl_t, m_bl_f, if_true, if_false, Nat.reduceAdd, Nat.reduceMul, Nat.reduceSub, Nat.reduceLeDiff, Nat.reduceEqDiff, Nat.add_zero, Nat.add_sub_cancel, Option.toList, List.cons_append, List.nil_append, i184_0, i184_1s4, i184_16, i184_17, i184_18, ← hO.1]
    · refine same_mk (v := (I 2 1)) (fun Q => ?_) (fun Q => ?_)
      · rw [eC]
        simp (disch := first | assumption | omega | decide) only [nI_add, n_mul, n_sub, n_le, n_lt, n_eq, n_ne1, n_0, m_bl_t, m_bl_f, if_true, if_false, Nat.reduceAdd, Nat.reduceMul, Nat.reduceSub, Nat.reduceLeDiff, Nat.reduceEqDiff, Nat.add_zero, Nat.add_sub_cancel, Option.toList, List.cons_append, List.nil_append, i102_0, i102_1s5, i102_30, i102_31, i102_32, i102_33, i102_34, i102_35, rv_0_0, rv_13_0, rv_1_0]
      · rw [eD]
        simp (disch := first | assumption | omega | decide) only [nI_add, n_mul, n_sub, n_le, n_lt, n_eq, n_ne1, n_0, m_bl_t, m_bl_f, if_true, if_false, Nat.reduceAdd, Nat.reduceMul, Nat.reduceSub, Nat.reduceLeDiff, Nat.reduceEqDiff, Nat.add_zero, Nat.add_sub_cancel, Option.toList, List.cons_append, List.nil_append, i184_0, i184_1s5, i184_19, i184_20, i184_21, i184_22, i184_23, rv_27_0, ← g3]
    · refine same_mk (v := (I 2 2)) (fun Q => ?_) (fun Q => ?_)
      · rw [eC]
        simp (disch := first | assumption | omega | decide) only [nI_add, n_mul, n_sub, n_le, n_lt, n_eq, n_ne1, n_0, m_bl_t, m_bl_f, if_true, if_false, Nat.reduceAdd, Nat.reduceMul, Nat.reduceSub, Nat.reduceLeDiff, Nat.reduceEqDiff, Nat.add_zero, Nat.add_sub_cancel, Option.toList, List.cons_append, List.nil_append, i102_0, i102_1s6, i102_36, i102_37, i102_38, i102_39, i102_40, i102_41, rv_0_0, rv_13_0, rv_1_0]
      · rw [eD]
        simp (disch := first | assumption | omega | decide) only [nI_add, n_mul, n_sub, n_le, n_lt, n_eq, n_ne1, n_0, m_bl_t, m_bl_f, if_true, if_false, Nat.reduceAdd, Nat.reduceMul, Nat.reduceSub, Nat.reduceLeDiff, Nat.reduceEqDiff, Nat.add_zero, Nat.add_sub_cancel, Option.toList, List.cons_append, List.nil_append, i184_0, i184_1s6, i184_24, i184_25, i184_26, i184_27, i184_28, rv_27_0, ← g4]
    · refine same_mk (v := (I 2 564)) (fun Q => ?_) (fun Q => ?_)
      · rw [eC]
        simp (disch := first | assumption | omega | decide) only [nI_add, n_mul, n_sub, n_le, n_lt, n_eq, n_ne1, n_0, m_bl_t, m_bl_f, if_true, if_false, Nat.reduceAdd, Nat.reduceMul, Nat.reduceSub, Nat.reduceLeDiff, Nat.reduceEqDiff, Nat.add_zero, Nat.add_sub_cancel, Option.toList, List.cons_append, List.nil_append, i102_0, i102_1s7, i102_42, i102_43, i102_44, i102_45, i102_46, i102_47, rv_0_0, rv_13_0, rv_1_0]
      · rw [eD]
        simp (disch := first | assumption | omega | decide) only [nI_add, n_mul, n_sub, n_le, n_lt, n_eq, n_ne1, n_0, m_bl_t, m_bl_f, if_true, if_false, Nat.reduceAdd, Nat.reduceMul, Nat.reduceSub, Nat.reduceLeDiff, Nat.reduceEqDiff, Nat.add_zero, Nat.add_sub_cancel, Option.toList, List.cons_append, List.nil_append, i184_0, i184_1s7, i184_29, i184_30, i184_31, ← g5]
theorem p_count (hT : TP N e I L) (hN : N < 800000) (ht : 55 ≤ t) (v : Int32) : pair_ok V t e N I L 102 [.int v] 184 [.int v] := same_pair hT (s_count hT hN ht v)
theorem p_order (hT : TP N e I L) (hN : N < 800000) (ht : 55 ≤ t) (v w : Int32) : pair_ok V t e N I L 103 [.int v, .int w] 185 [.int v, .int w] := by
  have eC : m_loc 103 (.ref 0 :: [.int v, .int w]) = [.ref 0, .int v, .int w] := rfl
  have eD : m_loc 185 (.ref 27 :: [.int v, .int w]) = [.ref 27, .int v, .int w] := rfl
  have hA := aa28
  obtain ⟨c, b, k, n, c1, b1, k1, hL, n3, h5, hNt, hO⟩ := XX_get hT.1.1
  obtain ⟨z1, z2, z3⟩ := noted_eq hNt (by omega)
  obtain ⟨i1, i2⟩ := n_inz (s := n) (by omega) v
  obtain ⟨j1, j2⟩ := n_inx (m := 33) (by omega) w
  cases hin : d_in v (nI 0) (nI n - nI 1)
  · rw [hin] at i1
    refine pair_v (v := .int (-101)) hT (fun Q => ?_) (fun Q => ?_)
    · rw [eC]
      simp (disch := first | assumption | omega | decide) only [nI_add, n_mul, n_sub, n_le, n_lt, n_eq, n_ne1, n_0, m_bl_t, m_bl_f, if_true, if_false, Nat.reduceAdd, Nat.reduceMul, Nat.reduceSub, Nat.reduceLeDiff, Nat.reduceEqDiff, Nat.add_zero, Nat.add_sub_cancel, Option.toList, List.cons_append, List.nil_append, i103_0, i103_1, i103_2, i103_3, i103_4, i103_5, i103_6, i103_7, i103_8, rv_0_0, rv_13_3, rv_1_3, c54 ht, z1, c109, b_0, ← i1]
    · rw [eD]
      simp (disch := first | assumption | omega | decide) only [nI_add, n_mul, n_sub, n_le, n_lt, n_eq, n_ne1, n_0, m_bl_t, m_bl_f, if_true, if_false, Nat.reduceAdd, Nat.reduceMul, Nat.reduceSub, Nat.reduceLeDiff, Nat.reduceEqDiff, Nat.add_zero, Nat.add_sub_cancel, Option.toList, List.cons_append, List.nil_append, i185_0, i185_1, i185_2, i185_3, i185_4, z2]
      rw [i185_5]
      simp (disch := first | assumption | omega | decide) only [nI_add, n_mul, n_sub, n_le, n_lt, n_eq, n_ne1, n_0, m_bl_t, m_bl_f, if_true, if_false, Nat.reduceAdd, Nat.reduceMul, Nat.reduceSub, Nat.reduceLeDiff, Nat.reduceEqDiff, Nat.add_zero, Nat.add_sub_cancel, Option.toList, List.cons_append, List.nil_append, i185_6, i185_7, i185_8, i185_9, c111, b_0, hin]
  · obtain ⟨i, hi, rfl⟩ := i2 hin
    have hb : (decide (0 ≤ i) && decide (i < n)) = true := by simp [hi]
    have hin' : d_in (nI i) (nI 0) (nI (n - 1)) = true := by rw [← n_sub (by omega)]; exact hin
    have hi60 : i < 60 := by omega
    obtain ⟨r1, r2, r3, r4⟩ := hNt.2.2.2.2 i hi
    cases hw : d_in w (nI 0) (nI 33)
    · rw [hw] at j1
      have w0 : ¬ w = nI 0 := fun q => by subst q; revert hw; decide
      have w1 : ¬ w = nI 1 := fun q => by subst q; revert hw; decide
      have f2 : d_in w (nI 2) (nI 33) = false := d_in_sub (lo := 2) (m := 31) hw (by omega) (by omega)
      refine pair_v (v := .int (-102)) hT (fun Q => ?_) (fun Q => ?_)
      · rw [eC]
        simp (disch := first | assumption | omega | decide) only [nI_add, n_mul, n_sub, n_le, n_lt, n_eq, n_ne1, n_0, m_bl_t, m_bl_f, if_true, if_false, Nat.reduceAdd, Nat.reduceMul, Nat.reduceSub, Nat.reduceLeDiff, Nat.reduceEqDiff, Nat.add_zero, Nat.add_sub_cancel, Option.toList, List.cons_append, List.nil_append, i103_0, i103_1, i103_2, i103_3, i103_4, i103_5, i103_6, i103_9, i103_10, i103_11, i103_12, i103_13, i103_14, rv_0_0, rv_13_3, rv_1_3, c54 ht, z1, c109, b_0, hb, Bool.true_eq_false, ← j1]
      · rw [eD]
        simp (disch := first | assumption | omega | decide) only [nI_add, n_mul, n_sub, n_le, n_lt, n_eq, n_ne1, n_0, m_bl_t, m_bl_f, if_true, if_false, Nat.reduceAdd, Nat.reduceMul, Nat.reduceSub, Nat.reduceLeDiff, Nat.reduceEqDiff, Nat.add_zero, Nat.add_sub_cancel, Option.toList, List.cons_append, List.nil_append, i185_0, i185_1, i185_2, i185_3, i185_4, z2]
        rw [i185_5]
        simp (disch := first | assumption | omega | decide) only [nI_add, n_mul, n_sub, n_le, n_lt, n_eq, n_ne1, n_0, m_bl_t, m_bl_f, if_true, if_false, Nat.reduceAdd, Nat.reduceMul, Nat.reduceSub, Nat.reduceLeDiff, Nat.reduceEqDiff, Nat.add_zero, Nat.add_sub_cancel, Option.toList, List.cons_append, List.nil_append, i185_6, i185_7, i185_10, i185_11, i185_17, i185_18, i185_19, i185_25, i185_26, i185_27, i185_28, i185_29, i185_41, i185_42, c111, b_0, hin', Bool.true_eq_false, w0, w1, f2]
    · obtain ⟨r, hr, rfl⟩ := j2 hw
      have hr34 : r < 34 := by omega
      have hb2 : (decide (0 ≤ r) && decide (r < 34)) = true := by simp [hr34]
      have hj : i * 35 + r < 2100 := by omega
      refine pair_v (v := .int (I 11 (i * 35 + r))) hT (fun Q => ?_) (fun Q => ?_)
      · rw [eC]
        simp (disch := first | assumption | omega | decide) only [nI_add, n_mul, n_sub, n_le, n_lt, n_eq, n_ne1, n_0, m_bl_t, m_bl_f, if_true, if_false, Nat.reduceAdd, Nat.reduceMul, Nat.reduceSub, Nat.reduceLeDiff, Nat.reduceEqDiff, Nat.add_zero, Nat.add_sub_cancel, Option.toList, List.cons_append, List.nil_append, i103_0, i103_1, i103_2, i103_3, i103_4, i103_5, i103_6, i103_9, i103_10, i103_11, i103_12, rv_0_0, rv_13_3, rv_1_3, c54 ht, z1, c109, b_0, hb, hb2, Bool.true_eq_false]
        simp (disch := first | assumption | omega | decide) only [nI_add, n_mul, n_sub, n_le, n_lt, n_eq, n_ne1, n_0, m_bl_t, m_bl_f, if_true, if_false, Nat.reduceAdd, Nat.reduceMul, Nat.reduceSub, Nat.reduceLeDiff, Nat.reduceEqDiff, Nat.add_zero, Nat.add_sub_cancel, Option.toList, List.cons_append, List.nil_append, i103_15, i103_16, i103_17, i103_18, i103_19, i103_20, i103_21, i103_22, i103_23, i103_24, i103_25, rv_0_0, rv_10_0, rv_13_3, rv_1_3, rv_22_0]
      · rw [eD]
        simp (disch := first | assumption | omega | decide) only [nI_add, n_mul, n_sub, n_le, n_lt, n_eq, n_ne1, n_0, m_bl_t, m_bl_f, if_true, if_false, Nat.reduceAdd, Nat.reduceMul, Nat.reduceSub, Nat.reduceLeDiff, Nat.reduceEqDiff, Nat.add_zero, Nat.add_sub_cancel, Option.toList, List.cons_append, List.nil_append, i185_0, i185_1, i185_2, i185_3, i185_4, z2]
        rw [i185_5]
        by_cases h0 : r = 0
        · subst h0
          simp (disch := first | assumption | omega | decide) only [nI_add, n_mul, n_sub, n_le, n_lt, n_eq, n_ne1, n_0, m_bl_t, m_bl_f, if_true, if_false, Nat.reduceAdd, Nat.reduceMul, Nat.reduceSub, Nat.reduceLeDiff, Nat.reduceEqDiff, Nat.add_zero, Nat.add_sub_cancel, Option.toList, List.cons_append, List.nil_append, i185_6, i185_7, i185_10, i185_11, i185_12, i185_13, i185_14, i185_15, i185_16, i185_42, rv_27_18, c111, b_0, hin', Bool.true_eq_false]
          rw [← r1]
        · by_cases h1 : r = 1
          · subst h1
            simp (disch := first | assumption | omega | decide) only [nI_add, n_mul, n_sub, n_le, n_lt, n_eq, n_ne1, n_0, m_bl_t, m_bl_f, if_true, if_false, Nat.reduceAdd, Nat.reduceMul, Nat.reduceSub, Nat.reduceLeDiff, Nat.reduceEqDiff, Nat.add_zero, Nat.add_sub_cancel, Option.toList, List.cons_append, List.nil_append, i185_6, i185_7, i185_10, i185_11, i185_17, i185_18, i185_19, i185_20, i185_21, i185_22, i185_23, i185_24, i185_42, rv_27_19, c111, b_0, hin', Bool.true_eq_false]
            rw [← r2]
          · obtain ⟨s, rfl⟩ : ∃ s, r = 2 + s := ⟨r - 2, by omega⟩
            have f2 : d_in (nI (2 + s)) (nI 2) (nI 33) = true := (d_ink (lo := 2) (m := 31) (by omega)).mpr ⟨s, by omega, rfl⟩
            have e1 : 32 * i + (2 + s) - 2 = 32 * i + s := by omega
            have hj2 : 32 * i + s < 1920 := by omega
            simp (disch := first | assumption | omega | decide) only [nI_add, n_mul, n_sub, n_le, n_lt, n_eq, n_ne1, n_0, m_bl_t, m_bl_f, if_true, if_false, Nat.reduceAdd, Nat.reduceMul, Nat.reduceSub, Nat.reduceLeDiff, Nat.reduceEqDiff, Nat.add_zero, Nat.add_sub_cancel, Option.toList, List.cons_append, List.nil_append, i185_6, i185_7, i185_10, i185_11, i185_17, i185_18, i185_19, i185_25, i185_26, i185_27, i185_28, i185_29, i185_30, i185_31, i185_32, i185_33, i185_34, i185_35, i185_36, i185_37, i185_38, i185_39, i185_40, i185_42, rv_27_21, c111, b_0, hin', Bool.true_eq_false, h0, h1, f2, e1]
            rw [← r3 s (by omega), Nat.add_assoc]
end RZR
