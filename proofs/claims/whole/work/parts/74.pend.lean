/-! end: alike -/
theorem n_pre {m : Nat} (hm : m < 2147483648) : (nI m - nI 1).toInt = (m : Int) - 1 := by
  cases m with
  | zero => decide
  | succ m =>
    rw [n_sub (by omega), Nat.add_sub_cancel, nI_toInt (by omega)]
    omega
section RZS
variable {V : m_V} {m n : Nat} {ls st : List Value} {t N M : Nat} {I I' : m_I} {R : m_R} {L L' : m_L} {e : Option Nat} {a b u x : Nat} {Q : Option Value → Nat → m_I → m_L → m_R → Prop}
theorem p_end (hT : TP N e I L) (ht : 55 ≤ t) (ht2 : e = some 55 → 62 ≤ t) (v w : Int32) : pair_ok V t e N I L 99 [.int v, .int w] 181 [.int v, .int w] := by
  have eC : m_loc 99 (.ref 0 :: [.int v, .int w]) = [.ref 0, .int v, .int w] := rfl
  have eD : m_loc 181 (.ref 27 :: [.int v, .int w]) = [.ref 27, .int v, .int w] := rfl
  have en : m_rv (none : Option Nat) = .null := rfl
  have er : m_rv (some 55) = .ref 55 := rfl
  rcases hT.2.2.1 with ⟨rfl, h28⟩ | ⟨rfl, h⟩
  · refine pair_v (v := .int (-101)) hT (fun Q => ?_) (fun Q => ?_)
    · rw [eC]
      simp (disch := first | assumption | omega | decide) only [nI_add, n_mul, n_sub, n_le, n_lt, n_eq, n_ne1, n_0, m_bl_t, m_bl_f, if_true, if_false, Nat.reduceAdd, Nat.reduceMul, Nat.reduceSub, Nat.reduceLeDiff, Nat.reduceEqDiff, Nat.add_zero, Nat.add_sub_cancel, Option.toList, List.cons_append, List.nil_append, i99_0, i99_1, rv_0_4, en, i99_2n, i99_11, i99_12]
    · rw [eD]
      simp (disch := first | assumption | omega | decide) only [nI_add, n_mul, n_sub, n_le, n_lt, n_eq, n_ne1, n_0, m_bl_t, m_bl_f, if_true, if_false, Nat.reduceAdd, Nat.reduceMul, Nat.reduceSub, Nat.reduceLeDiff, Nat.reduceEqDiff, Nat.add_zero, Nat.add_sub_cancel, Option.toList, List.cons_append, List.nil_append, i181_0, i181_1, i181_2, i181_11, i181_12, h28]
  · have ht3 := ht2 rfl
    rcases h with ⟨h10, h28⟩ | ⟨m, hm, h10, h28, h29, hj⟩
    · refine pair_v (v := .int (-101)) hT (fun Q => ?_) (fun Q => ?_)
      · rw [eC]
        by_cases hv : v < -1
        · simp (disch := first | assumption | omega | decide) only [nI_add, n_mul, n_sub, n_le, n_lt, n_eq, n_ne1, n_0, m_bl_t, m_bl_f, if_true, if_false, Nat.reduceAdd, Nat.reduceMul, Nat.reduceSub, Nat.reduceLeDiff, Nat.reduceEqDiff, Nat.add_zero, Nat.add_sub_cancel, Option.toList, List.cons_append, List.nil_append, i99_0, i99_1, rv_0_4, er, i99_2r, i99_3, i99_4, i99_5, i99_11, i99_12, hv]
        · simp (disch := first | assumption | omega | decide) only [nI_add, n_mul, n_sub, n_le, n_lt, n_eq, n_ne1, n_0, m_bl_t, m_bl_f, if_true, if_false, Nat.reduceAdd, Nat.reduceMul, Nat.reduceSub, Nat.reduceLeDiff, Nat.reduceEqDiff, Nat.add_zero, Nat.add_sub_cancel, Option.toList, List.cons_append, List.nil_append, i99_0, i99_1, rv_0_4, er, i99_2r, i99_3, i99_4, i99_5, i99_6, i99_7, i99_8, i99_9, i99_10, i99_11, i99_12, rv_0_4, hv, h10]
      · rw [eD]
        simp (disch := first | assumption | omega | decide) only [nI_add, n_mul, n_sub, n_le, n_lt, n_eq, n_ne1, n_0, m_bl_t, m_bl_f, if_true, if_false, Nat.reduceAdd, Nat.reduceMul, Nat.reduceSub, Nat.reduceLeDiff, Nat.reduceEqDiff, Nat.add_zero, Nat.add_sub_cancel, Option.toList, List.cons_append, List.nil_append, i181_0, i181_1, i181_2, i181_11, i181_12, h28]
    · have hi : d_in v (-1) (nI m - nI 1) = true ↔ ¬ v < -1 ∧ v < nI m := by
        unfold d_in
        rw [Bool.and_eq_true, decide_eq_true_eq, decide_eq_true_eq, Int32.le_iff_toInt_le, Int32.le_iff_toInt_le, Int32.lt_iff_toInt_lt, Int32.lt_iff_toInt_lt, n_pre (by omega), nI_toInt (by omega), show (-1 : Int32).toInt = -1 from by decide]
        omega
      have h28n : ¬ nI 1 = nI 0 := by decide
      by_cases hlo : v < -1
      · have hf : d_in v (-1) (nI m - nI 1) = false := by
          cases q : d_in v (-1) (nI m - nI 1)
          · rfl
          · exact absurd hlo (hi.mp q).1
        refine pair_v (v := .int (-101)) hT (fun Q => ?_) (fun Q => ?_)
        · rw [eC]
          simp (disch := first | assumption | omega | decide) only [nI_add, n_mul, n_sub, n_le, n_lt, n_eq, n_ne1, n_0, m_bl_t, m_bl_f, if_true, if_false, Nat.reduceAdd, Nat.reduceMul, Nat.reduceSub, Nat.reduceLeDiff, Nat.reduceEqDiff, Nat.add_zero, Nat.add_sub_cancel, Option.toList, List.cons_append, List.nil_append, i99_0, i99_1, rv_0_4, er, i99_2r, i99_3, i99_4, i99_5, i99_11, i99_12, hlo]
        · rw [eD]
          simp (disch := first | assumption | omega | decide) only [nI_add, n_mul, n_sub, n_le, n_lt, n_eq, n_ne1, n_0, m_bl_t, m_bl_f, if_true, if_false, Nat.reduceAdd, Nat.reduceMul, Nat.reduceSub, Nat.reduceLeDiff, Nat.reduceEqDiff, Nat.add_zero, Nat.add_sub_cancel, Option.toList, List.cons_append, List.nil_append, i181_0, i181_1, i181_2, i181_3, i181_4, i181_5, i181_6, i181_7, h28, h29]
          rw [i181_8]
          simp (disch := first | assumption | omega | decide) only [nI_add, n_mul, n_sub, n_le, n_lt, n_eq, n_ne1, n_0, m_bl_t, m_bl_f, if_true, if_false, Nat.reduceAdd, Nat.reduceMul, Nat.reduceSub, Nat.reduceLeDiff, Nat.reduceEqDiff, Nat.add_zero, Nat.add_sub_cancel, Option.toList, List.cons_append, List.nil_append, i181_9, i181_10, i181_11, i181_12, c111, b_0, hf]
      · by_cases hhi : v < nI m
        · have hf : d_in v (-1) (nI m - nI 1) = true := hi.mpr ⟨hlo, hhi⟩
          by_cases hm1 : v = -1
          · refine pair_v (v := .int (nI m)) hT (fun Q => ?_) (fun Q => ?_)
            · rw [eC]
              simp (disch := first | assumption | omega | decide) only [nI_add, n_mul, n_sub, n_le, n_lt, n_eq, n_ne1, n_0, m_bl_t, m_bl_f, if_true, if_false, Nat.reduceAdd, Nat.reduceMul, Nat.reduceSub, Nat.reduceLeDiff, Nat.reduceEqDiff, Nat.add_zero, Nat.add_sub_cancel, Option.toList, List.cons_append, List.nil_append, i99_0, i99_1, rv_0_4, er, i99_2r, i99_3, i99_4, i99_5, i99_6, i99_7, i99_8, i99_9, i99_10, i99_13, i99_14, i99_15, i99_16, i99_17, i99_18, i99_19, rv_0_4, hlo, h10, hhi, hm1]
              have q1 : ¬ (-1 : Int32) < -1 := by decide
              have q2 : (-1 : Int32) < nI m := by rw [← hm1]; exact hhi
              simp only [if_neg q1, if_pos q2]
            · rw [eD]
              simp (disch := first | assumption | omega | decide) only [nI_add, n_mul, n_sub, n_le, n_lt, n_eq, n_ne1, n_0, m_bl_t, m_bl_f, if_true, if_false, Nat.reduceAdd, Nat.reduceMul, Nat.reduceSub, Nat.reduceLeDiff, Nat.reduceEqDiff, Nat.add_zero, Nat.add_sub_cancel, Option.toList, List.cons_append, List.nil_append, i181_0, i181_1, i181_2, i181_3, i181_4, i181_5, i181_6, i181_7, h28, h29]
              rw [i181_8]
              simp (disch := first | assumption | omega | decide) only [nI_add, n_mul, n_sub, n_le, n_lt, n_eq, n_ne1, n_0, m_bl_t, m_bl_f, if_true, if_false, Nat.reduceAdd, Nat.reduceMul, Nat.reduceSub, Nat.reduceLeDiff, Nat.reduceEqDiff, Nat.add_zero, Nat.add_sub_cancel, Option.toList, List.cons_append, List.nil_append, i181_9, i181_10, c111, b_0, hf, Bool.true_eq_false]
              simp (disch := first | assumption | omega | decide) only [nI_add, n_mul, n_sub, n_le, n_lt, n_eq, n_ne1, n_0, m_bl_t, m_bl_f, if_true, if_false, Nat.reduceAdd, Nat.reduceMul, Nat.reduceSub, Nat.reduceLeDiff, Nat.reduceEqDiff, Nat.add_zero, Nat.add_sub_cancel, Option.toList, List.cons_append, List.nil_append, i181_13, i181_14, i181_15, i181_16, i181_17, i181_18, hm1, h29]
          · have h0 : nI 0 ≤ v := by
              rw [Int32.lt_iff_toInt_lt, show (-1 : Int32).toInt = -1 from by decide] at hlo
              rw [Int32.le_iff_toInt_le, nI_toInt (by omega)]
              have : v.toInt ≠ -1 := fun q => hm1 (Int32.toInt_inj.mp (q.trans (show (-1 : Int32).toInt = -1 from by decide).symm))
              omega
            obtain ⟨i, hi1, rfl⟩ := nI_of (x := v) (Int32.not_lt.mpr h0)
            have him : i < m := by rw [n_lt hi1 (by omega)] at hhi; exact hhi
            have hf' : d_in (nI i) (-1) (nI (m - 1)) = true := by rw [← n_sub (by omega)]; exact hf
            obtain ⟨j1, j2⟩ := n_inx (m := 18) (by omega) w
            cases hw : d_in w (nI 0) (nI 18)
            · rw [hw] at j1
              refine pair_v (v := .int (-102)) hT (fun Q => ?_) (fun Q => ?_)
              · rw [eC]
                simp (disch := first | assumption | omega | decide) only [nI_add, n_mul, n_sub, n_le, n_lt, n_eq, n_ne1, n_0, m_bl_t, m_bl_f, if_true, if_false, Nat.reduceAdd, Nat.reduceMul, Nat.reduceSub, Nat.reduceLeDiff, Nat.reduceEqDiff, Nat.add_zero, Nat.add_sub_cancel, Option.toList, List.cons_append, List.nil_append, i99_0, i99_1, rv_0_4, er, i99_2r, i99_3, i99_4, i99_5, i99_6, i99_7, i99_8, i99_9, i99_10, rv_0_4, hlo, h10, him]
                simp (disch := first | assumption | omega | decide) only [nI_add, n_mul, n_sub, n_le, n_lt, n_eq, n_ne1, n_0, m_bl_t, m_bl_f, if_true, if_false, Nat.reduceAdd, Nat.reduceMul, Nat.reduceSub, Nat.reduceLeDiff, Nat.reduceEqDiff, Nat.add_zero, Nat.add_sub_cancel, Option.toList, List.cons_append, List.nil_append, i99_13, i99_14, i99_15, i99_20, i99_21, i99_22, i99_23, i99_24, i99_25, c109, b_0, ← j1]
              · rw [eD]
                simp (disch := first | assumption | omega | decide) only [nI_add, n_mul, n_sub, n_le, n_lt, n_eq, n_ne1, n_0, m_bl_t, m_bl_f, if_true, if_false, Nat.reduceAdd, Nat.reduceMul, Nat.reduceSub, Nat.reduceLeDiff, Nat.reduceEqDiff, Nat.add_zero, Nat.add_sub_cancel, Option.toList, List.cons_append, List.nil_append, i181_0, i181_1, i181_2, i181_3, i181_4, i181_5, i181_6, i181_7, h28, h29]
                rw [i181_8]
                simp (disch := first | assumption | omega | decide) only [nI_add, n_mul, n_sub, n_le, n_lt, n_eq, n_ne1, n_0, m_bl_t, m_bl_f, if_true, if_false, Nat.reduceAdd, Nat.reduceMul, Nat.reduceSub, Nat.reduceLeDiff, Nat.reduceEqDiff, Nat.add_zero, Nat.add_sub_cancel, Option.toList, List.cons_append, List.nil_append, i181_9, i181_10, c111, b_0, hf', Bool.true_eq_false]
                simp (disch := first | assumption | omega | decide) only [nI_add, n_mul, n_sub, n_le, n_lt, n_eq, n_ne1, n_0, m_bl_t, m_bl_f, if_true, if_false, Nat.reduceAdd, Nat.reduceMul, Nat.reduceSub, Nat.reduceLeDiff, Nat.reduceEqDiff, Nat.add_zero, Nat.add_sub_cancel, Option.toList, List.cons_append, List.nil_append, i181_13, i181_14, i181_15, i181_19, i181_20, i181_21, i181_22, i181_23, i181_33, i181_34, c111, b_0, hw]
            · obtain ⟨r, hr, rfl⟩ := j2 hw
              have hr19 : r < 19 := by omega
              have hb : (decide (0 ≤ r) && decide (r < 19)) = true := by simp [hr19]
              have hx : i * 19 + r < 7600 := by omega
              have hx2 : 19 * i + r < 7700 := by omega
              have he : I 61 (i * 19 + r) = I 46 (19 * i + r) := by
                rw [Nat.mul_comm i 19]
                exact hj _ (by omega)
              refine pair_v (v := .int (I 61 (i * 19 + r))) hT (fun Q => ?_) (fun Q => ?_)
              · rw [eC]
                simp (disch := first | assumption | omega | decide) only [nI_add, n_mul, n_sub, n_le, n_lt, n_eq, n_ne1, n_0, m_bl_t, m_bl_f, if_true, if_false, Nat.reduceAdd, Nat.reduceMul, Nat.reduceSub, Nat.reduceLeDiff, Nat.reduceEqDiff, Nat.add_zero, Nat.add_sub_cancel, Option.toList, List.cons_append, List.nil_append, i99_0, i99_1, rv_0_4, er, i99_2r, i99_3, i99_4, i99_5, i99_6, i99_7, i99_8, i99_9, i99_10, rv_0_4, hlo, h10, him]
                simp (disch := first | assumption | omega | decide) only [nI_add, n_mul, n_sub, n_le, n_lt, n_eq, n_ne1, n_0, m_bl_t, m_bl_f, if_true, if_false, Nat.reduceAdd, Nat.reduceMul, Nat.reduceSub, Nat.reduceLeDiff, Nat.reduceEqDiff, Nat.add_zero, Nat.add_sub_cancel, Option.toList, List.cons_append, List.nil_append, i99_13, i99_14, i99_15, i99_20, i99_21, i99_22, i99_23, c109, b_0, hb, Bool.true_eq_false]
                simp (disch := first | assumption | omega | decide) only [nI_add, n_mul, n_sub, n_le, n_lt, n_eq, n_ne1, n_0, m_bl_t, m_bl_f, if_true, if_false, Nat.reduceAdd, Nat.reduceMul, Nat.reduceSub, Nat.reduceLeDiff, Nat.reduceEqDiff, Nat.add_zero, Nat.add_sub_cancel, Option.toList, List.cons_append, List.nil_append, i99_26, i99_27, i99_28, i99_29, i99_30, i99_31, i99_32, i99_33, i99_34, i99_35, rv_0_4, rv_55_9, er]
              · rw [eD]
                simp (disch := first | assumption | omega | decide) only [nI_add, n_mul, n_sub, n_le, n_lt, n_eq, n_ne1, n_0, m_bl_t, m_bl_f, if_true, if_false, Nat.reduceAdd, Nat.reduceMul, Nat.reduceSub, Nat.reduceLeDiff, Nat.reduceEqDiff, Nat.add_zero, Nat.add_sub_cancel, Option.toList, List.cons_append, List.nil_append, i181_0, i181_1, i181_2, i181_3, i181_4, i181_5, i181_6, i181_7, h28, h29]
                rw [i181_8]
                simp (disch := first | assumption | omega | decide) only [nI_add, n_mul, n_sub, n_le, n_lt, n_eq, n_ne1, n_0, m_bl_t, m_bl_f, if_true, if_false, Nat.reduceAdd, Nat.reduceMul, Nat.reduceSub, Nat.reduceLeDiff, Nat.reduceEqDiff, Nat.add_zero, Nat.add_sub_cancel, Option.toList, List.cons_append, List.nil_append, i181_9, i181_10, c111, b_0, hf', Bool.true_eq_false]
                simp (disch := first | assumption | omega | decide) only [nI_add, n_mul, n_sub, n_le, n_lt, n_eq, n_ne1, n_0, m_bl_t, m_bl_f, if_true, if_false, Nat.reduceAdd, Nat.reduceMul, Nat.reduceSub, Nat.reduceLeDiff, Nat.reduceEqDiff, Nat.add_zero, Nat.add_sub_cancel, Option.toList, List.cons_append, List.nil_append, i181_13, i181_14, i181_15, i181_19, i181_20, i181_21, i181_22, i181_23, i181_24, i181_25, i181_26, i181_27, i181_28, i181_29, i181_30, i181_31, i181_32, i181_34, rv_27_30, c111, b_0, hw, Bool.true_eq_false, he]
        · have hf : d_in v (-1) (nI m - nI 1) = false := by
            cases q : d_in v (-1) (nI m - nI 1)
            · rfl
            · exact absurd (hi.mp q).2 hhi
          refine pair_v (v := .int (-101)) hT (fun Q => ?_) (fun Q => ?_)
          · rw [eC]
            simp (disch := first | assumption | omega | decide) only [nI_add, n_mul, n_sub, n_le, n_lt, n_eq, n_ne1, n_0, m_bl_t, m_bl_f, if_true, if_false, Nat.reduceAdd, Nat.reduceMul, Nat.reduceSub, Nat.reduceLeDiff, Nat.reduceEqDiff, Nat.add_zero, Nat.add_sub_cancel, Option.toList, List.cons_append, List.nil_append, i99_0, i99_1, rv_0_4, er, i99_2r, i99_3, i99_4, i99_5, i99_6, i99_7, i99_8, i99_9, i99_10, i99_11, i99_12, rv_0_4, hlo, h10, hhi]
          · rw [eD]
            simp (disch := first | assumption | omega | decide) only [nI_add, n_mul, n_sub, n_le, n_lt, n_eq, n_ne1, n_0, m_bl_t, m_bl_f, if_true, if_false, Nat.reduceAdd, Nat.reduceMul, Nat.reduceSub, Nat.reduceLeDiff, Nat.reduceEqDiff, Nat.add_zero, Nat.add_sub_cancel, Option.toList, List.cons_append, List.nil_append, i181_0, i181_1, i181_2, i181_3, i181_4, i181_5, i181_6, i181_7, h28, h29]
            rw [i181_8]
            simp (disch := first | assumption | omega | decide) only [nI_add, n_mul, n_sub, n_le, n_lt, n_eq, n_ne1, n_0, m_bl_t, m_bl_f, if_true, if_false, Nat.reduceAdd, Nat.reduceMul, Nat.reduceSub, Nat.reduceLeDiff, Nat.reduceEqDiff, Nat.add_zero, Nat.add_sub_cancel, Option.toList, List.cons_append, List.nil_append, i181_9, i181_10, i181_11, i181_12, c111, b_0, hf]
end RZS
