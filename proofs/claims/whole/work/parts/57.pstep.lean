/-! step and run: alike -/
theorem n_inx {m : Nat} (hm : m + 1 < 2147483648) (v : Int32) : d_in v (nI 0) (nI m) = (decide (nI 0 ≤ v) && decide (v < nI (m + 1))) ∧ (d_in v (nI 0) (nI m) = true → ∃ u, u < m + 1 ∧ v = nI u) := by
  unfold d_in
  by_cases h0 : nI 0 ≤ v
  · obtain ⟨j, hj, e1⟩ := nI_of (x := v) (Int32.not_lt.mpr h0)
    subst e1
    have hm1 : m < 2147483648 := by omega
    have e : decide (nI j ≤ nI m) = decide (nI j < nI (m + 1)) := decide_eq_decide.mpr (by rw [n_le hj hm1, n_lt hj hm]; exact Nat.lt_succ_iff.symm)
    refine ⟨by rw [e], fun q => ?_⟩
    rw [Bool.and_eq_true, decide_eq_true_eq, decide_eq_true_eq, n_le hj hm1] at q
    exact ⟨j, Nat.lt_succ_of_le q.2, rfl⟩
  · rw [decide_eq_false h0, Bool.false_and, Bool.false_and]
    exact ⟨rfl, fun q => by cases q⟩
theorem mM_mC {I : m_I} {f g26 nn ww : Nat → Int32} : mM (mC I f g26 nn ww) 28 (I 28) (I 27) I = mC I f g26 nn ww := by
  funext k
  unfold mM
  by_cases h1 : k = 28
  · subst h1; rw [if_pos rfl, mC_o (by omega)]
  · by_cases h2 : k = 27
    · subst h2; rw [if_neg h1, if_pos rfl, mC_o (by omega)]
    · by_cases h3 : 40 ≤ k ∧ k ≤ 44
      · rw [if_neg h1, if_neg h2, if_pos h3, mC_o (by omega)]
      · rw [if_neg h1, if_neg h2, if_neg h3]
theorem st_mC {I : m_I} {f g26 nn ww : Nat → Int32} : st_eq (mC I f g26 nn ww) I := ⟨rfl, rfl, rfl, rfl, rfl, rfl, rfl, rfl, rfl, rfl, rfl, rfl⟩
theorem aa28 : m_aa 28 := Or.inl rfl
section RZD
variable {V : m_V} {t N : Nat} {I : m_I} {L : m_L} {e : Option Nat} {Q : Option Value → Nat → m_I → m_L → m_R → Prop}
theorem p_step (hT : TP N e I L) (hN : N < 800000) (ht : 55 ≤ t) (v : Int32) : pair_ok V t e N I L 96 [.int v] 170 [.int v] := by
  obtain ⟨i1, i2⟩ := n_inx (m := 2) (by omega) v
  have ff : ¬ (false = true) := by decide
  cases hin : d_in v (nI 0) (nI 2)
  · rw [hin] at i1
    refine pair_v (v := .int (-101)) hT (fun Q => ?_) (fun Q => ?_)
    · rw [show m_loc 96 (.ref 0 :: [.int v]) = [.ref 0, .int v] from rfl]
      simp (disch := first | assumption | omega | decide) only [nI_add, n_mul, n_sub, n_le, n_lt, n_eq, n_ne1, n_0, m_bl_t, m_bl_f, if_true, if_false, Nat.reduceAdd, Nat.reduceMul, Nat.reduceSub, Nat.reduceLeDiff, Nat.reduceEqDiff, Nat.add_zero, Nat.add_sub_cancel, Option.toList, List.cons_append, List.nil_append, i96_0, i96_1, i96_2, i96_3, i96_4, i96_5, c109, b_0, ← i1]
    · rw [show m_loc 170 (.ref 27 :: [.int v]) = [.ref 27, .int v] from rfl]
      simp (disch := first | assumption | omega | decide) only [nI_add, n_mul, n_sub, n_le, n_lt, n_eq, n_ne1, n_0, m_bl_t, m_bl_f, if_true, if_false, Nat.reduceAdd, Nat.reduceMul, Nat.reduceSub, Nat.reduceLeDiff, Nat.reduceEqDiff, Nat.add_zero, Nat.add_sub_cancel, Option.toList, List.cons_append, List.nil_append, i170_0, i170_1, i170_2, i170_3, i170_4, c122, b_0, hin]
  · rw [hin] at i1
    obtain ⟨u, hu, rfl⟩ := i2 hin
    have hu3 : u < 3 := by omega
    have hX := hT.1.1
    have hb : (decide (0 ≤ u) && decide (u < 3)) = true := by simp [hu3]
    have hcan := rl_canx hX hu3
    cases h5 : c_can (I 2) u
    · rw [h5] at hcan
      refine pair_v (v := .int (-103)) hT (fun Q => ?_) (fun Q => ?_)
      · rw [show m_loc 96 (.ref 0 :: [.int (nI u)]) = [.ref 0, .int (nI u)] from rfl]
        simp (disch := first | assumption | omega | decide) only [nI_add, n_mul, n_sub, n_le, n_lt, n_eq, n_ne1, n_0, m_bl_t, m_bl_f, if_true, if_false, Nat.reduceAdd, Nat.reduceMul, Nat.reduceSub, Nat.reduceLeDiff, Nat.reduceEqDiff, Nat.add_zero, Nat.add_sub_cancel, Option.toList, List.cons_append, List.nil_append, i96_0, i96_1, i96_2, i96_3, i96_6, i96_7, i96_8, i96_9, i96_10, rv_0_0, c109, b_0, hb, Bool.true_eq_false, c50, h5]
        simp (disch := first | assumption | omega | decide) only [nI_add, n_mul, n_sub, n_le, n_lt, n_eq, n_ne1, n_0, m_bl_t, m_bl_f, if_true, if_false, Nat.reduceAdd, Nat.reduceMul, Nat.reduceSub, Nat.reduceLeDiff, Nat.reduceEqDiff, Nat.add_zero, Nat.add_sub_cancel, Option.toList, List.cons_append, List.nil_append, i96_16, i96_17]
      · rw [show m_loc 170 (.ref 27 :: [.int (nI u)]) = [.ref 27, .int (nI u)] from rfl]
        have e9 : I = mM I 28 (I 28) (I 27) I := mM_self.symm
        rw [e9]
        have := aa28
        simp (disch := first | assumption | omega | decide) only [nI_add, n_mul, n_sub, n_le, n_lt, n_eq, n_ne1, n_0, m_bl_t, m_bl_f, if_true, if_false, Nat.reduceAdd, Nat.reduceMul, Nat.reduceSub, Nat.reduceLeDiff, Nat.reduceEqDiff, Nat.add_zero, Nat.add_sub_cancel, Option.toList, List.cons_append, List.nil_append, i170_0, i170_1, i170_2, i170_5, i170_6, i170_7, i170_8, c122, b_0, hin, Bool.true_eq_false, c168, hcan]
        simp (disch := first | assumption | omega | decide) only [nI_add, n_mul, n_sub, n_le, n_lt, n_eq, n_ne1, n_0, m_bl_t, m_bl_f, if_true, if_false, Nat.reduceAdd, Nat.reduceMul, Nat.reduceSub, Nat.reduceLeDiff, Nat.reduceEqDiff, Nat.add_zero, Nat.add_sub_cancel, Option.toList, List.cons_append, List.nil_append, i170_13, i170_14]
    · rw [h5] at hcan
      have hs : I 2 (3 + u) = nI 1 ∨ I 2 (3 + u) = nI 4 := by
        unfold c_can at h5
        rw [Bool.or_eq_true, decide_eq_true_eq, decide_eq_true_eq] at h5
        exact h5
      obtain ⟨w, f2, g262, nn2, ww2, g2, h2', oo2, s1, s2, s3⟩ := rl_xst (V := V) (e := e) (bb := 48) (g26 := I 26) hT.1.2.1 hT.1.2.2.1 hX (by omega) hu3 hs ht aa28
      refine ⟨.int w, mC I f2 g262 nn2 ww2, L, mMC I f2 g262 nn2 ww2 g2 h2' oo2, L, fun Q => ?_, fun Q => ?_, TP_steps hT (rl_XX_le s3 (by omega)) (by omega)⟩
      · rw [show m_loc 96 (.ref 0 :: [.int (nI u)]) = [.ref 0, .int (nI u)] from rfl]
        rw [mC_self] at s1
        simp (disch := first | assumption | omega | decide) only [nI_add, n_mul, n_sub, n_le, n_lt, n_eq, n_ne1, n_0, m_bl_t, m_bl_f, if_true, if_false, Nat.reduceAdd, Nat.reduceMul, Nat.reduceSub, Nat.reduceLeDiff, Nat.reduceEqDiff, Nat.add_zero, Nat.add_sub_cancel, Option.toList, List.cons_append, List.nil_append, i96_0, i96_1, i96_2, i96_3, i96_6, i96_7, i96_8, i96_9, i96_10, rv_0_0, c109, b_0, hb, Bool.true_eq_false, c50, h5]
        simp (disch := first | assumption | omega | decide) only [nI_add, n_mul, n_sub, n_le, n_lt, n_eq, n_ne1, n_0, m_bl_t, m_bl_f, if_true, if_false, Nat.reduceAdd, Nat.reduceMul, Nat.reduceSub, Nat.reduceLeDiff, Nat.reduceEqDiff, Nat.add_zero, Nat.add_sub_cancel, Option.toList, List.cons_append, List.nil_append, i96_11, i96_12, i96_13, i96_14, i96_15, i96_16, i96_17, rv_0_2, wpc_of s1]
      · rw [show m_loc 170 (.ref 27 :: [.int (nI u)]) = [.ref 27, .int (nI u)] from rfl]
        have s2' := s2 _ (st_mC (I := I) (f := f2) (g26 := g262) (nn := nn2) (ww := ww2))
        rw [← mM_mC (I := I) (f := f2) (g26 := g262) (nn := nn2) (ww := ww2)]
        have := aa28
        simp (disch := first | assumption | omega | decide) only [nI_add, n_mul, n_sub, n_le, n_lt, n_eq, n_ne1, n_0, m_bl_t, m_bl_f, if_true, if_false, Nat.reduceAdd, Nat.reduceMul, Nat.reduceSub, Nat.reduceLeDiff, Nat.reduceEqDiff, Nat.add_zero, Nat.add_sub_cancel, Option.toList, List.cons_append, List.nil_append, i170_0, i170_1, i170_2, i170_5, i170_6, i170_7, i170_8, c122, b_0, hin, Bool.true_eq_false, c168, hcan, wpc_of s2']
        simp (disch := first | assumption | omega | decide) only [nI_add, n_mul, n_sub, n_le, n_lt, n_eq, n_ne1, n_0, m_bl_t, m_bl_f, if_true, if_false, Nat.reduceAdd, Nat.reduceMul, Nat.reduceSub, Nat.reduceLeDiff, Nat.reduceEqDiff, Nat.add_zero, Nat.add_sub_cancel, Option.toList, List.cons_append, List.nil_append, i170_9, i170_10, i170_11, i170_12, i170_14, wpc_of s2']
        rfl
theorem p_run (hT : TP N e I L) (hN : N < 800000) (ht : 55 ≤ t) (v z : Int32) : pair_ok V t e N I L 97 [.int v, .int z] 171 [.int v, .int z] := by
  obtain ⟨i1, i2⟩ := n_inx (m := 2) (by omega) v
  obtain ⟨j1, j2⟩ := n_inx (m := 200) (by omega) z
  cases hin : d_in v (nI 0) (nI 2)
  · rw [hin] at i1
    refine pair_v (v := .int (-101)) hT (fun Q => ?_) (fun Q => ?_)
    · rw [show m_loc 97 (.ref 0 :: [.int v, .int z]) = [.ref 0, .int v, .int z, m_u, m_u, m_u, m_u, m_u] from rfl]
      simp (disch := first | assumption | omega | decide) only [nI_add, n_mul, n_sub, n_le, n_lt, n_eq, n_ne1, n_0, m_bl_t, m_bl_f, if_true, if_false, Nat.reduceAdd, Nat.reduceMul, Nat.reduceSub, Nat.reduceLeDiff, Nat.reduceEqDiff, Nat.add_zero, Nat.add_sub_cancel, Option.toList, List.cons_append, List.nil_append, i97_0, i97_1, i97_2, i97_3, i97_4, i97_5, c109, b_0, ← i1]
    · rw [show m_loc 171 (.ref 27 :: [.int v, .int z]) = [.ref 27, .int v, .int z, m_u, m_u, m_u, m_u, m_u] from rfl]
      simp (disch := first | assumption | omega | decide) only [nI_add, n_mul, n_sub, n_le, n_lt, n_eq, n_ne1, n_0, m_bl_t, m_bl_f, if_true, if_false, Nat.reduceAdd, Nat.reduceMul, Nat.reduceSub, Nat.reduceLeDiff, Nat.reduceEqDiff, Nat.add_zero, Nat.add_sub_cancel, Option.toList, List.cons_append, List.nil_append, i171_0, i171_1, i171_2, i171_3, i171_4, c122, b_0, hin]
  · rw [hin] at i1
    obtain ⟨u, hu, rfl⟩ := i2 hin
    have hu3 : u < 3 := by omega
    have hb : (decide (0 ≤ u) && decide (u < 3)) = true := by simp [hu3]
    cases hj : d_in z (nI 0) (nI 200)
    · refine pair_v (v := .int (-102)) hT (fun Q => ?_) (fun Q => ?_)
      · rw [show m_loc 97 (.ref 0 :: [.int (nI u), .int z]) = [.ref 0, .int (nI u), .int z, m_u, m_u, m_u, m_u, m_u] from rfl]
        unfold d_in at hj
        by_cases z0 : z < nI 0
        · simp (disch := first | assumption | omega | decide) only [nI_add, n_mul, n_sub, n_le, n_lt, n_eq, n_ne1, n_0, m_bl_t, m_bl_f, if_true, if_false, Nat.reduceAdd, Nat.reduceMul, Nat.reduceSub, Nat.reduceLeDiff, Nat.reduceEqDiff, Nat.add_zero, Nat.add_sub_cancel, Option.toList, List.cons_append, List.nil_append, i97_0, i97_1, i97_2, i97_3, i97_6, i97_7, c109, b_0, hb, Bool.true_eq_false]
          rw [if_pos z0]
          simp (disch := first | assumption | omega | decide) only [nI_add, n_mul, n_sub, n_le, n_lt, n_eq, n_ne1, n_0, m_bl_t, m_bl_f, if_true, if_false, Nat.reduceAdd, Nat.reduceMul, Nat.reduceSub, Nat.reduceLeDiff, Nat.reduceEqDiff, Nat.add_zero, Nat.add_sub_cancel, Option.toList, List.cons_append, List.nil_append, i97_11, i97_12]
        · have z2 : ¬ z ≤ nI 200 := fun q => by
            rw [decide_eq_true (Int32.not_lt.mp z0), decide_eq_true q] at hj
            cases hj
          simp (disch := first | assumption | omega | decide) only [nI_add, n_mul, n_sub, n_le, n_lt, n_eq, n_ne1, n_0, m_bl_t, m_bl_f, if_true, if_false, Nat.reduceAdd, Nat.reduceMul, Nat.reduceSub, Nat.reduceLeDiff, Nat.reduceEqDiff, Nat.add_zero, Nat.add_sub_cancel, Option.toList, List.cons_append, List.nil_append, i97_0, i97_1, i97_2, i97_3, i97_6, i97_7, c109, b_0, hb, Bool.true_eq_false]
          rw [if_neg z0]
          simp (disch := first | assumption | omega | decide) only [nI_add, n_mul, n_sub, n_le, n_lt, n_eq, n_ne1, n_0, m_bl_t, m_bl_f, if_true, if_false, Nat.reduceAdd, Nat.reduceMul, Nat.reduceSub, Nat.reduceLeDiff, Nat.reduceEqDiff, Nat.add_zero, Nat.add_sub_cancel, Option.toList, List.cons_append, List.nil_append, i97_8, i97_9, i97_10, i97_11, i97_12, z2]
      · rw [show m_loc 171 (.ref 27 :: [.int (nI u), .int z]) = [.ref 27, .int (nI u), .int z, m_u, m_u, m_u, m_u, m_u] from rfl]
        simp (disch := first | assumption | omega | decide) only [nI_add, n_mul, n_sub, n_le, n_lt, n_eq, n_ne1, n_0, m_bl_t, m_bl_f, if_true, if_false, Nat.reduceAdd, Nat.reduceMul, Nat.reduceSub, Nat.reduceLeDiff, Nat.reduceEqDiff, Nat.add_zero, Nat.add_sub_cancel, Option.toList, List.cons_append, List.nil_append, i171_0, i171_1, i171_2, i171_5, i171_6, i171_7, i171_8, i171_9, i171_10, i171_11, c122, b_0, hin, Bool.true_eq_false, c111, hj]
    · obtain ⟨n, hn, rfl⟩ := j2 hj
      have hn2 : n ≤ 200 := by omega
      obtain ⟨dn', f2, g262, nn2, ww2, g2, h2', oo2, s1, s2, s3⟩ := run_loop (V := V) (e := e) (bb := 48) (v2 := nI u) hT.1.2.1 hT.1.2.2.1 ht aa28 hn2 hu3 (4 * (n - 0) + (3 - 0)) 0 0 0 u 0 N (I 2) (I 26) (I 10) (I 11) (I 28) (I 27) I m_u m_u (Nat.le_refl _) (by omega) (by omega) (by omega) (Nat.le_refl _) (Nat.zero_le _) hT.1.1 (by omega)
      refine ⟨.int (nI dn'), mC I f2 g262 nn2 ww2, L, mMC I f2 g262 nn2 ww2 g2 h2' oo2, L, fun Q => ?_, fun Q => ?_, TP_steps hT (rl_XX_le s3 (by omega)) (by omega)⟩
      · rw [show m_loc 97 (.ref 0 :: [.int (nI u), .int (nI n)]) = [.ref 0, .int (nI u), .int (nI n), m_u, m_u, m_u, m_u, m_u] from rfl]
        rw [mC_self] at s1
        have n0 : ¬ n < 0 := by omega
        simp (disch := first | assumption | omega | decide) only [nI_add, n_mul, n_sub, n_le, n_lt, n_eq, n_ne1, n_0, m_bl_t, m_bl_f, if_true, if_false, Nat.reduceAdd, Nat.reduceMul, Nat.reduceSub, Nat.reduceLeDiff, Nat.reduceEqDiff, Nat.add_zero, Nat.add_sub_cancel, Option.toList, List.cons_append, List.nil_append, i97_0, i97_1, i97_2, i97_3, i97_6, i97_7, i97_8, i97_9, i97_10, c109, b_0, hb, Bool.true_eq_false, n0, hn2]
        simp (disch := first | assumption | omega | decide) only [nI_add, n_mul, n_sub, n_le, n_lt, n_eq, n_ne1, n_0, m_bl_t, m_bl_f, if_true, if_false, Nat.reduceAdd, Nat.reduceMul, Nat.reduceSub, Nat.reduceLeDiff, Nat.reduceEqDiff, Nat.add_zero, Nat.add_sub_cancel, Option.toList, List.cons_append, List.nil_append, i97_13, i97_14, i97_15, i97_16, i97_17, i97_18, i97_19, i97_20, s1]
      · rw [show m_loc 171 (.ref 27 :: [.int (nI u), .int (nI n)]) = [.ref 27, .int (nI u), .int (nI n), m_u, m_u, m_u, m_u, m_u] from rfl]
        have s2' := s2 _ (st_mC (I := I) (f := f2) (g26 := g262) (nn := nn2) (ww := ww2))
        rw [Nat.sub_zero] at s2'
        rw [← mM_mC (I := I) (f := f2) (g26 := g262) (nn := nn2) (ww := ww2)]
        simp (disch := first | assumption | omega | decide) only [nI_add, n_mul, n_sub, n_le, n_lt, n_eq, n_ne1, n_0, m_bl_t, m_bl_f, if_true, if_false, Nat.reduceAdd, Nat.reduceMul, Nat.reduceSub, Nat.reduceLeDiff, Nat.reduceEqDiff, Nat.add_zero, Nat.add_sub_cancel, Option.toList, List.cons_append, List.nil_append, i171_0, i171_1, i171_2, i171_5, i171_6, i171_7, i171_8, i171_9, c122, b_0, hin, Bool.true_eq_false, c111, hj]
        simp (disch := first | assumption | omega | decide) only [nI_add, n_mul, n_sub, n_le, n_lt, n_eq, n_ne1, n_0, m_bl_t, m_bl_f, if_true, if_false, Nat.reduceAdd, Nat.reduceMul, Nat.reduceSub, Nat.reduceLeDiff, Nat.reduceEqDiff, Nat.add_zero, Nat.add_sub_cancel, Option.toList, List.cons_append, List.nil_append, i171_12, i171_13, i171_14, i171_15, i171_16, i171_17, i171_18, i171_19, s2']
        rfl
end RZD
