/-! cell: alike, whole -/
section RZL2
variable {V : m_V} {m n : Nat} {ls st : List Value} {t N M : Nat} {I I' : m_I} {R : m_R} {L L' : m_L} {e : Option Nat} {a b u x : Nat} {Q : Option Value → Nat → m_I → m_L → m_R → Prop}
theorem w91_24 (ht : 55 ≤ t) (hx : x < 8) {v w : Int32} : WP V 91 24 [.ref 0, .int (nI x), .int v, .int w] [] t I L (m_RR e a b) Q = Q (some (.int (nI 0))) t (m_sc I 2 (va_cpy (c_lay (I 2) x v (if v = nI 0 then nI 0 else w)) (c_lay (I 2) x v (if v = nI 0 then nI 0 else w)) 49 565 16)) L (m_RR e a b) := by
  rw [i91_24]
  by_cases hv : v = nI 0
  · rw [if_pos hv]
    simp (disch := first | assumption | omega | decide) only [nI_add, n_mul, n_sub, n_le, n_lt, n_eq, n_ne1, n_0, m_bl_t, m_bl_f, if_true, if_false, Nat.reduceAdd, Nat.reduceMul, Nat.reduceSub, Nat.reduceLeDiff, Nat.reduceEqDiff, Nat.add_zero, Nat.add_sub_cancel, Option.toList, List.cons_append, List.nil_append, i91_25, i91_26, i91_27, i91_28, i91_29, i91_30, i91_31, i91_32, i91_33, i91_34, i91_35, i91_36, i91_37, i91_38, i91_39, i91_40, i91_41, i91_42, i91_43, i91_44, i91_45, i91_46, rv_0_0, rv_13_0, rv_1_0, hv, m_sc_self, s_scc]
    simp (disch := first | assumption | omega | decide) only [nI_add, n_mul, n_sub, n_le, n_lt, n_eq, n_ne1, n_0, m_bl_t, m_bl_f, if_true, if_false, Nat.reduceAdd, Nat.reduceMul, Nat.reduceSub, Nat.reduceLeDiff, Nat.reduceEqDiff, Nat.add_zero, Nat.add_sub_cancel, Option.toList, List.cons_append, List.nil_append, i91_47, i91_48, c47 ht, m_sc_self, s_scc]
    rfl
  · rw [if_neg hv]
    simp (disch := first | assumption | omega | decide) only [nI_add, n_mul, n_sub, n_le, n_lt, n_eq, n_ne1, n_0, m_bl_t, m_bl_f, if_true, if_false, Nat.reduceAdd, Nat.reduceMul, Nat.reduceSub, Nat.reduceLeDiff, Nat.reduceEqDiff, Nat.add_zero, Nat.add_sub_cancel, Option.toList, List.cons_append, List.nil_append, i91_25, i91_26, i91_27, i91_28, i91_29, i91_30, i91_31, i91_32, i91_33, i91_34, i91_35, i91_36, i91_37, i91_38, i91_39, i91_40, i91_41, i91_42, i91_43, i91_44, i91_45, i91_46, rv_0_0, rv_13_0, rv_1_0, hv, m_sc_self, s_scc]
    simp (disch := first | assumption | omega | decide) only [nI_add, n_mul, n_sub, n_le, n_lt, n_eq, n_ne1, n_0, m_bl_t, m_bl_f, if_true, if_false, Nat.reduceAdd, Nat.reduceMul, Nat.reduceSub, Nat.reduceLeDiff, Nat.reduceEqDiff, Nat.add_zero, Nat.add_sub_cancel, Option.toList, List.cons_append, List.nil_append, i91_47, i91_48, c47 ht, m_sc_self, s_scc]
    rfl
theorem w131_25 (ht : 55 ≤ t) (hx : x < 8) {v w : Int32} : WP V 131 25 [.ref 27, .int (nI x), .int v, .int w, m_u] [] t I L (m_RR e 28 b) Q = Q (some (.int (nI 0))) t (z_rm (m_sc I 28 (d_lay (I 28) x v (if v = nI 0 then nI 0 else w))) 8) L (m_RR e 28 b) := by
  have hA := aa28
  rw [i131_25]
  by_cases hv : v = nI 0
  · rw [if_pos hv]
    simp (disch := first | assumption | omega | decide) only [nI_add, n_mul, n_sub, n_le, n_lt, n_eq, n_ne1, n_0, m_bl_t, m_bl_f, if_true, if_false, Nat.reduceAdd, Nat.reduceMul, Nat.reduceSub, Nat.reduceLeDiff, Nat.reduceEqDiff, Nat.add_zero, Nat.add_sub_cancel, Option.toList, List.cons_append, List.nil_append, i131_26, c112]
    simp (disch := first | assumption | omega | decide) only [nI_add, n_mul, n_sub, n_le, n_lt, n_eq, n_ne1, n_0, m_bl_t, m_bl_f, if_true, if_false, Nat.reduceAdd, Nat.reduceMul, Nat.reduceSub, Nat.reduceLeDiff, Nat.reduceEqDiff, Nat.add_zero, Nat.add_sub_cancel, Option.toList, List.cons_append, List.nil_append, i131_27, i131_28, i131_29, i131_30, i131_31, i131_32, i131_33, i131_34, i131_35, i131_36, i131_37, i131_38, i131_39, i131_40, i131_41, i131_42, i131_43, i131_44, i131_45, i131_46, i131_47, i131_48, i131_49, i131_50, i131_51, i131_52, i131_53, i131_54, i131_55, i131_56, i131_57, i131_58, i131_59, i131_60, i131_61, i131_62, i131_63, i131_64, i131_65, i131_66, rv_27_0, hv, m_sc_self, s_scc, m_sc_ne]
    simp (disch := first | assumption | omega | decide) only [nI_add, n_mul, n_sub, n_le, n_lt, n_eq, n_ne1, n_0, m_bl_t, m_bl_f, if_true, if_false, Nat.reduceAdd, Nat.reduceMul, Nat.reduceSub, Nat.reduceLeDiff, Nat.reduceEqDiff, Nat.add_zero, Nat.add_sub_cancel, Option.toList, List.cons_append, List.nil_append, i131_67, i131_68, c130 ht, m_sc_self, s_scc]
    rfl
  · rw [if_neg hv]
    simp (disch := first | assumption | omega | decide) only [nI_add, n_mul, n_sub, n_le, n_lt, n_eq, n_ne1, n_0, m_bl_t, m_bl_f, if_true, if_false, Nat.reduceAdd, Nat.reduceMul, Nat.reduceSub, Nat.reduceLeDiff, Nat.reduceEqDiff, Nat.add_zero, Nat.add_sub_cancel, Option.toList, List.cons_append, List.nil_append, i131_26, c112]
    simp (disch := first | assumption | omega | decide) only [nI_add, n_mul, n_sub, n_le, n_lt, n_eq, n_ne1, n_0, m_bl_t, m_bl_f, if_true, if_false, Nat.reduceAdd, Nat.reduceMul, Nat.reduceSub, Nat.reduceLeDiff, Nat.reduceEqDiff, Nat.add_zero, Nat.add_sub_cancel, Option.toList, List.cons_append, List.nil_append, i131_27, i131_28, i131_29, i131_30, i131_31, i131_32, i131_33, i131_34, i131_35, i131_36, i131_37, i131_38, i131_39, i131_40, i131_41, i131_42, i131_43, i131_44, i131_45, i131_46, i131_47, i131_48, i131_49, i131_50, i131_51, i131_52, i131_53, i131_54, i131_55, i131_56, i131_57, i131_58, i131_59, i131_60, i131_61, i131_62, i131_63, i131_64, i131_65, i131_66, rv_27_0, hv, m_sc_self, s_scc, m_sc_ne]
    simp (disch := first | assumption | omega | decide) only [nI_add, n_mul, n_sub, n_le, n_lt, n_eq, n_ne1, n_0, m_bl_t, m_bl_f, if_true, if_false, Nat.reduceAdd, Nat.reduceMul, Nat.reduceSub, Nat.reduceLeDiff, Nat.reduceEqDiff, Nat.add_zero, Nat.add_sub_cancel, Option.toList, List.cons_append, List.nil_append, i131_67, i131_68, c130 ht, m_sc_self, s_scc]
    rfl
theorem p_cell13 (hT : TP N e I L) (ht : 55 ≤ t) (hx : x < 8) {v w : Int32} (hw : v = nI 2 → ∃ y, y < 6 ∧ w = nI y) : ∃ r I1 L1 I2 L2, (∀ Q, WP V 91 13 [.ref 0, .int (nI x), .int v, .int w] [] t I L (m_RR e 28 48) Q = Q (some r) t I1 L1 (m_RR e 28 48)) ∧ (∀ Q, WP V 131 13 [.ref 27, .int (nI x), .int v, .int w, m_u] [] t I1 L1 (m_RR e 28 48) Q = Q (some r) t I2 L2 (m_RR e 28 48)) ∧ TP (N + 200) e I2 L2 := by
  obtain ⟨i1, i2⟩ := n_inx (m := 2) (by omega) v
  have hA := aa28
  cases hin : d_in v (nI 0) (nI 2)
  · refine ⟨.int (-102), I, L, I, L, fun Q => ?_, fun Q => ?_, TP_le hT (Nat.le_add_right _ _)⟩
    · rw [i91_13]
      simp (disch := first | assumption | omega | decide) only [nI_add, n_mul, n_sub, n_le, n_lt, n_eq, n_ne1, n_0, m_bl_t, m_bl_f, if_true, if_false, Nat.reduceAdd, Nat.reduceMul, Nat.reduceSub, Nat.reduceLeDiff, Nat.reduceEqDiff, Nat.add_zero, Nat.add_sub_cancel, Option.toList, List.cons_append, List.nil_append, i91_14, i91_15, i91_16, i91_17, c44, b_0, hin]
    · rw [i131_13]
      simp (disch := first | assumption | omega | decide) only [nI_add, n_mul, n_sub, n_le, n_lt, n_eq, n_ne1, n_0, m_bl_t, m_bl_f, if_true, if_false, Nat.reduceAdd, Nat.reduceMul, Nat.reduceSub, Nat.reduceLeDiff, Nat.reduceEqDiff, Nat.add_zero, Nat.add_sub_cancel, Option.toList, List.cons_append, List.nil_append, i131_14, i131_15, i131_16, i131_17, i131_18, i131_19, c111, b_0, hin]
  · have hfr := rl_frs hT.1
    cases hd : d_fr (I 28)
    · rw [hd] at hfr
      refine ⟨.int (-103), I, L, I, L, fun Q => ?_, fun Q => ?_, TP_le hT (Nat.le_add_right _ _)⟩
      · rw [i91_13]
        simp (disch := first | assumption | omega | decide) only [nI_add, n_mul, n_sub, n_le, n_lt, n_eq, n_ne1, n_0, m_bl_t, m_bl_f, if_true, if_false, Nat.reduceAdd, Nat.reduceMul, Nat.reduceSub, Nat.reduceLeDiff, Nat.reduceEqDiff, Nat.add_zero, Nat.add_sub_cancel, Option.toList, List.cons_append, List.nil_append, i91_14, i91_15, i91_18, i91_19, i91_20, i91_21, rv_0_0, c44, b_0, hin, Bool.true_eq_false, c49, hfr, Bool.not_false]
        simp (disch := first | assumption | omega | decide) only [nI_add, n_mul, n_sub, n_le, n_lt, n_eq, n_ne1, n_0, m_bl_t, m_bl_f, if_true, if_false, Nat.reduceAdd, Nat.reduceMul, Nat.reduceSub, Nat.reduceLeDiff, Nat.reduceEqDiff, Nat.add_zero, Nat.add_sub_cancel, Option.toList, List.cons_append, List.nil_append, i91_22, i91_23]
      · rw [i131_13]
        simp (disch := first | assumption | omega | decide) only [nI_add, n_mul, n_sub, n_le, n_lt, n_eq, n_ne1, n_0, m_bl_t, m_bl_f, if_true, if_false, Nat.reduceAdd, Nat.reduceMul, Nat.reduceSub, Nat.reduceLeDiff, Nat.reduceEqDiff, Nat.add_zero, Nat.add_sub_cancel, Option.toList, List.cons_append, List.nil_append, i131_14, i131_15, i131_16, i131_17, i131_20, i131_21, i131_22, c111, b_0, hin, Bool.true_eq_false, c119, hd]
        simp (disch := first | assumption | omega | decide) only [nI_add, n_mul, n_sub, n_le, n_lt, n_eq, n_ne1, n_0, m_bl_t, m_bl_f, if_true, if_false, Nat.reduceAdd, Nat.reduceMul, Nat.reduceSub, Nat.reduceLeDiff, Nat.reduceEqDiff, Nat.add_zero, Nat.add_sub_cancel, Option.toList, List.cons_append, List.nil_append, i131_23, i131_24]
    · rw [hd] at hfr
      obtain ⟨c, b, k, n, c1, b1, k1, hL, n3, h5, hNt, hO⟩ := XX_get hT.1.1
      have hfa := fr_all hL hd
      obtain ⟨w', hw'⟩ : ∃ w', w' = if v = nI 0 then nI 0 else w := ⟨_, rfl⟩
      have hval : rl_val v w' := by
        obtain ⟨y, hy, rfl⟩ := i2 hin
        obtain rfl | rfl | rfl : y = 0 ∨ y = 1 ∨ y = 2 := by omega
        · exact Or.inl rfl
        · exact Or.inr (Or.inl rfl)
        · rw [if_neg (by decide)] at hw'
          rw [hw']
          exact Or.inr (Or.inr ⟨rfl, hw rfl⟩)
      refine ⟨.int (nI 0), m_sc I 2 (va_cpy (c_lay (I 2) x v w') (c_lay (I 2) x v w') 49 565 16), L, z_rm (m_sc (m_sc I 2 (va_cpy (c_lay (I 2) x v w') (c_lay (I 2) x v w') 49 565 16)) 28 (d_lay (I 28) x v w')) 8, L, fun Q => ?_, fun Q => ?_, ?_⟩
      · rw [i91_13]
        simp (disch := first | assumption | omega | decide) only [nI_add, n_mul, n_sub, n_le, n_lt, n_eq, n_ne1, n_0, m_bl_t, m_bl_f, if_true, if_false, Nat.reduceAdd, Nat.reduceMul, Nat.reduceSub, Nat.reduceLeDiff, Nat.reduceEqDiff, Nat.add_zero, Nat.add_sub_cancel, Option.toList, List.cons_append, List.nil_append, i91_14, i91_15, i91_18, i91_19, i91_20, i91_21, rv_0_0, c44, b_0, hin, Bool.true_eq_false, c49, hfr, Bool.not_true]
        rw [w91_24 ht hx, ← hw']
      · rw [i131_13]
        have e28 : m_sc I 2 (va_cpy (c_lay (I 2) x v w') (c_lay (I 2) x v w') 49 565 16) 28 = I 28 := m_sc_ne (by omega)
        simp (disch := first | assumption | omega | decide) only [nI_add, n_mul, n_sub, n_le, n_lt, n_eq, n_ne1, n_0, m_bl_t, m_bl_f, if_true, if_false, Nat.reduceAdd, Nat.reduceMul, Nat.reduceSub, Nat.reduceLeDiff, Nat.reduceEqDiff, Nat.add_zero, Nat.add_sub_cancel, Option.toList, List.cons_append, List.nil_append, i131_14, i131_15, i131_16, i131_17, i131_20, i131_21, i131_22, c111, b_0, hin, Bool.true_eq_false, c119, e28, hd]
        rw [w131_25 ht hx, ← hw', e28]
      · have O : ∀ k, k ≠ 2 → k ≠ 28 → k ≠ 38 → k ≠ 39 → z_rm (m_sc (m_sc I 2 (va_cpy (c_lay (I 2) x v w') (c_lay (I 2) x v w') 49 565 16)) 28 (d_lay (I 28) x v w')) 8 k = I k := fun k h1 h2 h3 h4 => by rw [z_rm_o ⟨h3, h4⟩, m_sc_ne h2, m_sc_ne h1]
        have q2 : z_rm (m_sc (m_sc I 2 (va_cpy (c_lay (I 2) x v w') (c_lay (I 2) x v w') 49 565 16)) 28 (d_lay (I 28) x v w')) 8 2 = va_cpy (c_lay (I 2) x v w') (c_lay (I 2) x v w') 49 565 16 := by rw [z_rm_o (by omega), m_sc_ne (by omega), m_sc_self]
        have q28 : z_rm (m_sc (m_sc I 2 (va_cpy (c_lay (I 2) x v w') (c_lay (I 2) x v w') 49 565 16)) 28 (d_lay (I 28) x v w')) 8 28 = d_lay (I 28) x v w' := by rw [z_rm_o (by omega), m_sc_self]
        have hf : ∀ j, j < 565 → va_cpy (c_lay (I 2) x v w') (c_lay (I 2) x v w') 49 565 16 j = c_lay (I 2) x v w' j := fun j hj => pk_cpy_out (by omega)
        have hL' := rl_lay hL hx hfa hval hf
        have hX : rl_XX (va_cpy (c_lay (I 2) x v w') (c_lay (I 2) x v w') 49 565 16) (I 10) (I 11) (I 27) I N (va_cpy (c_lay (I 2) x v w') (c_lay (I 2) x v w') 49 565 16) (d_lay (I 28) x v w') (I 27) (I 10) (I 11) I := XX_mk c1 b1 k1 hL' n3 h5 hNt (rl_O_fr hO (fun j j1 j2 j3 => (hf j (by omega)).trans (c_lay_o (by omega))) (fun u hu i i1 i2 => d_lay_o (by omega)) rfl (fun u hu q => ((hf _ (by omega)).trans (c_lay_o (by omega))).symm.trans q))
        refine TP_of hT ⟨?_, ro_cell hT.1.2.1 (O _ (by omega) (by omega) (by omega) (by omega)) (O _ (by omega) (by omega) (by omega) (by omega)) (O _ (by omega) (by omega) (by omega) (by omega)) (O _ (by omega) (by omega) (by omega) (by omega)) (O _ (by omega) (by omega) (by omega) (by omega)) rfl rfl, cd_cell hT.1.2.2.1 (O _ (by omega) (by omega) (by omega) (by omega)) (O _ (by omega) (by omega) (by omega) (by omega)) (O _ (by omega) (by omega) (by omega) (by omega)) (O _ (by omega) (by omega) (by omega) (by omega)) (O _ (by omega) (by omega) (by omega) (by omega)) (O _ (by omega) (by omega) (by omega) (by omega)) (O _ (by omega) (by omega) (by omega) (by omega)), fun y hy => ?_⟩ (O _ (by omega) (by omega) (by omega) (by omega)) (fun j hj => by rw [O 27 (by omega) (by omega) (by omega) (by omega)]) (O _ (by omega) (by omega) (by omega) (by omega)) (O _ (by omega) (by omega) (by omega) (by omega)) (O _ (by omega) (by omega) (by omega) (by omega)) (fun k hk => O _ (by unfold cellK at hk; omega) (by unfold cellK at hk; omega) (by unfold cellK at hk; omega) (by unfold cellK at hk; omega)) rfl rfl (Nat.le_add_right _ _)
        · rw [q2, q28, O 10 (by omega) (by omega) (by omega) (by omega), O 11 (by omega) (by omega) (by omega) (by omega), O 27 (by omega) (by omega) (by omega) (by omega)]
          exact rl_XX_le (XX_o hX (O _ (by omega) (by omega) (by omega) (by omega)) (O _ (by omega) (by omega) (by omega) (by omega)) (O _ (by omega) (by omega) (by omega) (by omega)) (O _ (by omega) (by omega) (by omega) (by omega))) (Nat.le_add_right _ _)
        · obtain ⟨n', hn⟩ := hL'.2.2.1 y hy
          obtain ⟨p1, p2, p3, p4, p5, p6, p7, p8⟩ := hn
          rw [q2, z_rm_38, z_rm_39, if_pos hy, if_pos hy, m_sc_self, ← p6, ← p7, va_x (r := y) (by omega), show 573 + y = 565 + (8 + y) by omega, va_x (r := 8 + y) (by omega), hf (49 + y) (by omega), hf (57 + y) (by omega), show 49 + (8 + y) = 57 + y by omega]
          exact ⟨rfl, rfl⟩
theorem p_cell (hT : TP N e I L) (ht : 55 ≤ t) (v0 v w : Int32) : pair_ok V t e N I L 91 [.int v0, .int v, .int w] 131 [.int v0, .int v, .int w] := by
  obtain ⟨i1, i2⟩ := n_inx (m := 7) (by omega) v0
  obtain ⟨j1, j2⟩ := n_inx (m := 5) (by omega) w
  have eC : m_loc 91 (.ref 0 :: [.int v0, .int v, .int w]) = [.ref 0, .int v0, .int v, .int w] := rfl
  have eD : m_loc 131 (.ref 27 :: [.int v0, .int v, .int w]) = [.ref 27, .int v0, .int v, .int w, m_u] := rfl
  cases hin : d_in v0 (nI 0) (nI 7)
  · rw [hin] at i1
    refine pair_v (v := .int (-101)) hT (fun Q => ?_) (fun Q => ?_)
    · rw [eC]
      simp (disch := first | assumption | omega | decide) only [nI_add, n_mul, n_sub, n_le, n_lt, n_eq, n_ne1, n_0, m_bl_t, m_bl_f, if_true, if_false, Nat.reduceAdd, Nat.reduceMul, Nat.reduceSub, Nat.reduceLeDiff, Nat.reduceEqDiff, Nat.add_zero, Nat.add_sub_cancel, Option.toList, List.cons_append, List.nil_append, i91_0, i91_1, i91_2, i91_3, i91_11, i91_12, c109, b_0, ← i1]
    · rw [eD]
      simp (disch := first | assumption | omega | decide) only [nI_add, n_mul, n_sub, n_le, n_lt, n_eq, n_ne1, n_0, m_bl_t, m_bl_f, if_true, if_false, Nat.reduceAdd, Nat.reduceMul, Nat.reduceSub, Nat.reduceLeDiff, Nat.reduceEqDiff, Nat.add_zero, Nat.add_sub_cancel, Option.toList, List.cons_append, List.nil_append, i131_0, i131_1, i131_2, i131_11, i131_12, c121, b_0, hin]
  · obtain ⟨x, hx, rfl⟩ := i2 hin
    have hx8 : x < 8 := by omega
    have hb : (decide (0 ≤ x) && decide (x < 8)) = true := by simp [hx8]
    by_cases hv2 : v = nI 2
    · cases hw : d_in w (nI 0) (nI 5)
      · rw [hw] at j1
        refine pair_v (v := .int (-101)) hT (fun Q => ?_) (fun Q => ?_)
        · rw [eC]
          simp (disch := first | assumption | omega | decide) only [nI_add, n_mul, n_sub, n_le, n_lt, n_eq, n_ne1, n_0, m_bl_t, m_bl_f, if_true, if_false, Nat.reduceAdd, Nat.reduceMul, Nat.reduceSub, Nat.reduceLeDiff, Nat.reduceEqDiff, Nat.add_zero, Nat.add_sub_cancel, Option.toList, List.cons_append, List.nil_append, i91_0, i91_1, i91_2, i91_3, i91_4, i91_5, i91_6, i91_7, i91_8, i91_9, i91_10, i91_11, i91_12, c109, b_0, hb, Bool.true_eq_false, hv2, ← j1]
        · rw [eD]
          simp (disch := first | assumption | omega | decide) only [nI_add, n_mul, n_sub, n_le, n_lt, n_eq, n_ne1, n_0, m_bl_t, m_bl_f, if_true, if_false, Nat.reduceAdd, Nat.reduceMul, Nat.reduceSub, Nat.reduceLeDiff, Nat.reduceEqDiff, Nat.add_zero, Nat.add_sub_cancel, Option.toList, List.cons_append, List.nil_append, i131_0, i131_1, i131_2, i131_3, i131_4, i131_5, i131_6, i131_7, i131_8, i131_9, i131_10, i131_11, i131_12, c121, c111, b_0, hin, Bool.true_eq_false, hv2, hw]
      · rw [hw] at j1
        obtain ⟨y, hy, hy2⟩ := j2 hw
        obtain ⟨r, I1, L1, I2, L2, q1, q2, q3⟩ := p_cell13 (V := V) hT ht hx8 (v := v) (w := w) (fun _ => ⟨y, by omega, hy2⟩)
        refine ⟨r, I1, L1, I2, L2, fun Q => ?_, fun Q => ?_, q3⟩
        · rw [eC, ← q1 Q]
          simp (disch := first | assumption | omega | decide) only [nI_add, n_mul, n_sub, n_le, n_lt, n_eq, n_ne1, n_0, m_bl_t, m_bl_f, if_true, if_false, Nat.reduceAdd, Nat.reduceMul, Nat.reduceSub, Nat.reduceLeDiff, Nat.reduceEqDiff, Nat.add_zero, Nat.add_sub_cancel, Option.toList, List.cons_append, List.nil_append, i91_0, i91_1, i91_2, i91_3, i91_4, i91_5, i91_6, i91_7, i91_8, i91_9, i91_10, c109, b_0, hb, Bool.true_eq_false, hv2, ← j1]
        · rw [eD, ← q2 Q]
          simp (disch := first | assumption | omega | decide) only [nI_add, n_mul, n_sub, n_le, n_lt, n_eq, n_ne1, n_0, m_bl_t, m_bl_f, if_true, if_false, Nat.reduceAdd, Nat.reduceMul, Nat.reduceSub, Nat.reduceLeDiff, Nat.reduceEqDiff, Nat.add_zero, Nat.add_sub_cancel, Option.toList, List.cons_append, List.nil_append, i131_0, i131_1, i131_2, i131_3, i131_4, i131_5, i131_6, i131_7, i131_8, i131_9, i131_10, c121, c111, b_0, hin, Bool.true_eq_false, hv2, hw]
    · obtain ⟨r, I1, L1, I2, L2, q1, q2, q3⟩ := p_cell13 (V := V) hT ht hx8 (v := v) (w := w) (fun q => absurd q hv2)
      refine ⟨r, I1, L1, I2, L2, fun Q => ?_, fun Q => ?_, q3⟩
      · rw [eC, ← q1 Q]
        simp (disch := first | assumption | omega | decide) only [nI_add, n_mul, n_sub, n_le, n_lt, n_eq, n_ne1, n_0, m_bl_t, m_bl_f, if_true, if_false, Nat.reduceAdd, Nat.reduceMul, Nat.reduceSub, Nat.reduceLeDiff, Nat.reduceEqDiff, Nat.add_zero, Nat.add_sub_cancel, Option.toList, List.cons_append, List.nil_append, i91_0, i91_1, i91_2, i91_3, i91_4, i91_5, i91_6, c109, b_0, hb, Bool.true_eq_false, hv2]
      · rw [eD, ← q2 Q]
        simp (disch := first | assumption | omega | decide) only [nI_add, n_mul, n_sub, n_le, n_lt, n_eq, n_ne1, n_0, m_bl_t, m_bl_f, if_true, if_false, Nat.reduceAdd, Nat.reduceMul, Nat.reduceSub, Nat.reduceLeDiff, Nat.reduceEqDiff, Nat.add_zero, Nat.add_sub_cancel, Option.toList, List.cons_append, List.nil_append, i131_0, i131_1, i131_2, i131_3, i131_4, i131_5, c121, b_0, hin, Bool.true_eq_false, hv2]
end RZL2
