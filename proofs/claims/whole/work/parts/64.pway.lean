/-! way and code: alike -/
section RZJ
variable {V : m_V} {m n : Nat} {ls st : List Value} {t N M : Nat} {I I' : m_I} {R : m_R} {L L' : m_L} {e : Option Nat} {Q : Option Value → Nat → m_I → m_L → m_R → Prop} {f g h f' g' h' nn ww f0 nn0 ww0 h0 : Nat → Int32} {oo o0 : m_I}
theorem XX_get (hX : rl_XX f0 nn0 ww0 h0 o0 N f g h nn ww oo) : ∃ c b k n, c ≤ N ∧ b ≤ N ∧ k ≤ N ∧ rl_L f g h c b b ∧ nn 3 = nI 0 ∧ h 5 = nI 0 ∧ rl_Nt nn ww h oo k n ∧ rl_O f g h := by
  obtain ⟨c, b, k, n, c1, b1, k1, hL, hE⟩ := hX
  obtain ⟨y1, y2, y3, y4, y5, y6, y7⟩ := hE
  obtain ⟨x1, x2, x3, x4, x5⟩ := y5 rfl
  exact ⟨c, b, k, n, c1, b1, k1, hL, (y2 3 (by omega)).trans x1, (y3 5 (by omega) (by omega) (by omega) (by omega) (by omega) (by omega)).trans x2, x3, x5⟩
theorem XX_mk {c b k n : Nat} (hc : c ≤ N) (hb : b ≤ N) (hk : k ≤ N) (hL : rl_L f g h c b b) (h3 : nn 3 = nI 0) (h5 : h 5 = nI 0) (hN : rl_Nt nn ww h oo k n) (hO : rl_O f g h) : rl_XX f nn ww h o0 N f g h nn ww oo := by
  have hN2 := hN
  obtain ⟨a1, a2, a3, a4, a5⟩ := hN2
  exact ⟨c, b, k, n, hc, hb, hk, hL, fun _ _ => rfl, fun _ _ => rfl, fun _ _ _ _ _ _ _ => rfl, ⟨a1, a3, by omega⟩, fun _ => ⟨h3, h5, hN, rfl, hO⟩, (fun q => by cases q), fun _ _ q => q⟩
theorem fr_all (hL : rl_L f g h n m M) (hd : d_fr g = true) : ∀ u, u < 3 → f (3 + u) = nI 0 ∧ f (15 + u) = -1 := by
  unfold d_fr at hd
  rw [Bool.and_eq_true, Bool.and_eq_true, decide_eq_true_eq, decide_eq_true_eq, decide_eq_true_eq] at hd
  intro u hu
  obtain ⟨d, o, h1, h2, h3, h4, h5, h6, h7, h8, h9, h10, h11⟩ := hL.2.1 u hu
  have q : f (3 + u) = nI 0 := by
    rw [h1.1]
    obtain rfl | rfl | rfl : u = 0 ∨ u = 1 ∨ u = 2 := by omega
    · exact hd.1
    · exact hd.2.1
    · exact hd.2.2
  exact ⟨q, (h10 q).2.2.2.1⟩
theorem p_way (hT : TP N e I L) (ht : 55 ≤ t) (v : Int32) : pair_ok V t e N I L 92 [.int v] 132 [.int v] := by
  obtain ⟨i1, i2⟩ := n_inx (m := 3) (by omega) v
  have eC : m_loc 92 (.ref 0 :: [.int v]) = [.ref 0, .int v, m_u] := rfl
  have eD : m_loc 132 (.ref 27 :: [.int v]) = [.ref 27, .int v, m_u] := rfl
  have hA := aa28
  cases hin : d_in v (nI 0) (nI 3)
  · rw [hin] at i1
    refine pair_v (v := .int (-102)) hT (fun Q => ?_) (fun Q => ?_)
    · rw [eC]
      simp (disch := first | assumption | omega | decide) only [nI_add, n_mul, n_sub, n_le, n_lt, n_eq, n_ne1, n_0, m_bl_t, m_bl_f, if_true, if_false, Nat.reduceAdd, Nat.reduceMul, Nat.reduceSub, Nat.reduceLeDiff, Nat.reduceEqDiff, Nat.add_zero, Nat.add_sub_cancel, Option.toList, List.cons_append, List.nil_append, i92_0, i92_1, i92_2, i92_3, i92_4, i92_5, c109, b_0, ← i1]
    · rw [eD]
      simp (disch := first | assumption | omega | decide) only [nI_add, n_mul, n_sub, n_le, n_lt, n_eq, n_ne1, n_0, m_bl_t, m_bl_f, if_true, if_false, Nat.reduceAdd, Nat.reduceMul, Nat.reduceSub, Nat.reduceLeDiff, Nat.reduceEqDiff, Nat.add_zero, Nat.add_sub_cancel, Option.toList, List.cons_append, List.nil_append, i132_0, i132_1, i132_2, i132_3, i132_4, i132_5, i132_6, c111, b_0, hin]
  · rw [hin] at i1
    have hfr := rl_frs hT.1
    cases hd : d_fr (I 28)
    · rw [hd] at hfr
      refine pair_v (v := .int (-103)) hT (fun Q => ?_) (fun Q => ?_)
      · rw [eC]
        simp (disch := first | assumption | omega | decide) only [nI_add, n_mul, n_sub, n_le, n_lt, n_eq, n_ne1, n_0, m_bl_t, m_bl_f, if_true, if_false, Nat.reduceAdd, Nat.reduceMul, Nat.reduceSub, Nat.reduceLeDiff, Nat.reduceEqDiff, Nat.add_zero, Nat.add_sub_cancel, Option.toList, List.cons_append, List.nil_append, i92_0, i92_1, i92_2, i92_3, i92_6, i92_7, i92_8, i92_9, rv_0_0, c109, b_0, ← i1, Bool.true_eq_false, c49, hfr, Bool.not_false]
        simp (disch := first | assumption | omega | decide) only [nI_add, n_mul, n_sub, n_le, n_lt, n_eq, n_ne1, n_0, m_bl_t, m_bl_f, if_true, if_false, Nat.reduceAdd, Nat.reduceMul, Nat.reduceSub, Nat.reduceLeDiff, Nat.reduceEqDiff, Nat.add_zero, Nat.add_sub_cancel, Option.toList, List.cons_append, List.nil_append, i92_10, i92_11]
      · rw [eD]
        simp (disch := first | assumption | omega | decide) only [nI_add, n_mul, n_sub, n_le, n_lt, n_eq, n_ne1, n_0, m_bl_t, m_bl_f, if_true, if_false, Nat.reduceAdd, Nat.reduceMul, Nat.reduceSub, Nat.reduceLeDiff, Nat.reduceEqDiff, Nat.add_zero, Nat.add_sub_cancel, Option.toList, List.cons_append, List.nil_append, i132_0, i132_1, i132_2, i132_3, i132_4, i132_7, i132_8, i132_9, c111, b_0, hin, Bool.true_eq_false, c119, hd]
        simp (disch := first | assumption | omega | decide) only [nI_add, n_mul, n_sub, n_le, n_lt, n_eq, n_ne1, n_0, m_bl_t, m_bl_f, if_true, if_false, Nat.reduceAdd, Nat.reduceMul, Nat.reduceSub, Nat.reduceLeDiff, Nat.reduceEqDiff, Nat.add_zero, Nat.add_sub_cancel, Option.toList, List.cons_append, List.nil_append, i132_10, i132_11]
    · rw [hd] at hfr
      obtain ⟨c, b, k, n, c1, b1, k1, hL, n3, h5, hNt, hO⟩ := XX_get hT.1.1
      have hfa := fr_all hL hd
      obtain ⟨l1, l2, l3, l4, l5, l6⟩ := hL
      have e564 : I 27 1 = I 2 564 := l1.2.2.2.2.1.symm
      have O : ∀ k, k ≠ 2 → k ≠ 27 → m_sc (m_sc I 2 (m_sc (I 2) 564 v)) 27 (m_sc (I 27) 1 v) k = I k := fun k h1 h2 => by rw [m_sc_ne h2, m_sc_ne h1]
      refine ⟨.int (I 2 564), m_sc I 2 (m_sc (I 2) 564 v), L, m_sc (m_sc I 2 (m_sc (I 2) 564 v)) 27 (m_sc (I 27) 1 v), L, fun Q => ?_, fun Q => ?_, ?_⟩
      · rw [eC]
        simp (disch := first | assumption | omega | decide) only [nI_add, n_mul, n_sub, n_le, n_lt, n_eq, n_ne1, n_0, m_bl_t, m_bl_f, if_true, if_false, Nat.reduceAdd, Nat.reduceMul, Nat.reduceSub, Nat.reduceLeDiff, Nat.reduceEqDiff, Nat.add_zero, Nat.add_sub_cancel, Option.toList, List.cons_append, List.nil_append, i92_0, i92_1, i92_2, i92_3, i92_6, i92_7, i92_8, i92_9, rv_0_0, c109, b_0, ← i1, Bool.true_eq_false, c49, hfr, Bool.not_true]
        simp (disch := first | assumption | omega | decide) only [nI_add, n_mul, n_sub, n_le, n_lt, n_eq, n_ne1, n_0, m_bl_t, m_bl_f, if_true, if_false, Nat.reduceAdd, Nat.reduceMul, Nat.reduceSub, Nat.reduceLeDiff, Nat.reduceEqDiff, Nat.add_zero, Nat.add_sub_cancel, Option.toList, List.cons_append, List.nil_append, i92_12, i92_13, i92_14, i92_15, i92_16, i92_17, i92_18, i92_19, i92_20, i92_21, i92_22, i92_23, i92_24, i92_25, rv_0_0, rv_13_0, rv_1_0]
      · rw [eD]
        have e28 : m_sc I 2 (m_sc (I 2) 564 v) 28 = I 28 := m_sc_ne (by omega)
        have e27 : m_sc I 2 (m_sc (I 2) 564 v) 27 = I 27 := m_sc_ne (by omega)
        simp (disch := first | assumption | omega | decide) only [nI_add, n_mul, n_sub, n_le, n_lt, n_eq, n_ne1, n_0, m_bl_t, m_bl_f, if_true, if_false, Nat.reduceAdd, Nat.reduceMul, Nat.reduceSub, Nat.reduceLeDiff, Nat.reduceEqDiff, Nat.add_zero, Nat.add_sub_cancel, Option.toList, List.cons_append, List.nil_append, i132_0, i132_1, i132_2, i132_3, i132_4, i132_7, i132_8, i132_9, c111, b_0, hin, Bool.true_eq_false, c119, e28, hd]
        simp (disch := first | assumption | omega | decide) only [nI_add, n_mul, n_sub, n_le, n_lt, n_eq, n_ne1, n_0, m_bl_t, m_bl_f, if_true, if_false, Nat.reduceAdd, Nat.reduceMul, Nat.reduceSub, Nat.reduceLeDiff, Nat.reduceEqDiff, Nat.add_zero, Nat.add_sub_cancel, Option.toList, List.cons_append, List.nil_append, i132_12, i132_13, i132_14, i132_15, i132_16, i132_17, i132_18, i132_19, e27, e564]
      · have q2 : m_sc (m_sc I 2 (m_sc (I 2) 564 v)) 27 (m_sc (I 27) 1 v) 2 = m_sc (I 2) 564 v := by rw [m_sc_ne (by omega), m_sc_self]
        have q27 : m_sc (m_sc I 2 (m_sc (I 2) 564 v)) 27 (m_sc (I 27) 1 v) 27 = m_sc (I 27) 1 v := m_sc_self
        have hL' : rl_L (m_sc (I 2) 564 v) (I 28) (m_sc (I 27) 1 v) c b b := ⟨⟨(m_sc_ne (by omega)).trans l1.1, l1.2.1, (m_sc_ne (by omega)).trans l1.2.2.1, (m_sc_ne (by omega)).trans l1.2.2.2.1, m_sc_self.trans m_sc_self.symm, l1.2.2.2.2.2⟩, fun u hu => rl_th_fr (l2 u hu) (fun j hj => m_sc_ne (by unfold rl_ci at hj; omega)) (fun _ _ _ => rfl), fun x hx => rl_cl_fr hx (l3 x hx) (fun j j1 j2 => m_sc_ne (by omega)) (fun _ _ _ => rfl), rl_ow_fr l4 (fun j j1 j2 => m_sc_ne (by omega)) (fun u hu => m_sc_ne (by omega)), (fun _ u hu q => absurd ((m_sc_ne (by omega)).trans (hfa u hu).2) q), rl_ag_fr l6 (m_sc_ne (by omega)) (m_sc_ne (by omega)) (fun u hu => m_sc_ne (by omega)) (fun u hu => m_sc_ne (by omega)) (fun _ _ => rfl)⟩
        have hX : rl_XX (m_sc (I 2) 564 v) (I 10) (I 11) (m_sc (I 27) 1 v) I N (m_sc (I 2) 564 v) (I 28) (m_sc (I 27) 1 v) (I 10) (I 11) I := XX_mk c1 b1 k1 hL' n3 ((m_sc_ne (by omega)).trans h5) (rl_Nt_h hNt (m_sc_ne (by omega)) (m_sc_ne (by omega))) (rl_O_fr hO (fun j j1 j2 j3 => m_sc_ne (by omega)) (fun _ _ _ _ _ => rfl) (m_sc_ne (by omega)) (fun u hu q => (m_sc_ne (by omega)).symm.trans q))
        refine TP_of hT ⟨?_, ro_cell hT.1.2.1 (O _ (by omega) (by omega)) (O _ (by omega) (by omega)) (O _ (by omega) (by omega)) (O _ (by omega) (by omega)) (O _ (by omega) (by omega)) rfl rfl, cd_cell hT.1.2.2.1 (O _ (by omega) (by omega)) (O _ (by omega) (by omega)) (O _ (by omega) (by omega)) (O _ (by omega) (by omega)) (O _ (by omega) (by omega)) (O _ (by omega) (by omega)) (O _ (by omega) (by omega)), fun x hx => ?_⟩ (O _ (by omega) (by omega)) (fun j hj => by rw [q27, m_sc_ne (by omega)]) (O _ (by omega) (by omega)) (O _ (by omega) (by omega)) (O _ (by omega) (by omega)) (fun k hk => O _ (by unfold cellK at hk; omega) (by unfold cellK at hk; omega)) rfl rfl (Nat.le_add_right _ _)
        · rw [q2, q27, O 10 (by omega) (by omega), O 11 (by omega) (by omega), O 28 (by omega) (by omega)]
          exact rl_XX_le (XX_o hX (O _ (by omega) (by omega)) (O _ (by omega) (by omega)) (O _ (by omega) (by omega)) (O _ (by omega) (by omega))) (Nat.le_add_right _ _)
        · rw [q2, O 38 (by omega) (by omega), O 39 (by omega) (by omega), m_sc_ne (by omega), m_sc_ne (by omega)]
          exact hT.1.2.2.2 x hx
theorem p_code (hT : TP N e I L) (ht : 55 ≤ t) (v0 v : Int32) : pair_ok V t e N I L 93 [.int v0, .int v] 133 [.int v0, .int v] := by
  obtain ⟨i1, i2⟩ := n_inx (m := 2) (by omega) v0
  obtain ⟨j1, j2⟩ := n_inx (m := 5) (by omega) v
  have eC : m_loc 93 (.ref 0 :: [.int v0, .int v]) = [.ref 0, .int v0, .int v] := rfl
  have eD : m_loc 133 (.ref 27 :: [.int v0, .int v]) = [.ref 27, .int v0, .int v] := rfl
  have hA := aa28
  cases hin : d_in v0 (nI 0) (nI 2)
  · rw [hin] at i1
    refine pair_v (v := .int (-101)) hT (fun Q => ?_) (fun Q => ?_)
    · rw [eC]
      simp (disch := first | assumption | omega | decide) only [nI_add, n_mul, n_sub, n_le, n_lt, n_eq, n_ne1, n_0, m_bl_t, m_bl_f, if_true, if_false, Nat.reduceAdd, Nat.reduceMul, Nat.reduceSub, Nat.reduceLeDiff, Nat.reduceEqDiff, Nat.add_zero, Nat.add_sub_cancel, Option.toList, List.cons_append, List.nil_append, i93_0, i93_1, i93_2, i93_3, i93_8, i93_9, c109, b_0, ← i1]
    · rw [eD]
      simp (disch := first | assumption | omega | decide) only [nI_add, n_mul, n_sub, n_le, n_lt, n_eq, n_ne1, n_0, m_bl_t, m_bl_f, if_true, if_false, Nat.reduceAdd, Nat.reduceMul, Nat.reduceSub, Nat.reduceLeDiff, Nat.reduceEqDiff, Nat.add_zero, Nat.add_sub_cancel, Option.toList, List.cons_append, List.nil_append, i133_0, i133_1, i133_2, i133_8, i133_9, c122, b_0, hin]
  · obtain ⟨u, hu, rfl⟩ := i2 hin
    have hu3 : u < 3 := by omega
    have hb : (decide (0 ≤ u) && decide (u < 3)) = true := by simp [hu3]
    cases hv : d_in v (nI 0) (nI 5)
    · rw [hv] at j1
      refine pair_v (v := .int (-101)) hT (fun Q => ?_) (fun Q => ?_)
      · rw [eC]
        simp (disch := first | assumption | omega | decide) only [nI_add, n_mul, n_sub, n_le, n_lt, n_eq, n_ne1, n_0, m_bl_t, m_bl_f, if_true, if_false, Nat.reduceAdd, Nat.reduceMul, Nat.reduceSub, Nat.reduceLeDiff, Nat.reduceEqDiff, Nat.add_zero, Nat.add_sub_cancel, Option.toList, List.cons_append, List.nil_append, i93_0, i93_1, i93_2, i93_3, i93_4, i93_5, i93_6, i93_7, i93_8, i93_9, c109, b_0, hb, Bool.true_eq_false, ← j1]
      · rw [eD]
        simp (disch := first | assumption | omega | decide) only [nI_add, n_mul, n_sub, n_le, n_lt, n_eq, n_ne1, n_0, m_bl_t, m_bl_f, if_true, if_false, Nat.reduceAdd, Nat.reduceMul, Nat.reduceSub, Nat.reduceLeDiff, Nat.reduceEqDiff, Nat.add_zero, Nat.add_sub_cancel, Option.toList, List.cons_append, List.nil_append, i133_0, i133_1, i133_2, i133_3, i133_4, i133_5, i133_6, i133_7, i133_8, i133_9, c122, c111, b_0, hin, Bool.true_eq_false, hv]
    · obtain ⟨cc, hcc, rfl⟩ := j2 hv
      have hc6 : cc < 6 := by omega
      have hb2 : (decide (0 ≤ cc) && decide (cc < 6)) = true := by simp [hc6]
      obtain ⟨c, b, k, n, c1, b1, k1, hL, n3, h5, hNt, hO⟩ := XX_get hT.1.1
      obtain ⟨l1, l2, l3, l4, l5, l6⟩ := hL
      obtain ⟨d, o, a1, a2, a3, a4, a5, a6, a7, a8, a9, a10, a11⟩ := l2 u hu3
      by_cases hs : I 2 (3 + u) = nI 0
      · have hs2 : I 28 (150 + 154 * u) = nI 0 := a1.1.symm.trans hs
        have O : ∀ k, k ≠ 2 → k ≠ 28 → m_sc (m_sc I 2 (m_sc (I 2) (561 + u) (nI cc))) 28 (m_sc (I 28) (150 + 154 * u + 7) (nI cc)) k = I k := fun k h1 h2 => by rw [m_sc_ne h2, m_sc_ne h1]
        refine ⟨.int (nI 0), m_sc I 2 (m_sc (I 2) (561 + u) (nI cc)), L, m_sc (m_sc I 2 (m_sc (I 2) (561 + u) (nI cc))) 28 (m_sc (I 28) (150 + 154 * u + 7) (nI cc)), L, fun Q => ?_, fun Q => ?_, ?_⟩
        · rw [eC]
          simp (disch := first | assumption | omega | decide) only [nI_add, n_mul, n_sub, n_le, n_lt, n_eq, n_ne1, n_0, m_bl_t, m_bl_f, if_true, if_false, Nat.reduceAdd, Nat.reduceMul, Nat.reduceSub, Nat.reduceLeDiff, Nat.reduceEqDiff, Nat.add_zero, Nat.add_sub_cancel, Option.toList, List.cons_append, List.nil_append, i93_0, i93_1, i93_2, i93_3, i93_4, i93_5, i93_6, i93_7, i93_10, i93_11, i93_12, i93_13, i93_14, i93_15, i93_16, i93_17, rv_0_0, rv_13_0, rv_1_0, c109, b_0, hb, hb2, Bool.true_eq_false, hs]
          simp (disch := first | assumption | omega | decide) only [nI_add, n_mul, n_sub, n_le, n_lt, n_eq, n_ne1, n_0, m_bl_t, m_bl_f, if_true, if_false, Nat.reduceAdd, Nat.reduceMul, Nat.reduceSub, Nat.reduceLeDiff, Nat.reduceEqDiff, Nat.add_zero, Nat.add_sub_cancel, Option.toList, List.cons_append, List.nil_append, i93_20, i93_21, i93_22, i93_23, i93_24, i93_25, i93_26, i93_27, i93_28, i93_29, rv_0_0, rv_13_0, rv_1_0]
        · rw [eD]
          have e28 : m_sc I 2 (m_sc (I 2) (561 + u) (nI cc)) 28 = I 28 := m_sc_ne (by omega)
          simp (disch := first | assumption | omega | decide) only [nI_add, n_mul, n_sub, n_le, n_lt, n_eq, n_ne1, n_0, m_bl_t, m_bl_f, if_true, if_false, Nat.reduceAdd, Nat.reduceMul, Nat.reduceSub, Nat.reduceLeDiff, Nat.reduceEqDiff, Nat.add_zero, Nat.add_sub_cancel, Option.toList, List.cons_append, List.nil_append, i133_0, i133_1, i133_2, i133_3, i133_4, i133_5, i133_6, i133_7, i133_10, i133_11, i133_12, i133_13, i133_14, i133_15, i133_16, i133_17, rv_27_0, c122, c111, c113, b_0, hin, hv, Bool.true_eq_false, e28, hs2]
          simp (disch := first | assumption | omega | decide) only [nI_add, n_mul, n_sub, n_le, n_lt, n_eq, n_ne1, n_0, m_bl_t, m_bl_f, if_true, if_false, Nat.reduceAdd, Nat.reduceMul, Nat.reduceSub, Nat.reduceLeDiff, Nat.reduceEqDiff, Nat.add_zero, Nat.add_sub_cancel, Option.toList, List.cons_append, List.nil_append, i133_20, i133_21, i133_22, i133_23, i133_24, i133_25, i133_26, i133_27, i133_28, i133_29, rv_27_0, c113, e28]
        · have q2 : m_sc (m_sc I 2 (m_sc (I 2) (561 + u) (nI cc))) 28 (m_sc (I 28) (150 + 154 * u + 7) (nI cc)) 2 = m_sc (I 2) (561 + u) (nI cc) := by rw [m_sc_ne (by omega), m_sc_self]
          have q28 : m_sc (m_sc I 2 (m_sc (I 2) (561 + u) (nI cc))) 28 (m_sc (I 28) (150 + 154 * u + 7) (nI cc)) 28 = m_sc (I 28) (150 + 154 * u + 7) (nI cc) := m_sc_self
          have F : ∀ j, j ≠ 561 + u → m_sc (I 2) (561 + u) (nI cc) j = I 2 j := fun j hj => m_sc_ne hj
          have G : ∀ j, j ≠ 150 + 154 * u + 7 → m_sc (I 28) (150 + 154 * u + 7) (nI cc) j = I 28 j := fun j hj => m_sc_ne hj
          have hth : rl_tb (m_sc (I 2) (561 + u) (nI cc)) (m_sc (I 28) (150 + 154 * u + 7) (nI cc)) u c d o := ⟨⟨(F _ (by omega)).trans (a1.1.trans (G _ (by omega)).symm), (F _ (by omega)).trans (a1.2.1.trans (G _ (by omega)).symm), (F _ (by omega)).trans (a1.2.2.1.trans (G _ (by omega)).symm), m_sc_self.trans m_sc_self.symm⟩, rl_G_fr a2 (fun j j1 j2 => F j (by omega)) (fun j j1 j2 => G j (by omega)), rl_K_fr a3 (F _ (by omega)) (G _ (by omega)) (G _ (by omega)), rl_D_fr a4 (F _ (by omega)) (F _ (by omega)) (F _ (by omega)) (G _ (by omega)) (G _ (by omega)), rl_X_fr a5 (F _ (by omega)) (fun j j1 j2 => F j (by omega)) (fun j j1 j2 => G j (by omega)), rl_W_fr a6 (fun j j1 j2 => F j (by omega)) (fun j j1 j2 => G j (by omega)), rl_S_fr a7 (F _ (by omega)) (fun j j1 j2 => F j (by omega)) (fun j j1 j2 => G j (by omega)), ⟨by rw [F _ (by omega)]; exact a8.1, ⟨cc, hc6, m_sc_self⟩, by rw [F _ (by omega), F _ (by omega)]; exact a8.2.2⟩, rl_C_fr a9 (F _ (by omega)) (fun j j1 j2 => F j (by omega)), rl_N_fr a10 (F _ (by omega)) (F _ (by omega)) (F _ (by omega)) (F _ (by omega)) (F _ (by omega)) (fun r hr => F _ (by omega)), rl_T_fr a11 (F _ (by omega)) (F _ (by omega))⟩
          have hL' : rl_L (m_sc (I 2) (561 + u) (nI cc)) (m_sc (I 28) (150 + 154 * u + 7) (nI cc)) (I 27) c b b := ⟨rl_gl_fr l1 (F _ (by omega)) (F _ (by omega)) (F _ (by omega)) (F _ (by omega)) (fun j j1 j2 => G j (by omega)) rfl, fun w hw => by
            by_cases hwu : w = u
            · subst hwu
              exact ⟨d, o, hth⟩
            · exact rl_th_fr (l2 w hw) (fun j hj => F j (by unfold rl_ci at hj; omega)) (fun j j1 j2 => G j (by omega)), fun x hx => rl_cl_fr hx (l3 x hx) (fun j j1 j2 => F j (by omega)) (fun j j1 j2 => G j (by omega)), rl_ow_fr l4 (fun j j1 j2 => F j (by omega)) (fun u hu => F _ (by omega)), rl_co_fr l5 (F _ (by omega)) (F _ (by omega)) (fun u hu => F _ (by omega)) (fun u hu => F _ (by omega)) (fun u x hu hx => F _ (by omega)) (fun x hx => F _ (by omega)), rl_ag_fr l6 (F _ (by omega)) rfl (fun u hu => F _ (by omega)) (fun u hu => F _ (by omega)) (fun v hv => G _ (by omega))⟩
          have hX : rl_XX (m_sc (I 2) (561 + u) (nI cc)) (I 10) (I 11) (I 27) I N (m_sc (I 2) (561 + u) (nI cc)) (m_sc (I 28) (150 + 154 * u + 7) (nI cc)) (I 27) (I 10) (I 11) I := XX_mk c1 b1 k1 hL' n3 h5 hNt (rl_O_fr hO (fun j j1 j2 j3 => F j (by omega)) (fun v hv i i1 i2 => G _ (by omega)) rfl (fun w hw q => (F _ (by omega)).symm.trans q))
          refine TP_of hT ⟨?_, ro_cell hT.1.2.1 (O _ (by omega) (by omega)) (O _ (by omega) (by omega)) (O _ (by omega) (by omega)) (O _ (by omega) (by omega)) (O _ (by omega) (by omega)) rfl rfl, cd_cell hT.1.2.2.1 (O _ (by omega) (by omega)) (O _ (by omega) (by omega)) (O _ (by omega) (by omega)) (O _ (by omega) (by omega)) (O _ (by omega) (by omega)) (O _ (by omega) (by omega)) (O _ (by omega) (by omega)), fun x hx => ?_⟩ (O _ (by omega) (by omega)) (fun j hj => by rw [O 27 (by omega) (by omega)]) (O _ (by omega) (by omega)) (O _ (by omega) (by omega)) (O _ (by omega) (by omega)) (fun k hk => O _ (by unfold cellK at hk; omega) (by unfold cellK at hk; omega)) rfl rfl (Nat.le_add_right _ _)
          · rw [q2, q28, O 10 (by omega) (by omega), O 11 (by omega) (by omega), O 27 (by omega) (by omega)]
            exact rl_XX_le (XX_o hX (O _ (by omega) (by omega)) (O _ (by omega) (by omega)) (O _ (by omega) (by omega)) (O _ (by omega) (by omega))) (Nat.le_add_right _ _)
          · rw [q2, O 38 (by omega) (by omega), O 39 (by omega) (by omega), F _ (by omega), F _ (by omega)]
            exact hT.1.2.2.2 x hx
      · have hs2 : ¬ I 28 (150 + 154 * u) = nI 0 := fun q => hs (a1.1.trans q)
        refine pair_v (v := .int (-103)) hT (fun Q => ?_) (fun Q => ?_)
        · rw [eC]
          simp (disch := first | assumption | omega | decide) only [nI_add, n_mul, n_sub, n_le, n_lt, n_eq, n_ne1, n_0, m_bl_t, m_bl_f, if_true, if_false, Nat.reduceAdd, Nat.reduceMul, Nat.reduceSub, Nat.reduceLeDiff, Nat.reduceEqDiff, Nat.add_zero, Nat.add_sub_cancel, Option.toList, List.cons_append, List.nil_append, i93_0, i93_1, i93_2, i93_3, i93_4, i93_5, i93_6, i93_7, i93_10, i93_11, i93_12, i93_13, i93_14, i93_15, i93_16, i93_17, i93_18, i93_19, rv_0_0, rv_13_0, rv_1_0, c109, b_0, hb, hb2, Bool.true_eq_false, hs]
        · rw [eD]
          simp (disch := first | assumption | omega | decide) only [nI_add, n_mul, n_sub, n_le, n_lt, n_eq, n_ne1, n_0, m_bl_t, m_bl_f, if_true, if_false, Nat.reduceAdd, Nat.reduceMul, Nat.reduceSub, Nat.reduceLeDiff, Nat.reduceEqDiff, Nat.add_zero, Nat.add_sub_cancel, Option.toList, List.cons_append, List.nil_append, i133_0, i133_1, i133_2, i133_3, i133_4, i133_5, i133_6, i133_7, i133_10, i133_11, i133_12, i133_13, i133_14, i133_15, i133_16, i133_17, i133_18, i133_19, rv_27_0, c122, c111, c113, b_0, hin, hv, Bool.true_eq_false, hs2]
end RZJ
