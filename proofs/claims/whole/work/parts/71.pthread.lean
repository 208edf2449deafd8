/-! thread and told: alike -/
theorem d_ink {v : Int32} {lo m : Nat} (hlo : lo + m + 1 < 2147483648) : d_in v (nI lo) (nI (lo + m)) = true ↔ ∃ r, r < m + 1 ∧ v = nI (lo + r) := by
  unfold d_in
  rw [Bool.and_eq_true, decide_eq_true_eq, decide_eq_true_eq]
  constructor
  · rintro ⟨h1, h2⟩
    have h0 : nI 0 ≤ v := Int32.le_trans ((n_le (by omega) (by omega)).mpr (Nat.zero_le lo)) h1
    obtain ⟨j, hj, e1⟩ := nI_of (x := v) (Int32.not_lt.mpr h0)
    subst e1
    rw [n_le (by omega) hj] at h1
    rw [n_le hj (by omega)] at h2
    exact ⟨j - lo, by omega, by rw [show lo + (j - lo) = j by omega]⟩
  · rintro ⟨r, hr, rfl⟩
    exact ⟨(n_le (by omega) (by omega)).mpr (by omega), (n_le (by omega) (by omega)).mpr (by omega)⟩
theorem n_sh {v : Int32} {lo m : Nat} (hlo : lo + m + 1 < 2147483648) : (decide (nI 0 ≤ v - nI lo) && decide (v - nI lo < nI (m + 1))) = d_in v (nI lo) (nI (lo + m)) := by
  obtain ⟨j1, j2⟩ := n_inx (m := m) (by omega) (v - nI lo)
  rw [← j1, Bool.eq_iff_iff, d_ink hlo]
  constructor
  · intro q
    obtain ⟨r, hr, e⟩ := j2 q
    refine ⟨r, hr, ?_⟩
    have e2 : v = (v - nI lo) + nI lo := (Int32.sub_add_cancel v (nI lo)).symm
    rw [e, nI_add, Nat.add_comm] at e2
    exact e2
  · rintro ⟨r, hr, rfl⟩
    rw [n_sub (by omega), Nat.add_sub_cancel_left]
    have := (d_ink (v := nI r) (lo := 0) (m := m) (by omega)).mpr ⟨r, hr, by rw [Nat.zero_add]⟩
    rw [Nat.zero_add] at this
    exact this
theorem d_in_sub {v : Int32} {lo m k : Nat} (h : d_in v (nI 0) (nI k) = false) (h1 : lo + m ≤ k) (hk : k + 1 < 2147483648) : d_in v (nI lo) (nI (lo + m)) = false := by
  cases q : d_in v (nI lo) (nI (lo + m))
  · rfl
  · obtain ⟨r, hr, rfl⟩ := (d_ink (by omega)).mp q
    have := (d_ink (v := nI (lo + r)) (lo := 0) (m := k) (by omega)).mpr ⟨lo + r, by omega, by rw [Nat.zero_add]⟩
    rw [Nat.zero_add, h] at this
    cases this
theorem d_out {v : Int32} {k : Nat} (h : d_in v (nI 0) (nI k) = false) (hk : k < 2147483648) : v.toInt < 0 ∨ (k : Int) < v.toInt := by
  unfold d_in at h
  by_cases h0 : nI 0 ≤ v
  · rw [decide_eq_true h0, Bool.true_and] at h
    have h2 := of_decide_eq_false h
    rw [Int32.le_iff_toInt_le, nI_toInt hk] at h2
    omega
  · rw [Int32.le_iff_toInt_le, nI_toInt (by decide)] at h0
    omega
/-- both answer the same and change nothing -/
def same_v (V : m_V) (t : Nat) (e : Option Nat) (I : m_I) (L : m_L) (c : Nat) (As : List Value) (d : Nat) (Bs : List Value) : Prop :=
  ∃ v : Int32, (∀ Q, WP V c 0 (m_loc c (.ref 0 :: As)) [] t I L (m_RR e 28 48) Q = Q (some (.int v)) t I L (m_RR e 28 48)) ∧ (∀ Q, WP V d 0 (m_loc d (.ref 27 :: Bs)) [] t I L (m_RR e 28 48) Q = Q (some (.int v)) t I L (m_RR e 28 48))
theorem same_mk {V : m_V} {t : Nat} {e : Option Nat} {I : m_I} {L : m_L} {c d : Nat} {As Bs : List Value} {v : Int32} (h1 : ∀ Q, WP V c 0 (m_loc c (.ref 0 :: As)) [] t I L (m_RR e 28 48) Q = Q (some (.int v)) t I L (m_RR e 28 48)) (h2 : ∀ Q, WP V d 0 (m_loc d (.ref 27 :: Bs)) [] t I L (m_RR e 28 48) Q = Q (some (.int v)) t I L (m_RR e 28 48)) : same_v V t e I L c As d Bs := ⟨v, h1, h2⟩
theorem same_pair {V : m_V} {t N : Nat} {e : Option Nat} {I : m_I} {L : m_L} {c d : Nat} {As Bs : List Value} (hT : TP N e I L) (h : same_v V t e I L c As d Bs) : pair_ok V t e N I L c As d Bs := by
  obtain ⟨v, h1, h2⟩ := h
  exact pair_v hT h1 h2
section RZP
variable {V : m_V} {m n : Nat} {ls st : List Value} {t N M : Nat} {I I' : m_I} {R : m_R} {L L' : m_L} {e : Option Nat} {a b u x : Nat} {Q : Option Value → Nat → m_I → m_L → m_R → Prop}
theorem s_thread (hT : TP N e I L) (ht : 55 ≤ t) (v0 v : Int32) : same_v V t e I L 100 [.int v0, .int v] 182 [.int v0, .int v] := by
  obtain ⟨i1, i2⟩ := n_inx (m := 2) (by omega) v0
  obtain ⟨j1, j2⟩ := n_inx (m := 7) (by omega) v
  have eC : m_loc 100 (.ref 0 :: [.int v0, .int v]) = [.ref 0, .int v0, .int v, m_u] := rfl
  have eD : m_loc 182 (.ref 27 :: [.int v0, .int v]) = [.ref 27, .int v0, .int v, m_u] := rfl
  have hA := aa28
  cases hin : d_in v0 (nI 0) (nI 2)
  · rw [hin] at i1
    refine same_mk (v := (-101)) (fun Q => ?_) (fun Q => ?_)
    · rw [eC]
      simp (disch := first | assumption | omega | decide) only [nI_add, n_mul, n_sub, n_le, n_lt, n_eq, n_ne1, n_0, m_bl_t, m_bl_f, if_true, if_false, Nat.reduceAdd, Nat.reduceMul, Nat.reduceSub, Nat.reduceLeDiff, Nat.reduceEqDiff, Nat.add_zero, Nat.add_sub_cancel, Option.toList, List.cons_append, List.nil_append, i100_0, i100_1, i100_2, i100_3, i100_4, i100_5, c109, b_0, ← i1]
    · rw [eD]
      simp (disch := first | assumption | omega | decide) only [nI_add, n_mul, n_sub, n_le, n_lt, n_eq, n_ne1, n_0, m_bl_t, m_bl_f, if_true, if_false, Nat.reduceAdd, Nat.reduceMul, Nat.reduceSub, Nat.reduceLeDiff, Nat.reduceEqDiff, Nat.add_zero, Nat.add_sub_cancel, Option.toList, List.cons_append, List.nil_append, i182_0, i182_1, i182_2, i182_3, i182_4, c122, b_0, hin]
  · obtain ⟨u, hu, rfl⟩ := i2 hin
    have hu3 : u < 3 := by omega
    have hb : (decide (0 ≤ u) && decide (u < 3)) = true := by simp [hu3]
    obtain ⟨c, b, k, n, c1, b1, k1, hL, n3, h5, hNt, hO⟩ := XX_get hT.1.1
    obtain ⟨d, o, a1, a2, a3, a4, arest⟩ := hL.2.1 u hu3
    obtain ⟨o1, o2, o3, o4⟩ := hO.2 u hu3
    cases hv : d_in v (nI 0) (nI 7)
    · have ho := d_out hv (by omega)
      have hs := n_sh (v := v) (lo := 8) (m := 3) (by omega)
      cases hw : d_in v (nI 8) (nI 11)
      · have hs2 : (decide (nI 0 ≤ v - nI 8) && decide (v - nI 8 < nI 4)) = false := hs.trans hw
        refine same_mk (v := (-102)) (fun Q => ?_) (fun Q => ?_)
        · rw [eC]
          simp (disch := first | assumption | omega | decide) only [nI_add, n_mul, n_sub, n_le, n_lt, n_eq, n_ne1, n_0, m_bl_t, m_bl_f, if_true, if_false, Nat.reduceAdd, Nat.reduceMul, Nat.reduceSub, Nat.reduceLeDiff, Nat.reduceEqDiff, Nat.add_zero, Nat.add_sub_cancel, Option.toList, List.cons_append, List.nil_append, i100_0, i100_1, i100_2, i100_3, i100_6, i100_7, i100_8, i100_9, i100_10, rv_0_0, rv_13_0, rv_1_0, c109, b_0, hb, Bool.true_eq_false]
          rw [i100_11sd (by omega)]
          simp (disch := first | assumption | omega | decide) only [nI_add, n_mul, n_sub, n_le, n_lt, n_eq, n_ne1, n_0, m_bl_t, m_bl_f, if_true, if_false, Nat.reduceAdd, Nat.reduceMul, Nat.reduceSub, Nat.reduceLeDiff, Nat.reduceEqDiff, Nat.add_zero, Nat.add_sub_cancel, Option.toList, List.cons_append, List.nil_append, i100_60, i100_61, i100_62, i100_63, i100_64, i100_65, i100_78, i100_79, c109, b_0, hs2]
        · rw [eD]
          simp (disch := first | assumption | omega | decide) only [nI_add, n_mul, n_sub, n_le, n_lt, n_eq, n_ne1, n_0, m_bl_t, m_bl_f, if_true, if_false, Nat.reduceAdd, Nat.reduceMul, Nat.reduceSub, Nat.reduceLeDiff, Nat.reduceEqDiff, Nat.add_zero, Nat.add_sub_cancel, Option.toList, List.cons_append, List.nil_append, i182_0, i182_1, i182_2, i182_5, i182_6, i182_7, i182_8, c122, c113, b_0, hin, Bool.true_eq_false]
          rw [i182_9sd (by omega)]
          simp (disch := first | assumption | omega | decide) only [nI_add, n_mul, n_sub, n_le, n_lt, n_eq, n_ne1, n_0, m_bl_t, m_bl_f, if_true, if_false, Nat.reduceAdd, Nat.reduceMul, Nat.reduceSub, Nat.reduceLeDiff, Nat.reduceEqDiff, Nat.add_zero, Nat.add_sub_cancel, Option.toList, List.cons_append, List.nil_append, i182_76, i182_77, i182_78, i182_79, i182_80, i182_92, i182_93, c111, b_0, hw]
      · have hs2 : (decide (nI 0 ≤ v - nI 8) && decide (v - nI 8 < nI 4)) = true := hs.trans hw
        obtain ⟨r, hr, rfl⟩ := (d_ink (lo := 8) (m := 3) (by omega)).mp hw
        have e8 : nI (8 + r) - nI 8 = nI r := by rw [n_sub (by omega), Nat.add_sub_cancel_left]
        rw [e8] at hs2
        have hr4 : r < 4 := hr
        have hb4 : (decide (0 ≤ r) && decide (r < 4)) = true := by simp [hr4]
        have ea : 21 + 4 * u + (8 + r) - 8 = 21 + 4 * u + r := by omega
        have eb : 150 + 154 * u + 3 + (8 + r) - 8 = 150 + 154 * u + 3 + r := by omega
        have e80 : 8 + r - 8 = r := by omega
        refine same_mk (v := (I 2 (21 + 4 * u + r))) (fun Q => ?_) (fun Q => ?_)
        · rw [eC]
          simp (disch := first | assumption | omega | decide) only [nI_add, n_mul, n_sub, n_le, n_lt, n_eq, n_ne1, n_0, m_bl_t, m_bl_f, if_true, if_false, Nat.reduceAdd, Nat.reduceMul, Nat.reduceSub, Nat.reduceLeDiff, Nat.reduceEqDiff, Nat.add_zero, Nat.add_sub_cancel, Option.toList, List.cons_append, List.nil_append, i100_0, i100_1, i100_2, i100_3, i100_6, i100_7, i100_8, i100_9, i100_10, rv_0_0, rv_13_0, rv_1_0, c109, b_0, hb, Bool.true_eq_false]
          rw [i100_11sd (by omega)]
          simp (disch := first | assumption | omega | decide) only [nI_add, n_mul, n_sub, n_le, n_lt, n_eq, n_ne1, n_0, m_bl_t, m_bl_f, if_true, if_false, Nat.reduceAdd, Nat.reduceMul, Nat.reduceSub, Nat.reduceLeDiff, Nat.reduceEqDiff, Nat.add_zero, Nat.add_sub_cancel, Option.toList, List.cons_append, List.nil_append, i100_60, i100_61, i100_62, i100_63, i100_64, i100_65, i100_66, i100_67, i100_68, i100_69, i100_70, i100_71, i100_72, i100_73, i100_74, i100_75, i100_76, i100_77, i100_79, c109, b_0, e80, hb4, ea, Bool.true_eq_false]
        · rw [eD]
          simp (disch := first | assumption | omega | decide) only [nI_add, n_mul, n_sub, n_le, n_lt, n_eq, n_ne1, n_0, m_bl_t, m_bl_f, if_true, if_false, Nat.reduceAdd, Nat.reduceMul, Nat.reduceSub, Nat.reduceLeDiff, Nat.reduceEqDiff, Nat.add_zero, Nat.add_sub_cancel, Option.toList, List.cons_append, List.nil_append, i182_0, i182_1, i182_2, i182_5, i182_6, i182_7, i182_8, c122, c113, b_0, hin, Bool.true_eq_false]
          rw [i182_9sd (by omega)]
          simp (disch := first | assumption | omega | decide) only [nI_add, n_mul, n_sub, n_le, n_lt, n_eq, n_ne1, n_0, m_bl_t, m_bl_f, if_true, if_false, Nat.reduceAdd, Nat.reduceMul, Nat.reduceSub, Nat.reduceLeDiff, Nat.reduceEqDiff, Nat.add_zero, Nat.add_sub_cancel, Option.toList, List.cons_append, List.nil_append, i182_76, i182_77, i182_78, i182_79, i182_80, i182_81, i182_82, i182_83, i182_84, i182_85, i182_86, i182_87, i182_88, i182_89, i182_90, i182_91, i182_93, rv_27_0, c111, b_0, hw, Bool.true_eq_false, eb]
          rw [a2 r hr4]
    · obtain ⟨i, hi, rfl⟩ := j2 hv
      have hK : (if I 28 (150 + 154 * u + 101) = nI 1 then I 28 (150 + 154 * u + 102) else -1) = I 2 (15 + u) := by
        rcases a3 with ⟨q1, q2, q3⟩ | ⟨k, hk, q1, q2, q3⟩
        · rw [q2, if_neg (by decide), q1]
        · rw [if_pos q2, q3, q1]
      obtain rfl | rfl | rfl | rfl | rfl | rfl | rfl | rfl : i = 0 ∨ i = 1 ∨ i = 2 ∨ i = 3 ∨ i = 4 ∨ i = 5 ∨ i = 6 ∨ i = 7 := by omega
      · refine same_mk (v := (I 2 (3 + u))) (fun Q => ?_) (fun Q => ?_)
        · rw [eC]
          simp (disch := first | assumption | omega | decide) only [nI_add, n_mul, n_sub, n_le, n_lt, n_eq, n_ne1, n_0, m_bl_t, m_bl_f, if_true, if_false, Nat.reduceAdd, Nat.reduceMul, Nat.reduceSub, Nat.reduceLeDiff, Nat.reduceEqDiff, Nat.add_zero, Nat.add_sub_cancel, Option.toList, List.cons_append, List.nil_append, i100_0, i100_1, i100_2, i100_3, i100_6, i100_7, i100_8, i100_9, i100_10, rv_0_0, rv_13_0, rv_1_0, i100_11s0, i100_12, i100_13, i100_14, i100_15, i100_16, i100_17, c109, b_0, hb, Bool.true_eq_false]
        · rw [eD]
          simp (disch := first | assumption | omega | decide) only [nI_add, n_mul, n_sub, n_le, n_lt, n_eq, n_ne1, n_0, m_bl_t, m_bl_f, if_true, if_false, Nat.reduceAdd, Nat.reduceMul, Nat.reduceSub, Nat.reduceLeDiff, Nat.reduceEqDiff, Nat.add_zero, Nat.add_sub_cancel, Option.toList, List.cons_append, List.nil_append, i182_0, i182_1, i182_2, i182_5, i182_6, i182_7, i182_8, i182_9s0, i182_10, i182_11, i182_12, i182_13, i182_14, i182_15, i182_16, rv_27_0, c122, c113, b_0, hin, Bool.true_eq_false, ← a1.1]
      · refine same_mk (v := (I 2 (6 + u))) (fun Q => ?_) (fun Q => ?_)
        · rw [eC]
          simp (disch := first | assumption | omega | decide) only [nI_add, n_mul, n_sub, n_le, n_lt, n_eq, n_ne1, n_0, m_bl_t, m_bl_f, if_true, if_false, Nat.reduceAdd, Nat.reduceMul, Nat.reduceSub, Nat.reduceLeDiff, Nat.reduceEqDiff, Nat.add_zero, Nat.add_sub_cancel, Option.toList, List.cons_append, List.nil_append, i100_0, i100_1, i100_2, i100_3, i100_6, i100_7, i100_8, i100_9, i100_10, rv_0_0, rv_13_0, rv_1_0, i100_11s1, i100_18, i100_19, i100_20, i100_21, i100_22, i100_23, c109, b_0, hb, Bool.true_eq_false]
        · rw [eD]
          simp (disch := first | assumption | omega | decide) only [nI_add, n_mul, n_sub, n_le, n_lt, n_eq, n_ne1, n_0, m_bl_t, m_bl_f, if_true, if_false, Nat.reduceAdd, Nat.reduceMul, Nat.reduceSub, Nat.reduceLeDiff, Nat.reduceEqDiff, Nat.add_zero, Nat.add_sub_cancel, Option.toList, List.cons_append, List.nil_append, i182_0, i182_1, i182_2, i182_5, i182_6, i182_7, i182_8, i182_9s1, i182_17, i182_18, i182_19, i182_20, i182_21, i182_22, i182_23, rv_27_0, c122, c113, b_0, hin, Bool.true_eq_false, ← a1.2.1]
      · refine same_mk (v := (I 2 (9 + u))) (fun Q => ?_) (fun Q => ?_)
        · rw [eC]
          simp (disch := first | assumption | omega | decide) only [nI_add, n_mul, n_sub, n_le, n_lt, n_eq, n_ne1, n_0, m_bl_t, m_bl_f, if_true, if_false, Nat.reduceAdd, Nat.reduceMul, Nat.reduceSub, Nat.reduceLeDiff, Nat.reduceEqDiff, Nat.add_zero, Nat.add_sub_cancel, Option.toList, List.cons_append, List.nil_append, i100_0, i100_1, i100_2, i100_3, i100_6, i100_7, i100_8, i100_9, i100_10, rv_0_0, rv_13_0, rv_1_0, i100_11s2, i100_24, i100_25, i100_26, i100_27, i100_28, i100_29, c109, b_0, hb, Bool.true_eq_false]
        · rw [eD]
          simp (disch := first | assumption | omega | decide) only [nI_add, n_mul, n_sub, n_le, n_lt, n_eq, n_ne1, n_0, m_bl_t, m_bl_f, if_true, if_false, Nat.reduceAdd, Nat.reduceMul, Nat.reduceSub, Nat.reduceLeDiff, Nat.reduceEqDiff, Nat.add_zero, Nat.add_sub_cancel, Option.toList, List.cons_append, List.nil_append, i182_0, i182_1, i182_2, i182_5, i182_6, i182_7, i182_8, i182_9s2, i182_24, i182_25, i182_26, i182_27, i182_28, i182_29, i182_30, rv_27_0, c122, c113, b_0, hin, Bool.true_eq_false, ← a1.2.2.1]
      · refine same_mk (v := (I 2 (15 + u))) (fun Q => ?_) (fun Q => ?_)
        · rw [eC]
          simp (disch := first | assumption | omega | decide) only [nI_add, n_mul, n_sub, n_le, n_lt, n_eq, n_ne1, n_0, m_bl_t, m_bl_f, if_true, if_false, Nat.reduceAdd, Nat.reduceMul, Nat.reduceSub, Nat.reduceLeDiff, Nat.reduceEqDiff, Nat.add_zero, Nat.add_sub_cancel, Option.toList, List.cons_append, List.nil_append, i100_0, i100_1, i100_2, i100_3, i100_6, i100_7, i100_8, i100_9, i100_10, rv_0_0, rv_13_0, rv_1_0, i100_11s3, i100_30, i100_31, i100_32, i100_33, i100_34, i100_35, c109, b_0, hb, Bool.true_eq_false]
        · rw [eD, ← hK]
          by_cases hq : I 28 (150 + 154 * u + 101) = nI 1
          · rw [if_pos hq]
            simp (disch := first | assumption | omega | decide) only [nI_add, n_mul, n_sub, n_le, n_lt, n_eq, n_ne1, n_0, m_bl_t, m_bl_f, if_true, if_false, Nat.reduceAdd, Nat.reduceMul, Nat.reduceSub, Nat.reduceLeDiff, Nat.reduceEqDiff, Nat.add_zero, Nat.add_sub_cancel, Option.toList, List.cons_append, List.nil_append, i182_0, i182_1, i182_2, i182_5, i182_6, i182_7, i182_8, i182_9s3, i182_31, i182_32, i182_33, i182_34, i182_35, i182_36, i182_37, i182_38, i182_39, i182_40, i182_41, i182_42, i182_43, i182_44, i182_45, i182_47, rv_27_0, c122, c113, b_0, hin, Bool.true_eq_false, hq]
          · rw [if_neg hq]
            simp (disch := first | assumption | omega | decide) only [nI_add, n_mul, n_sub, n_le, n_lt, n_eq, n_ne1, n_0, m_bl_t, m_bl_f, if_true, if_false, Nat.reduceAdd, Nat.reduceMul, Nat.reduceSub, Nat.reduceLeDiff, Nat.reduceEqDiff, Nat.add_zero, Nat.add_sub_cancel, Option.toList, List.cons_append, List.nil_append, i182_0, i182_1, i182_2, i182_5, i182_6, i182_7, i182_8, i182_9s3, i182_31, i182_32, i182_33, i182_34, i182_35, i182_36, i182_37, i182_38, i182_46, i182_47, rv_27_0, c122, c113, b_0, hin, Bool.true_eq_false, hq]
      · refine same_mk (v := (I 2 (550 + u))) (fun Q => ?_) (fun Q => ?_)
        · rw [eC]
          simp (disch := first | assumption | omega | decide) only [nI_add, n_mul, n_sub, n_le, n_lt, n_eq, n_ne1, n_0, m_bl_t, m_bl_f, if_true, if_false, Nat.reduceAdd, Nat.reduceMul, Nat.reduceSub, Nat.reduceLeDiff, Nat.reduceEqDiff, Nat.add_zero, Nat.add_sub_cancel, Option.toList, List.cons_append, List.nil_append, i100_0, i100_1, i100_2, i100_3, i100_6, i100_7, i100_8, i100_9, i100_10, rv_0_0, rv_13_0, rv_1_0, i100_11s4, i100_36, i100_37, i100_38, i100_39, i100_40, i100_41, c109, b_0, hb, Bool.true_eq_false]
        · rw [eD]
          simp (disch := first | assumption | omega | decide) only [nI_add, n_mul, n_sub, n_le, n_lt, n_eq, n_ne1, n_0, m_bl_t, m_bl_f, if_true, if_false, Nat.reduceAdd, Nat.reduceMul, Nat.reduceSub, Nat.reduceLeDiff, Nat.reduceEqDiff, Nat.add_zero, Nat.add_sub_cancel, Option.toList, List.cons_append, List.nil_append, i182_0, i182_1, i182_2, i182_5, i182_6, i182_7, i182_8, i182_9s4, i182_48, i182_49, i182_50, i182_51, i182_52, i182_53, i182_54, rv_27_0, c122, c113, b_0, hin, Bool.true_eq_false, ← o1]
      · refine same_mk (v := (I 2 (553 + u))) (fun Q => ?_) (fun Q => ?_)
        · rw [eC]
          simp (disch := first | assumption | omega | decide) only [nI_add, n_mul, n_sub, n_le, n_lt, n_eq, n_ne1, n_0, m_bl_t, m_bl_f, if_true, if_false, Nat.reduceAdd, Nat.reduceMul, Nat.reduceSub, Nat.reduceLeDiff, Nat.reduceEqDiff, Nat.add_zero, Nat.add_sub_cancel, Option.toList, List.cons_append, List.nil_append, i100_0, i100_1, i100_2, i100_3, i100_6, i100_7, i100_8, i100_9, i100_10, rv_0_0, rv_13_0, rv_1_0, i100_11s5, i100_42, i100_43, i100_44, i100_45, i100_46, i100_47, c109, b_0, hb, Bool.true_eq_false]
        · rw [eD]
          simp (disch := first | assumption | omega | decide) only [nI_add, n_mul, n_sub, n_le, n_lt, n_eq, n_ne1, n_0, m_bl_t, m_bl_f, if_true, if_false, Nat.reduceAdd, Nat.reduceMul, Nat.reduceSub, Nat.reduceLeDiff, Nat.reduceEqDiff, Nat.add_zero, Nat.add_sub_cancel, Option.toList, List.cons_append, List.nil_append, i182_0, i182_1, i182_2, i182_5, i182_6, i182_7, i182_8, i182_9s5, i182_55, i182_56, i182_57, i182_58, i182_59, i182_60, i182_61, rv_27_0, c122, c113, b_0, hin, Bool.true_eq_false, ← o2]
      · refine same_mk (v := (I 2 (556 + u))) (fun Q => ?_) (fun Q => ?_)
        · rw [eC]
          simp (disch := first | assumption | omega | decide) only [nI_add, n_mul, n_sub, n_le, n_lt, n_eq, n_ne1, n_0, m_bl_t, m_bl_f, if_true, if_false, Nat.reduceAdd, Nat.reduceMul, Nat.reduceSub, Nat.reduceLeDiff, Nat.reduceEqDiff, Nat.add_zero, Nat.add_sub_cancel, Option.toList, List.cons_append, List.nil_append, i100_0, i100_1, i100_2, i100_3, i100_6, i100_7, i100_8, i100_9, i100_10, rv_0_0, rv_13_0, rv_1_0, i100_11s6, i100_48, i100_49, i100_50, i100_51, i100_52, i100_53, c109, b_0, hb, Bool.true_eq_false]
        · rw [eD]
          simp (disch := first | assumption | omega | decide) only [nI_add, n_mul, n_sub, n_le, n_lt, n_eq, n_ne1, n_0, m_bl_t, m_bl_f, if_true, if_false, Nat.reduceAdd, Nat.reduceMul, Nat.reduceSub, Nat.reduceLeDiff, Nat.reduceEqDiff, Nat.add_zero, Nat.add_sub_cancel, Option.toList, List.cons_append, List.nil_append, i182_0, i182_1, i182_2, i182_5, i182_6, i182_7, i182_8, i182_9s6, i182_62, i182_63, i182_64, i182_65, i182_66, i182_67, i182_68, rv_27_0, c122, c113, b_0, hin, Bool.true_eq_false, ← o3]
      · refine same_mk (v := (I 2 (12 + u))) (fun Q => ?_) (fun Q => ?_)
        · rw [eC]
          simp (disch := first | assumption | omega | decide) only [nI_add, n_mul, n_sub, n_le, n_lt, n_eq, n_ne1, n_0, m_bl_t, m_bl_f, if_true, if_false, Nat.reduceAdd, Nat.reduceMul, Nat.reduceSub, Nat.reduceLeDiff, Nat.reduceEqDiff, Nat.add_zero, Nat.add_sub_cancel, Option.toList, List.cons_append, List.nil_append, i100_0, i100_1, i100_2, i100_3, i100_6, i100_7, i100_8, i100_9, i100_10, rv_0_0, rv_13_0, rv_1_0, i100_11s7, i100_54, i100_55, i100_56, i100_57, i100_58, i100_59, c109, b_0, hb, Bool.true_eq_false]
        · rw [eD]
          simp (disch := first | assumption | omega | decide) only [nI_add, n_mul, n_sub, n_le, n_lt, n_eq, n_ne1, n_0, m_bl_t, m_bl_f, if_true, if_false, Nat.reduceAdd, Nat.reduceMul, Nat.reduceSub, Nat.reduceLeDiff, Nat.reduceEqDiff, Nat.add_zero, Nat.add_sub_cancel, Option.toList, List.cons_append, List.nil_append, i182_0, i182_1, i182_2, i182_5, i182_6, i182_7, i182_8, i182_9s7, i182_69, i182_70, i182_71, i182_72, i182_73, i182_74, i182_75, rv_27_0, c122, c113, b_0, hin, Bool.true_eq_false, a4.1, a4.2.1]
theorem p_thread (hT : TP N e I L) (ht : 55 ≤ t) (v0 v : Int32) : pair_ok V t e N I L 100 [.int v0, .int v] 182 [.int v0, .int v] := same_pair hT (s_thread hT ht v0 v)
end RZP
