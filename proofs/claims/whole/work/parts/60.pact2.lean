/-! act and wipe: alike, whole -/
section RZF
variable {V : m_V} {m n : Nat} {ls st : List Value} {t N M : Nat} {I I' : m_I} {R : m_R} {L L' : m_L} {e : Option Nat} {Q : Option Value → Nat → m_I → m_L → m_R → Prop}
def m_ac5 (I : m_I) (cc s : Nat) (v v1 v2 v3 : Int32) : m_I := m_sc (m_sc I 5 (m_sc (I 5) cc (nI (s + 1)))) 4 (m_sc (m_sc (m_sc (m_sc (I 4) ((cc * 40 + s) * 4) v) ((cc * 40 + s) * 4 + 1) v1) ((cc * 40 + s) * 4 + 2) v2) ((cc * 40 + s) * 4 + 3) v3)
def m_ad5 (I : m_I) (cc s : Nat) (v v1 v2 v3 : Int32) : m_I := m_sc (m_sc (m_sc (m_sc (m_sc (m_ac5 I cc s v v1 v2 v3) 30 (m_sc (I 30) (40 * cc + s) v)) 31 (m_sc (I 31) (40 * cc + s) v1)) 32 (m_sc (I 32) (40 * cc + s) v2)) 33 (m_sc (I 33) (40 * cc + s) v3)) 29 (m_sc (I 29) cc (nI (s + 1)))
theorem m_ad5_o {cc s k : Nat} {v v1 v2 v3 : Int32} (h : k ≠ 4 ∧ k ≠ 5 ∧ (k < 29 ∨ 33 < k)) : m_ad5 I cc s v v1 v2 v3 k = I k := by
  unfold m_ad5 m_ac5
  rw [m_sc_ne (by omega), m_sc_ne (by omega), m_sc_ne (by omega), m_sc_ne (by omega), m_sc_ne (by omega), m_sc_ne (by omega), m_sc_ne (by omega)]
theorem cd_ad5 {cc s kk : Nat} {v1 v2 v3 : Int32} (hcd : rl_cd I) (hcc : cc < 6) (hs : I 5 cc = nI s) (hs2 : s < 40) (hkk : kk < 22) (hfit : c_fit kk v1 v2 v3 = true) : rl_cd (m_ad5 I cc s (nI kk) v1 v2 v3) := by
  have e4 : m_ad5 I cc s (nI kk) v1 v2 v3 4 = m_sc (m_sc (m_sc (m_sc (I 4) ((cc * 40 + s) * 4) (nI kk)) ((cc * 40 + s) * 4 + 1) v1) ((cc * 40 + s) * 4 + 2) v2) ((cc * 40 + s) * 4 + 3) v3 := by
    unfold m_ad5 m_ac5
    rw [m_sc_ne (by omega), m_sc_ne (by omega), m_sc_ne (by omega), m_sc_ne (by omega), m_sc_ne (by omega), m_sc_self]
  have e5 : m_ad5 I cc s (nI kk) v1 v2 v3 5 = m_sc (I 5) cc (nI (s + 1)) := by
    unfold m_ad5 m_ac5
    rw [m_sc_ne (by omega), m_sc_ne (by omega), m_sc_ne (by omega), m_sc_ne (by omega), m_sc_ne (by omega), m_sc_ne (by omega), m_sc_self]
  have e29 : m_ad5 I cc s (nI kk) v1 v2 v3 29 = m_sc (I 29) cc (nI (s + 1)) := m_sc_self
  have e30 : m_ad5 I cc s (nI kk) v1 v2 v3 30 = m_sc (I 30) (40 * cc + s) (nI kk) := by
    unfold m_ad5
    rw [m_sc_ne (by omega), m_sc_ne (by omega), m_sc_ne (by omega), m_sc_ne (by omega), m_sc_self]
  have e31 : m_ad5 I cc s (nI kk) v1 v2 v3 31 = m_sc (I 31) (40 * cc + s) v1 := by
    unfold m_ad5
    rw [m_sc_ne (by omega), m_sc_ne (by omega), m_sc_ne (by omega), m_sc_self]
  have e32 : m_ad5 I cc s (nI kk) v1 v2 v3 32 = m_sc (I 32) (40 * cc + s) v2 := by
    unfold m_ad5
    rw [m_sc_ne (by omega), m_sc_ne (by omega), m_sc_self]
  have e33 : m_ad5 I cc s (nI kk) v1 v2 v3 33 = m_sc (I 33) (40 * cc + s) v3 := by
    unfold m_ad5
    rw [m_sc_ne (by omega), m_sc_self]
  intro c2 hc2
  obtain ⟨s2, a1, a2, a3, a4⟩ := hcd c2 hc2
  rw [e4, e5, e29, e30, e31, e32, e33]
  have old : ∀ p, p < s2 → (c2 = cc → p < s) → (m_sc (m_sc (m_sc (m_sc (I 4) ((cc * 40 + s) * 4) (nI kk)) ((cc * 40 + s) * 4 + 1) v1) ((cc * 40 + s) * 4 + 2) v2) ((cc * 40 + s) * 4 + 3) v3) ((c2 * 40 + p) * 4) = I 4 ((c2 * 40 + p) * 4) ∧ (m_sc (m_sc (m_sc (m_sc (I 4) ((cc * 40 + s) * 4) (nI kk)) ((cc * 40 + s) * 4 + 1) v1) ((cc * 40 + s) * 4 + 2) v2) ((cc * 40 + s) * 4 + 3) v3) ((c2 * 40 + p) * 4 + 1) = I 4 ((c2 * 40 + p) * 4 + 1) ∧ (m_sc (m_sc (m_sc (m_sc (I 4) ((cc * 40 + s) * 4) (nI kk)) ((cc * 40 + s) * 4 + 1) v1) ((cc * 40 + s) * 4 + 2) v2) ((cc * 40 + s) * 4 + 3) v3) ((c2 * 40 + p) * 4 + 2) = I 4 ((c2 * 40 + p) * 4 + 2) ∧ (m_sc (m_sc (m_sc (m_sc (I 4) ((cc * 40 + s) * 4) (nI kk)) ((cc * 40 + s) * 4 + 1) v1) ((cc * 40 + s) * 4 + 2) v2) ((cc * 40 + s) * 4 + 3) v3) ((c2 * 40 + p) * 4 + 3) = I 4 ((c2 * 40 + p) * 4 + 3) ∧ 40 * c2 + p ≠ 40 * cc + s := by
    intro p hp hq
    have hne : 40 * c2 + p ≠ 40 * cc + s := by omega
    refine ⟨?_, ?_, ?_, ?_, hne⟩
    all_goals rw [m_sc_ne (by omega), m_sc_ne (by omega), m_sc_ne (by omega), m_sc_ne (by omega)]
  by_cases hcc2 : c2 = cc
  · subst hcc2
    obtain rfl : s2 = s := by
      rw [a2, n_eq (by omega) (by omega)] at hs
      exact hs
    refine ⟨s2 + 1, by omega, m_sc_self, m_sc_self, fun p hp => ?_⟩
    by_cases hps : p = s2
    · subst hps
      have g0 : (m_sc (m_sc (m_sc (m_sc (I 4) ((c2 * 40 + p) * 4) (nI kk)) ((c2 * 40 + p) * 4 + 1) v1) ((c2 * 40 + p) * 4 + 2) v2) ((c2 * 40 + p) * 4 + 3) v3) ((c2 * 40 + p) * 4) = nI kk := by rw [m_sc_ne (by omega), m_sc_ne (by omega), m_sc_ne (by omega), m_sc_self]
      have g1 : (m_sc (m_sc (m_sc (m_sc (I 4) ((c2 * 40 + p) * 4) (nI kk)) ((c2 * 40 + p) * 4 + 1) v1) ((c2 * 40 + p) * 4 + 2) v2) ((c2 * 40 + p) * 4 + 3) v3) ((c2 * 40 + p) * 4 + 1) = v1 := by rw [m_sc_ne (by omega), m_sc_ne (by omega), m_sc_self]
      have g2 : (m_sc (m_sc (m_sc (m_sc (I 4) ((c2 * 40 + p) * 4) (nI kk)) ((c2 * 40 + p) * 4 + 1) v1) ((c2 * 40 + p) * 4 + 2) v2) ((c2 * 40 + p) * 4 + 3) v3) ((c2 * 40 + p) * 4 + 2) = v2 := by rw [m_sc_ne (by omega), m_sc_self]
      have g3 : (m_sc (m_sc (m_sc (m_sc (I 4) ((c2 * 40 + p) * 4) (nI kk)) ((c2 * 40 + p) * 4 + 1) v1) ((c2 * 40 + p) * 4 + 2) v2) ((c2 * 40 + p) * 4 + 3) v3) ((c2 * 40 + p) * 4 + 3) = v3 := m_sc_self
      unfold c_act
      rw [g0, g1, g2, g3]
      unfold c_fit at hfit
      rw [Bool.and_eq_true, Bool.and_eq_true] at hfit
      refine ⟨⟨m_sc_self.symm, m_sc_self.symm, m_sc_self.symm, m_sc_self.symm⟩, kk, v1.toNatClampNeg, v2.toNatClampNeg, v3.toNatClampNeg, by omega, rfl, rfl, fun q => ?_, fun q => ?_, fun q => ?_⟩
      · exact c_isb_t hfit.1 q (m_Bl_lt (by omega))
      · exact c_isb_t hfit.2.1 q (m_Bl_lt (by omega))
      · exact c_isb_t hfit.2.2 q (m_Bl_lt (by omega))
    · obtain ⟨o0, o1, o2, o3, o4⟩ := old p (by omega) (fun _ => by omega)
      unfold c_act
      rw [o0, o1, o2, o3, m_sc_ne o4, m_sc_ne o4, m_sc_ne o4, m_sc_ne o4]
      exact a4 p (by omega)
  · refine ⟨s2, a1, by rw [m_sc_ne hcc2]; exact a2, by rw [m_sc_ne hcc2]; exact a3, fun p hp => ?_⟩
    obtain ⟨o0, o1, o2, o3, o4⟩ := old p hp (fun q => absurd q hcc2)
    unfold c_act
    rw [o0, o1, o2, o3, m_sc_ne o4, m_sc_ne o4, m_sc_ne o4, m_sc_ne o4]
    exact a4 p hp
theorem p_act (hT : TP N e I L) (hV : tab_ok V) (ht : 55 ≤ t) (v0 v v1 v2 v3 : Int32) : pair_ok V t e N I L 86 [.int v0, .int v, .int v1, .int v2, .int v3] 125 [.int v0, .int v, .int v1, .int v2, .int v3] := by
  obtain ⟨i1, i2⟩ := n_inx (m := 5) (by omega) v0
  obtain ⟨j1, j2⟩ := n_inx (m := 21) (by omega) v
  have eC : m_loc 86 (.ref 0 :: [.int v0, .int v, .int v1, .int v2, .int v3]) = [.ref 0, .int v0, .int v, .int v1, .int v2, .int v3] := rfl
  have eD : m_loc 125 (.ref 27 :: [.int v0, .int v, .int v1, .int v2, .int v3]) = [.ref 27, .int v0, .int v, .int v1, .int v2, .int v3, m_u] := rfl
  have hA := aa28
  cases hin : d_in v0 (nI 0) (nI 5)
  · rw [hin] at i1
    refine pair_v (v := .int (-101)) hT (fun Q => ?_) (fun Q => ?_)
    · rw [eC]
      simp (disch := first | assumption | omega | decide) only [nI_add, n_mul, n_sub, n_le, n_lt, n_eq, n_ne1, n_0, m_bl_t, m_bl_f, if_true, if_false, Nat.reduceAdd, Nat.reduceMul, Nat.reduceSub, Nat.reduceLeDiff, Nat.reduceEqDiff, Nat.add_zero, Nat.add_sub_cancel, Option.toList, List.cons_append, List.nil_append, i86_0, i86_1, i86_2, i86_3, i86_4, i86_5, c109, b_0, ← i1]
    · rw [eD]
      simp (disch := first | assumption | omega | decide) only [nI_add, n_mul, n_sub, n_le, n_lt, n_eq, n_ne1, n_0, m_bl_t, m_bl_f, if_true, if_false, Nat.reduceAdd, Nat.reduceMul, Nat.reduceSub, Nat.reduceLeDiff, Nat.reduceEqDiff, Nat.add_zero, Nat.add_sub_cancel, Option.toList, List.cons_append, List.nil_append, i125_0, i125_1, i125_2, i125_3, i125_4, i125_5, i125_6, c111, b_0, hin]
  · rw [hin] at i1
    obtain ⟨cc, hcc, rfl⟩ := i2 hin
    have hcc6 : cc < 6 := by omega
    have hb : (decide (0 ≤ cc) && decide (cc < 6)) = true := by simp [hcc6]
    cases hkin : d_in v (nI 0) (nI 21)
    · refine pair_v (v := .int (-102)) hT (fun Q => ?_) (fun Q => ?_)
      · rw [eC]
        simp (disch := first | assumption | omega | decide) only [nI_add, n_mul, n_sub, n_le, n_lt, n_eq, n_ne1, n_0, m_bl_t, m_bl_f, if_true, if_false, Nat.reduceAdd, Nat.reduceMul, Nat.reduceSub, Nat.reduceLeDiff, Nat.reduceEqDiff, Nat.add_zero, Nat.add_sub_cancel, Option.toList, List.cons_append, List.nil_append, i86_0, i86_1, i86_2, i86_3, i86_6, i86_7, i86_8, i86_9, i86_10, i86_11, i86_12, i86_13, c109, b_0, hb, Bool.true_eq_false, c1o hkin]
      · rw [eD]
        simp (disch := first | assumption | omega | decide) only [nI_add, n_mul, n_sub, n_le, n_lt, n_eq, n_ne1, n_0, m_bl_t, m_bl_f, if_true, if_false, Nat.reduceAdd, Nat.reduceMul, Nat.reduceSub, Nat.reduceLeDiff, Nat.reduceEqDiff, Nat.add_zero, Nat.add_sub_cancel, Option.toList, List.cons_append, List.nil_append, i125_0, i125_1, i125_2, i125_3, i125_4, i125_7, i125_8, i125_9, i125_10, i125_11, i125_12, i125_13, i125_14, c111, b_0, hin, Bool.true_eq_false, c124o hkin]
    · obtain ⟨kk, hkk, rfl⟩ := j2 hkin
      have hkk22 : kk < 22 := by omega
      cases hfit : c_fit kk v1 v2 v3
      · refine pair_v (v := .int (-102)) hT (fun Q => ?_) (fun Q => ?_)
        · rw [eC]
          simp (disch := first | assumption | omega | decide) only [nI_add, n_mul, n_sub, n_le, n_lt, n_eq, n_ne1, n_0, m_bl_t, m_bl_f, if_true, if_false, Nat.reduceAdd, Nat.reduceMul, Nat.reduceSub, Nat.reduceLeDiff, Nat.reduceEqDiff, Nat.add_zero, Nat.add_sub_cancel, Option.toList, List.cons_append, List.nil_append, i86_0, i86_1, i86_2, i86_3, i86_6, i86_7, i86_8, i86_9, i86_10, i86_11, i86_12, i86_13, c109, b_0, hb, Bool.true_eq_false, c1 hV hkk22, hfit]
        · rw [eD]
          simp (disch := first | assumption | omega | decide) only [nI_add, n_mul, n_sub, n_le, n_lt, n_eq, n_ne1, n_0, m_bl_t, m_bl_f, if_true, if_false, Nat.reduceAdd, Nat.reduceMul, Nat.reduceSub, Nat.reduceLeDiff, Nat.reduceEqDiff, Nat.add_zero, Nat.add_sub_cancel, Option.toList, List.cons_append, List.nil_append, i125_0, i125_1, i125_2, i125_3, i125_4, i125_7, i125_8, i125_9, i125_10, i125_11, i125_12, i125_13, i125_14, c111, b_0, hin, Bool.true_eq_false, c124 hkk22, hfit]
      · have hfr := rl_frs hT.1
        cases hd : d_fr (I 28)
        · rw [hd] at hfr
          refine pair_v (v := .int (-103)) hT (fun Q => ?_) (fun Q => ?_)
          · rw [eC]
            simp (disch := first | assumption | omega | decide) only [nI_add, n_mul, n_sub, n_le, n_lt, n_eq, n_ne1, n_0, m_bl_t, m_bl_f, if_true, if_false, Nat.reduceAdd, Nat.reduceMul, Nat.reduceSub, Nat.reduceLeDiff, Nat.reduceEqDiff, Nat.add_zero, Nat.add_sub_cancel, Option.toList, List.cons_append, List.nil_append, i86_0, i86_1, i86_2, i86_3, i86_6, i86_7, i86_8, i86_9, i86_10, i86_11, i86_14, i86_15, i86_16, i86_17, rv_0_0, c109, b_0, hb, Bool.true_eq_false, c1 hV hkk22, hfit, c49, hfr, Bool.not_false]
            simp (disch := first | assumption | omega | decide) only [nI_add, n_mul, n_sub, n_le, n_lt, n_eq, n_ne1, n_0, m_bl_t, m_bl_f, if_true, if_false, Nat.reduceAdd, Nat.reduceMul, Nat.reduceSub, Nat.reduceLeDiff, Nat.reduceEqDiff, Nat.add_zero, Nat.add_sub_cancel, Option.toList, List.cons_append, List.nil_append, i86_18, i86_19]
          · rw [eD]
            simp (disch := first | assumption | omega | decide) only [nI_add, n_mul, n_sub, n_le, n_lt, n_eq, n_ne1, n_0, m_bl_t, m_bl_f, if_true, if_false, Nat.reduceAdd, Nat.reduceMul, Nat.reduceSub, Nat.reduceLeDiff, Nat.reduceEqDiff, Nat.add_zero, Nat.add_sub_cancel, Option.toList, List.cons_append, List.nil_append, i125_0, i125_1, i125_2, i125_3, i125_4, i125_7, i125_8, i125_9, i125_10, i125_11, i125_12, i125_15, i125_16, i125_17, c111, b_0, hin, Bool.true_eq_false, c124 hkk22, hfit, c119, hd]
            simp (disch := first | assumption | omega | decide) only [nI_add, n_mul, n_sub, n_le, n_lt, n_eq, n_ne1, n_0, m_bl_t, m_bl_f, if_true, if_false, Nat.reduceAdd, Nat.reduceMul, Nat.reduceSub, Nat.reduceLeDiff, Nat.reduceEqDiff, Nat.add_zero, Nat.add_sub_cancel, Option.toList, List.cons_append, List.nil_append, i125_18, i125_19]
        · rw [hd] at hfr
          obtain ⟨s, s1, s2, s3, s4⟩ := hT.1.2.2.1 cc hcc6
          by_cases h40 : s = 40
          · subst h40
            have h4n : ¬ 40 < 40 := by decide
            refine pair_v (v := .int (-104)) hT (fun Q => ?_) (fun Q => ?_)
            · rw [eC]
              simp (disch := first | assumption | omega | decide) only [nI_add, n_mul, n_sub, n_le, n_lt, n_eq, n_ne1, n_0, m_bl_t, m_bl_f, if_true, if_false, Nat.reduceAdd, Nat.reduceMul, Nat.reduceSub, Nat.reduceLeDiff, Nat.reduceEqDiff, Nat.add_zero, Nat.add_sub_cancel, Option.toList, List.cons_append, List.nil_append, i86_0, i86_1, i86_2, i86_3, i86_6, i86_7, i86_8, i86_9, i86_10, i86_11, i86_14, i86_15, i86_16, i86_17, rv_0_0, c109, b_0, hb, Bool.true_eq_false, c1 hV hkk22, hfit, c49, hfr, Bool.not_true]
              simp (disch := first | assumption | omega | decide) only [nI_add, n_mul, n_sub, n_le, n_lt, n_eq, n_ne1, n_0, m_bl_t, m_bl_f, if_true, if_false, Nat.reduceAdd, Nat.reduceMul, Nat.reduceSub, Nat.reduceLeDiff, Nat.reduceEqDiff, Nat.add_zero, Nat.add_sub_cancel, Option.toList, List.cons_append, List.nil_append, i86_20, i86_21, i86_22, i86_23, i86_24, i86_25, i86_26, i86_27, i86_28, i86_29, rv_0_0, rv_13_1, rv_15_1, rv_1_1, rv_3_1, s2, h4n]
            · rw [eD]
              simp (disch := first | assumption | omega | decide) only [nI_add, n_mul, n_sub, n_le, n_lt, n_eq, n_ne1, n_0, m_bl_t, m_bl_f, if_true, if_false, Nat.reduceAdd, Nat.reduceMul, Nat.reduceSub, Nat.reduceLeDiff, Nat.reduceEqDiff, Nat.add_zero, Nat.add_sub_cancel, Option.toList, List.cons_append, List.nil_append, i125_0, i125_1, i125_2, i125_3, i125_4, i125_7, i125_8, i125_9, i125_10, i125_11, i125_12, i125_15, i125_16, i125_17, c111, b_0, hin, Bool.true_eq_false, c124 hkk22, hfit, c119, hd]
              simp (disch := first | assumption | omega | decide) only [nI_add, n_mul, n_sub, n_le, n_lt, n_eq, n_ne1, n_0, m_bl_t, m_bl_f, if_true, if_false, Nat.reduceAdd, Nat.reduceMul, Nat.reduceSub, Nat.reduceLeDiff, Nat.reduceEqDiff, Nat.add_zero, Nat.add_sub_cancel, Option.toList, List.cons_append, List.nil_append, i125_20, i125_21, i125_22, i125_23, i125_24, i125_25, i125_26, i125_27, rv_27_6, s3]
          · have h40' : s < 40 := by omega
            have hp : 40 * cc + s < 240 := by omega
            refine ⟨.int (nI s), m_ac5 I cc s (nI kk) v1 v2 v3, L, m_ad5 I cc s (nI kk) v1 v2 v3, L, fun Q => ?_, fun Q => ?_, ?_⟩
            · rw [eC]
              simp (disch := first | assumption | omega | decide) only [nI_add, n_mul, n_sub, n_le, n_lt, n_eq, n_ne1, n_0, m_bl_t, m_bl_f, if_true, if_false, Nat.reduceAdd, Nat.reduceMul, Nat.reduceSub, Nat.reduceLeDiff, Nat.reduceEqDiff, Nat.add_zero, Nat.add_sub_cancel, Option.toList, List.cons_append, List.nil_append, i86_0, i86_1, i86_2, i86_3, i86_6, i86_7, i86_8, i86_9, i86_10, i86_11, i86_14, i86_15, i86_16, i86_17, rv_0_0, c109, b_0, hb, Bool.true_eq_false, c1 hV hkk22, hfit, c49, hfr, Bool.not_true]
              simp (disch := first | assumption | omega | decide) only [nI_add, n_mul, n_sub, n_le, n_lt, n_eq, n_ne1, n_0, m_bl_t, m_bl_f, if_true, if_false, Nat.reduceAdd, Nat.reduceMul, Nat.reduceSub, Nat.reduceLeDiff, Nat.reduceEqDiff, Nat.add_zero, Nat.add_sub_cancel, Option.toList, List.cons_append, List.nil_append, i86_20, i86_21, i86_22, i86_23, i86_24, i86_25, i86_26, i86_27, i86_28, i86_29, i86_30, i86_31, i86_32, i86_33, i86_34, i86_35, i86_36, i86_37, i86_38, i86_39, rv_0_0, rv_13_1, rv_15_1, rv_1_1, rv_3_1, s2, h40', c4 ht hcc6 s2 h40']
              rfl
            · rw [eD]
              have e28 : m_ac5 I cc s (nI kk) v1 v2 v3 28 = I 28 := by unfold m_ac5; rw [m_sc_ne (by omega), m_sc_ne (by omega)]
              have e29 : m_ac5 I cc s (nI kk) v1 v2 v3 29 = I 29 := by unfold m_ac5; rw [m_sc_ne (by omega), m_sc_ne (by omega)]
              have e30 : m_ac5 I cc s (nI kk) v1 v2 v3 30 = I 30 := by unfold m_ac5; rw [m_sc_ne (by omega), m_sc_ne (by omega)]
              have e31 : m_ac5 I cc s (nI kk) v1 v2 v3 31 = I 31 := by unfold m_ac5; rw [m_sc_ne (by omega), m_sc_ne (by omega)]
              have e32 : m_ac5 I cc s (nI kk) v1 v2 v3 32 = I 32 := by unfold m_ac5; rw [m_sc_ne (by omega), m_sc_ne (by omega)]
              have e33 : m_ac5 I cc s (nI kk) v1 v2 v3 33 = I 33 := by unfold m_ac5; rw [m_sc_ne (by omega), m_sc_ne (by omega)]
              have e1 : nI (s + 1) - nI 1 = nI s := by rw [n_sub (by omega), Nat.add_sub_cancel]
              simp (disch := first | assumption | omega | decide) only [nI_add, n_mul, n_sub, n_le, n_lt, n_eq, n_ne1, n_0, m_bl_t, m_bl_f, if_true, if_false, Nat.reduceAdd, Nat.reduceMul, Nat.reduceSub, Nat.reduceLeDiff, Nat.reduceEqDiff, Nat.add_zero, Nat.add_sub_cancel, Option.toList, List.cons_append, List.nil_append, i125_0, i125_1, i125_2, i125_3, i125_4, i125_7, i125_8, i125_9, i125_10, i125_11, i125_12, i125_15, i125_16, i125_17, c111, b_0, hin, Bool.true_eq_false, c124 hkk22, hfit, c119, hd, e28]
              simp (disch := first | assumption | omega | decide) only [nI_add, n_mul, n_sub, n_le, n_lt, n_eq, n_ne1, n_0, m_bl_t, m_bl_f, if_true, if_false, Nat.reduceAdd, Nat.reduceMul, Nat.reduceSub, Nat.reduceLeDiff, Nat.reduceEqDiff, Nat.add_zero, Nat.add_sub_cancel, Option.toList, List.cons_append, List.nil_append, i125_20, i125_21, i125_22, i125_23, i125_24, i125_25, i125_26, i125_27, i125_28, i125_29, i125_30, i125_31, i125_32, i125_33, i125_34, i125_35, i125_36, i125_37, i125_38, i125_39, i125_40, i125_41, i125_42, i125_43, i125_44, i125_45, i125_46, i125_47, i125_48, i125_49, i125_50, i125_51, i125_52, i125_53, i125_54, i125_55, i125_56, i125_57, i125_58, i125_59, i125_60, i125_61, i125_62, i125_63, i125_64, i125_65, i125_66, i125_67, i125_68, i125_69, i125_70, i125_71, rv_27_10, rv_27_6, rv_27_7, rv_27_8, rv_27_9, e29, e30, e31, e32, e33, s3, h40, m_sc_ne, m_sc_self, e1]
              rfl
            · have O : ∀ k, (k ≠ 4 ∧ k ≠ 5 ∧ (k < 29 ∨ 33 < k)) → m_ad5 I cc s (nI kk) v1 v2 v3 k = I k := fun k hk => m_ad5_o hk
              refine TP_of hT ⟨rl_XX_le (XX_cell hT.1 (O _ (by omega)) (O _ (by omega)) (O _ (by omega)) (O _ (by omega)) (O _ (by omega)) (O _ (by omega)) (O _ (by omega)) (O _ (by omega)) (O _ (by omega))) (Nat.le_add_right _ _), ro_cell hT.1.2.1 (O _ (by omega)) (O _ (by omega)) (O _ (by omega)) (O _ (by omega)) (O _ (by omega)) rfl rfl, cd_ad5 hT.1.2.2.1 hcc6 s2 h40' hkk22 hfit, fs_cell hT.1.2.2.2 (O _ (by omega)) (O _ (by omega)) (O _ (by omega))⟩ (O _ (by omega)) (fun j hj => by rw [O _ (by omega)]) (O _ (by omega)) (O _ (by omega)) (O _ (by omega)) (fun k hk => O _ (by unfold cellK at hk; omega)) rfl rfl (Nat.le_add_right _ _)
end RZF
