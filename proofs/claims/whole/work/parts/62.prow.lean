/-! row: alike -/
section RZH
variable {V : m_V} {m n : Nat} {ls st : List Value} {t N M : Nat} {I I' : m_I} {R : m_R} {L L' : m_L} {e : Option Nat} {Q : Option Value → Nat → m_I → m_L → m_R → Prop}
theorem sc_id {α : Type} {f : Nat → α} {k : Nat} : m_sc f k (f k) = f := by
  funext j
  by_cases h : j = k
  · subst h; exact m_sc_self
  · exact m_sc_ne h
def l_z (s : Nat) : Nat → (Nat → Int64) → Nat → Int64
  | 0, q => q
  | x + 1, q => m_sc (l_z s x q) (s + x) (lN 0)
theorem l_z_at {s x j : Nat} {q : Nat → Int64} : l_z s x q j = if s ≤ j ∧ j < s + x then lN 0 else q j := by
  induction x with
  | zero => rw [if_neg (by omega)]; rfl
  | succ x ih =>
    show m_sc (l_z s x q) (s + x) (lN 0) j = _
    by_cases h : j = s + x
    · subst h; rw [m_sc_self, if_pos (by omega)]
    · rw [m_sc_ne h, ih]
      by_cases h2 : s ≤ j ∧ j < s + x
      · rw [if_pos h2, if_pos (by omega)]
      · rw [if_neg h2, if_neg (by omega)]
theorem w195_7 {k s : Nat} (hk : m_ar k 4 96 = true) (h1 : k < t) (hs : s + 16 ≤ 96) : ∀ c x, x + c = 16 → WP V 195 7 [.ref k, .int (nI s), .int (nI (s + 16)), .long (lN 0), m_u, .int (nI (s + x))] [] t I (m_sc L k (l_z s x (L k))) R Q = Q none t I (m_sc L k (l_z s 16 (L k))) R := by
  intro c
  induction c with
  | zero =>
    intro x hx
    obtain rfl : x = 16 := by omega
    have hh : s + 16 ≤ s + 16 := Nat.le_refl _
    rw [i195_7]
    simp (disch := first | assumption | omega | decide) only [nI_add, n_mul, n_sub, n_le, n_lt, n_eq, n_ne1, n_0, m_bl_t, m_bl_f, if_true, if_false, Nat.reduceAdd, Nat.reduceMul, Nat.reduceSub, Nat.reduceLeDiff, Nat.reduceEqDiff, Nat.add_zero, Nat.add_sub_cancel, Option.toList, List.cons_append, List.nil_append, i195_8, i195_9, i195_16, hh]
  | succ c ih =>
    intro x hx
    have hh : ¬ s + 16 ≤ s + x := by omega
    have hj : s + x < 96 := by omega
    rw [i195_7]
    simp (disch := first | assumption | omega | decide) only [nI_add, n_mul, n_sub, n_le, n_lt, n_eq, n_ne1, n_0, m_bl_t, m_bl_f, if_true, if_false, Nat.reduceAdd, Nat.reduceMul, Nat.reduceSub, Nat.reduceLeDiff, Nat.reduceEqDiff, Nat.add_zero, Nat.add_sub_cancel, Option.toList, List.cons_append, List.nil_append, i195_8, i195_9, i195_10, i195_11, i195_12, i195_13, i195_14, i195_15, hh, m_sc_self, s_scc]
    exact ih (x + 1) (by omega)
theorem w195 {k s : Nat} (hk : m_ar k 4 96 = true) (h1 : k < t) (hs : s + 16 ≤ 96) : WP V 195 0 (m_loc 195 [.ref k, .int (nI s), .int (nI (s + 16)), .long (lN 0)]) [] t I L R Q = Q none t I (m_sc L k (l_z s 16 (L k))) R := by
  rw [show m_loc 195 [.ref k, .int (nI s), .int (nI (s + 16)), .long (lN 0)] = [.ref k, .int (nI s), .int (nI (s + 16)), .long (lN 0), m_u, m_u] from rfl]
  have hz := w195_7 (V := V) (I := I) (L := L) (R := R) (Q := Q) hk h1 hs 16 0 rfl
  rw [show l_z s 0 (L k) = L k from rfl, sc_id] at hz
  have e1 := c194 (V := V) (t := t) (I := I) (L := L) (R := R) (Q := Q) (m := 195) (n := 5) (ls := [.ref k, .int (nI s), .int (nI (s + 16)), .long (lN 0), m_u, m_u]) (st := []) (N := 96) (lo := s) (hi := s + 16) (Nat.le_add_right _ _) hs (by omega)
  rw [i195_0]
  rw [i195_1 hk h1 (by omega)]
  simp (disch := first | assumption | omega | decide) only [nI_add, n_mul, n_sub, n_le, n_lt, n_eq, n_ne1, n_0, m_bl_t, m_bl_f, if_true, if_false, Nat.reduceAdd, Nat.reduceMul, Nat.reduceSub, Nat.reduceLeDiff, Nat.reduceEqDiff, Nat.add_zero, Nat.add_sub_cancel, Option.toList, List.cons_append, List.nil_append, i195_2, i195_3, i195_4, e1]
  simp (disch := first | assumption | omega | decide) only [nI_add, n_mul, n_sub, n_le, n_lt, n_eq, n_ne1, n_0, m_bl_t, m_bl_f, if_true, if_false, Nat.reduceAdd, Nat.reduceMul, Nat.reduceSub, Nat.reduceLeDiff, Nat.reduceEqDiff, Nat.add_zero, Nat.add_sub_cancel, Option.toList, List.cons_append, List.nil_append, i195_5, i195_6]
  exact hz
theorem c195 {k s : Nat} (hk : m_ar k 4 96 = true) (h1 : k < t) (hs : s + 16 ≤ 96) : WPC V 195 [.ref k, .int (nI s), .int (nI (s + 16)), .long (lN 0)] m n ls st t I L R Q = WP V m n ls st t I (m_sc L k (l_z s 16 (L k))) R Q := wpc_of (fun Q => w195 hk h1 hs)
theorem w65 (ht : 55 ≤ t) {cc a b : Nat} {v v2 : Int32} (hc : cc < 6) : WP V 65 0 (m_loc 65 [.ref 6, .int (nI cc), .int v, .int v2]) [] t I L (m_RR e a b) Q = Q none t (m_sc (m_sc I 7 (m_sc (I 7) cc v)) 8 (m_sc (I 8) cc v2)) (m_sc L 9 (l_z (16 * cc) 16 (L 9))) (m_RR e a b) := by
  rw [show m_loc 65 [.ref 6, .int (nI cc), .int v, .int v2] = [.ref 6, .int (nI cc), .int v, .int v2] from rfl]
  have e1 : (cc + 1) * 16 = cc * 16 + 16 := by omega
  have e2 : 16 * cc = cc * 16 := Nat.mul_comm _ _
  have hA : m_ar 9 4 96 = true := by decide
  have h9 : 9 < t := by omega
  have hs : cc * 16 + 16 ≤ 96 := by omega
  have e3 : m_sc I 7 (m_sc (I 7) cc v) 8 = I 8 := m_sc_ne (by omega)
  rw [e2]
  simp (disch := first | assumption | omega | decide) only [nI_add, n_mul, n_sub, n_le, n_lt, n_eq, n_ne1, n_0, m_bl_t, m_bl_f, if_true, if_false, Nat.reduceAdd, Nat.reduceMul, Nat.reduceSub, Nat.reduceLeDiff, Nat.reduceEqDiff, Nat.add_zero, Nat.add_sub_cancel, Option.toList, List.cons_append, List.nil_append, i65_0, i65_1, i65_2, i65_3, i65_4, i65_5, i65_6, i65_7, i65_8, i65_9, i65_10, i65_11, i65_12, i65_13, i65_14, i65_15, i65_16, i65_17, i65_18, i65_19, rv_18_0, rv_18_1, rv_18_2, rv_6_0, rv_6_1, rv_6_2, e1, e3]
  simp (disch := first | assumption | omega | decide) only [nI_add, n_mul, n_sub, n_le, n_lt, n_eq, n_ne1, n_0, m_bl_t, m_bl_f, if_true, if_false, Nat.reduceAdd, Nat.reduceMul, Nat.reduceSub, Nat.reduceLeDiff, Nat.reduceEqDiff, Nat.add_zero, Nat.add_sub_cancel, Option.toList, List.cons_append, List.nil_append, i65_20, i65_21, i65_22, c195 hA h9 hs]
theorem c65 (ht : 55 ≤ t) {cc a b : Nat} {v v2 : Int32} (hc : cc < 6) : WPC V 65 [.ref 6, .int (nI cc), .int v, .int v2] m n ls st t I L (m_RR e a b) Q = WP V m n ls st t (m_sc (m_sc I 7 (m_sc (I 7) cc v)) 8 (m_sc (I 8) cc v2)) (m_sc L 9 (l_z (16 * cc) 16 (L 9))) (m_RR e a b) Q := wpc_of (fun Q => w65 ht hc)
theorem w127_38 (ht : 55 ≤ t) {cc b : Nat} {v v2 : Int32} (hc : cc < 6) : ∀ c x, x + c = 16 → WP V 127 38 [.ref 27, .int (nI cc), .int v, .int v2, .int (nI x)] [] t I (m_sc L 37 (l_z (16 * cc) x (L 37))) (m_RR e 28 b) Q = Q (some (.int (nI 0))) t I (m_sc L 37 (l_z (16 * cc) 16 (L 37))) (m_RR e 28 b) := by
  intro c
  induction c with
  | zero =>
    intro x hx
    obtain rfl : x = 16 := by omega
    have hh : 16 ≤ 16 := Nat.le_refl _
    rw [i127_38]
    simp (disch := first | assumption | omega | decide) only [nI_add, n_mul, n_sub, n_le, n_lt, n_eq, n_ne1, n_0, m_bl_t, m_bl_f, if_true, if_false, Nat.reduceAdd, Nat.reduceMul, Nat.reduceSub, Nat.reduceLeDiff, Nat.reduceEqDiff, Nat.add_zero, Nat.add_sub_cancel, Option.toList, List.cons_append, List.nil_append, i127_39, i127_40, i127_52, i127_53, hh]
  | succ c ih =>
    intro x hx
    have hh : ¬ 16 ≤ x := by omega
    have hj : 16 * cc + x < 96 := by omega
    have h37 : m_ar 37 4 96 = true := by decide
    have h37t : 37 < t := by omega
    rw [i127_38]
    simp (disch := first | assumption | omega | decide) only [nI_add, n_mul, n_sub, n_le, n_lt, n_eq, n_ne1, n_0, m_bl_t, m_bl_f, if_true, if_false, Nat.reduceAdd, Nat.reduceMul, Nat.reduceSub, Nat.reduceLeDiff, Nat.reduceEqDiff, Nat.add_zero, Nat.add_sub_cancel, Option.toList, List.cons_append, List.nil_append, i127_39, i127_40, i127_41, i127_42, i127_43, i127_44, i127_45, i127_46, i127_47, i127_48, i127_49, i127_50, i127_51, rv_27_14, hh, m_sc_self, s_scc]
    exact ih (x + 1) (by omega)
def c_rw (I : m_I) (cc l s : Nat) : m_I := m_sc (m_sc I 7 (m_sc (I 7) cc (nI l))) 8 (m_sc (I 8) cc (nI s))
def c_rL (L : m_L) (cc : Nat) : m_L := m_sc L 9 (l_z (16 * cc) 16 (L 9))
def d_rw (I : m_I) (cc l s : Nat) : m_I := m_sc (m_sc (m_sc (c_rw I cc l s) 34 (m_sc (I 34) cc (nI 1))) 35 (m_sc (I 35) cc (nI l))) 36 (m_sc (I 36) cc (nI s))
def d_rL (L : m_L) (cc : Nat) : m_L := m_sc (c_rL L cc) 37 (l_z (16 * cc) 16 (L 37))
theorem d_rw_o {cc l s k : Nat} (h : k ≠ 7 ∧ k ≠ 8 ∧ k ≠ 34 ∧ k ≠ 35 ∧ k ≠ 36) : d_rw I cc l s k = I k := by
  unfold d_rw c_rw
  rw [m_sc_ne (by omega), m_sc_ne (by omega), m_sc_ne (by omega), m_sc_ne (by omega), m_sc_ne (by omega)]
theorem ro_rw {cc l s : Nat} (hro : rl_ro I L) (hl : l < 5) (hs : s ≤ 16) : rl_ro (d_rw I cc l s) (d_rL L cc) := by
  have e7 : d_rw I cc l s 7 = m_sc (I 7) cc (nI l) := by
    unfold d_rw c_rw
    rw [m_sc_ne (by omega), m_sc_ne (by omega), m_sc_ne (by omega), m_sc_ne (by omega), m_sc_self]
  have e8 : d_rw I cc l s 8 = m_sc (I 8) cc (nI s) := by
    unfold d_rw c_rw
    rw [m_sc_ne (by omega), m_sc_ne (by omega), m_sc_ne (by omega), m_sc_self]
  have e34 : d_rw I cc l s 34 = m_sc (I 34) cc (nI 1) := by
    unfold d_rw
    rw [m_sc_ne (by omega), m_sc_ne (by omega), m_sc_self]
  have e35 : d_rw I cc l s 35 = m_sc (I 35) cc (nI l) := by
    unfold d_rw
    rw [m_sc_ne (by omega), m_sc_self]
  have e36 : d_rw I cc l s 36 = m_sc (I 36) cc (nI s) := m_sc_self
  have q9 : d_rL L cc 9 = l_z (16 * cc) 16 (L 9) := by
    unfold d_rL c_rL
    rw [m_sc_ne (by omega), m_sc_self]
  have q37 : d_rL L cc 37 = l_z (16 * cc) 16 (L 37) := m_sc_self
  intro y hy
  obtain ⟨a1, a2, a3, a4⟩ := hro y hy
  rw [e7, e8, e34, e35, e36, q9, q37]
  have n1 : ¬ nI l = -1 := n_ne1' (by omega)
  refine ⟨?_, ?_, ?_, fun i hi => ?_⟩
  · by_cases h : y = cc
    · subst h
      rw [m_sc_self, m_sc_self]
      exact ⟨fun q => absurd q n1, fun q => absurd q (by decide)⟩
    · rw [m_sc_ne h, m_sc_ne h]; exact a1
  · by_cases h : y = cc
    · subst h
      rw [m_sc_self, m_sc_self]
      exact ⟨s, hs, rfl, rfl⟩
    · rw [m_sc_ne h, m_sc_ne h]; exact a2
  · by_cases h : y = cc
    · subst h
      rw [m_sc_self, m_sc_self]
      exact fun _ => ⟨rfl, l, hl, rfl⟩
    · rw [m_sc_ne h, m_sc_ne h]; exact a3
  · rw [l_z_at, l_z_at]
    by_cases h : 16 * cc ≤ 16 * y + i ∧ 16 * y + i < 16 * cc + 16
    · rw [if_pos h, if_pos h]
    · rw [if_neg h, if_neg h]; exact a4 i hi
theorem p_row (hT : TP N e I L) (ht : 55 ≤ t) (v0 v v2 : Int32) : pair_ok V t e N I L 88 [.int v0, .int v, .int v2] 127 [.int v0, .int v, .int v2] := by
  obtain ⟨i1, i2⟩ := n_inx (m := 5) (by omega) v0
  obtain ⟨j1, j2⟩ := n_inx (m := 4) (by omega) v
  have eC : m_loc 88 (.ref 0 :: [.int v0, .int v, .int v2]) = [.ref 0, .int v0, .int v, .int v2] := rfl
  have eD : m_loc 127 (.ref 27 :: [.int v0, .int v, .int v2]) = [.ref 27, .int v0, .int v, .int v2, m_u] := rfl
  cases hin : d_in v0 (nI 0) (nI 5)
  · rw [hin] at i1
    refine pair_v (v := .int (-101)) hT (fun Q => ?_) (fun Q => ?_)
    · rw [eC]
      simp (disch := first | assumption | omega | decide) only [nI_add, n_mul, n_sub, n_le, n_lt, n_eq, n_ne1, n_0, m_bl_t, m_bl_f, if_true, if_false, Nat.reduceAdd, Nat.reduceMul, Nat.reduceSub, Nat.reduceLeDiff, Nat.reduceEqDiff, Nat.add_zero, Nat.add_sub_cancel, Option.toList, List.cons_append, List.nil_append, i88_0, i88_1, i88_2, i88_3, i88_4, i88_5, c109, b_0, ← i1]
    · rw [eD]
      simp (disch := first | assumption | omega | decide) only [nI_add, n_mul, n_sub, n_le, n_lt, n_eq, n_ne1, n_0, m_bl_t, m_bl_f, if_true, if_false, Nat.reduceAdd, Nat.reduceMul, Nat.reduceSub, Nat.reduceLeDiff, Nat.reduceEqDiff, Nat.add_zero, Nat.add_sub_cancel, Option.toList, List.cons_append, List.nil_append, i127_0, i127_1, i127_2, i127_3, i127_4, i127_5, i127_6, c111, b_0, hin]
  · obtain ⟨cc, hcc, rfl⟩ := i2 hin
    have hcc6 : cc < 6 := by omega
    have hb : (decide (0 ≤ cc) && decide (cc < 6)) = true := by simp [hcc6]
    cases hlin : d_in v (nI 0) (nI 4)
    · rw [hlin] at j1
      refine pair_v (v := .int (-102)) hT (fun Q => ?_) (fun Q => ?_)
      · rw [eC]
        simp (disch := first | assumption | omega | decide) only [nI_add, n_mul, n_sub, n_le, n_lt, n_eq, n_ne1, n_0, m_bl_t, m_bl_f, if_true, if_false, Nat.reduceAdd, Nat.reduceMul, Nat.reduceSub, Nat.reduceLeDiff, Nat.reduceEqDiff, Nat.add_zero, Nat.add_sub_cancel, Option.toList, List.cons_append, List.nil_append, i88_0, i88_1, i88_2, i88_3, i88_6, i88_7, i88_8, i88_9, i88_13, i88_14, c109, b_0, hb, Bool.true_eq_false, ← j1]
      · rw [eD]
        simp (disch := first | assumption | omega | decide) only [nI_add, n_mul, n_sub, n_le, n_lt, n_eq, n_ne1, n_0, m_bl_t, m_bl_f, if_true, if_false, Nat.reduceAdd, Nat.reduceMul, Nat.reduceSub, Nat.reduceLeDiff, Nat.reduceEqDiff, Nat.add_zero, Nat.add_sub_cancel, Option.toList, List.cons_append, List.nil_append, i127_0, i127_1, i127_2, i127_3, i127_4, i127_7, i127_8, i127_9, i127_10, i127_11, i127_15, i127_16, c111, b_0, hin, Bool.true_eq_false, hlin]
    · obtain ⟨l, hl, rfl⟩ := j2 hlin
      have hl5 : l < 5 := by omega
      have hb2 : (decide (0 ≤ l) && decide (l < 5)) = true := by simp [hl5]
      by_cases h16 : v2 ≤ nI 16
      · by_cases h0 : nI 0 ≤ v2
        · obtain ⟨s, s1, s2⟩ := nI_of (x := v2) (Int32.not_lt.mpr h0)
          subst s2
          have s16 : s ≤ 16 := by rw [n_le s1 (by omega)] at h16; exact h16
          have s0 : 0 ≤ s := Nat.zero_le _
          refine ⟨.int (nI 0), c_rw I cc l s, c_rL L cc, d_rw I cc l s, d_rL L cc, fun Q => ?_, fun Q => ?_, ?_⟩
          · rw [eC]
            simp (disch := first | assumption | omega | decide) only [nI_add, n_mul, n_sub, n_le, n_lt, n_eq, n_ne1, n_0, m_bl_t, m_bl_f, if_true, if_false, Nat.reduceAdd, Nat.reduceMul, Nat.reduceSub, Nat.reduceLeDiff, Nat.reduceEqDiff, Nat.add_zero, Nat.add_sub_cancel, Option.toList, List.cons_append, List.nil_append, i88_0, i88_1, i88_2, i88_3, i88_6, i88_7, i88_8, i88_9, i88_10, i88_11, i88_12, c109, b_0, hb, hb2, Bool.true_eq_false, s16]
            simp (disch := first | assumption | omega | decide) only [nI_add, n_mul, n_sub, n_le, n_lt, n_eq, n_ne1, n_0, m_bl_t, m_bl_f, if_true, if_false, Nat.reduceAdd, Nat.reduceMul, Nat.reduceSub, Nat.reduceLeDiff, Nat.reduceEqDiff, Nat.add_zero, Nat.add_sub_cancel, Option.toList, List.cons_append, List.nil_append, i88_15, i88_16, i88_19, i88_20, i88_21, i88_22, i88_23, i88_24, i88_25, rv_0_0, rv_13_2, rv_1_2, s0, c65 ht hcc6]
            simp (disch := first | assumption | omega | decide) only [nI_add, n_mul, n_sub, n_le, n_lt, n_eq, n_ne1, n_0, m_bl_t, m_bl_f, if_true, if_false, Nat.reduceAdd, Nat.reduceMul, Nat.reduceSub, Nat.reduceLeDiff, Nat.reduceEqDiff, Nat.add_zero, Nat.add_sub_cancel, Option.toList, List.cons_append, List.nil_append, i88_26, i88_27]
            rfl
          · rw [eD]
            have e34 : c_rw I cc l s 34 = I 34 := by unfold c_rw; rw [m_sc_ne (by omega), m_sc_ne (by omega)]
            have e35 : c_rw I cc l s 35 = I 35 := by unfold c_rw; rw [m_sc_ne (by omega), m_sc_ne (by omega)]
            have e36 : c_rw I cc l s 36 = I 36 := by unfold c_rw; rw [m_sc_ne (by omega), m_sc_ne (by omega)]
            have e11 : nI 1 &&& 1 = nI 1 := by decide
            have hz := w127_38 (V := V) (e := e) (I := d_rw I cc l s) (L := c_rL L cc) (b := 48) (v := nI l) (v2 := nI s) (Q := Q) ht hcc6 16 0 rfl
            rw [show l_z (16 * cc) 0 (c_rL L cc 37) = c_rL L cc 37 from rfl, sc_id] at hz
            have e37 : c_rL L cc 37 = L 37 := by unfold c_rL; rw [m_sc_ne (by omega)]
            simp (disch := first | assumption | omega | decide) only [nI_add, n_mul, n_sub, n_le, n_lt, n_eq, n_ne1, n_0, m_bl_t, m_bl_f, if_true, if_false, Nat.reduceAdd, Nat.reduceMul, Nat.reduceSub, Nat.reduceLeDiff, Nat.reduceEqDiff, Nat.add_zero, Nat.add_sub_cancel, Option.toList, List.cons_append, List.nil_append, i127_0, i127_1, i127_2, i127_3, i127_4, i127_7, i127_8, i127_9, i127_10, i127_11, i127_12, i127_13, i127_14, c111, b_0, hin, hlin, Bool.true_eq_false, s16]
            simp (disch := first | assumption | omega | decide) only [nI_add, n_mul, n_sub, n_le, n_lt, n_eq, n_ne1, n_0, m_bl_t, m_bl_f, if_true, if_false, Nat.reduceAdd, Nat.reduceMul, Nat.reduceSub, Nat.reduceLeDiff, Nat.reduceEqDiff, Nat.add_zero, Nat.add_sub_cancel, Option.toList, List.cons_append, List.nil_append, i127_17, i127_18, i127_21, i127_22, i127_23, i127_24, i127_25, i127_26, i127_27, i127_28, i127_29, i127_30, i127_31, i127_32, i127_33, i127_34, i127_35, i127_36, i127_37, rv_27_11, rv_27_12, rv_27_13, s0, e34, e35, e36, e11, m_sc_ne]
            refine Eq.trans hz ?_
            rw [e37]
            rfl
          · have O : ∀ k, (k ≠ 7 ∧ k ≠ 8 ∧ k ≠ 34 ∧ k ≠ 35 ∧ k ≠ 36) → d_rw I cc l s k = I k := fun k hk => d_rw_o hk
            have O2 : ∀ k, k ≠ 9 → k ≠ 37 → d_rL L cc k = L k := fun k h1 h2 => by unfold d_rL c_rL; rw [m_sc_ne h2, m_sc_ne h1]
            exact TP_of hT ⟨rl_XX_le (XX_cell hT.1 (O _ (by omega)) (O _ (by omega)) (O _ (by omega)) (O _ (by omega)) (O _ (by omega)) (O _ (by omega)) (O _ (by omega)) (O _ (by omega)) (O _ (by omega))) (Nat.le_add_right _ _), ro_rw hT.1.2.1 hl5 s16, cd_cell hT.1.2.2.1 (O _ (by omega)) (O _ (by omega)) (O _ (by omega)) (O _ (by omega)) (O _ (by omega)) (O _ (by omega)) (O _ (by omega)), fs_cell hT.1.2.2.2 (O _ (by omega)) (O _ (by omega)) (O _ (by omega))⟩ (O _ (by omega)) (fun j hj => by rw [O _ (by omega)]) (O _ (by omega)) (O _ (by omega)) (O _ (by omega)) (fun k hk => O _ (by unfold cellK at hk; omega)) (O2 _ (by omega) (by omega)) (O2 _ (by omega) (by omega)) (Nat.le_add_right _ _)
        · refine pair_v (v := .int (-15)) hT (fun Q => ?_) (fun Q => ?_)
          · rw [eC]
            simp (disch := first | assumption | omega | decide) only [nI_add, n_mul, n_sub, n_le, n_lt, n_eq, n_ne1, n_0, m_bl_t, m_bl_f, if_true, if_false, Nat.reduceAdd, Nat.reduceMul, Nat.reduceSub, Nat.reduceLeDiff, Nat.reduceEqDiff, Nat.add_zero, Nat.add_sub_cancel, Option.toList, List.cons_append, List.nil_append, i88_0, i88_1, i88_2, i88_3, i88_6, i88_7, i88_8, i88_9, i88_10, i88_11, i88_12, c109, b_0, hb, hb2, Bool.true_eq_false, h16]
            simp (disch := first | assumption | omega | decide) only [nI_add, n_mul, n_sub, n_le, n_lt, n_eq, n_ne1, n_0, m_bl_t, m_bl_f, if_true, if_false, Nat.reduceAdd, Nat.reduceMul, Nat.reduceSub, Nat.reduceLeDiff, Nat.reduceEqDiff, Nat.add_zero, Nat.add_sub_cancel, Option.toList, List.cons_append, List.nil_append, i88_15, i88_16, i88_17, i88_18, h0]
          · rw [eD]
            simp (disch := first | assumption | omega | decide) only [nI_add, n_mul, n_sub, n_le, n_lt, n_eq, n_ne1, n_0, m_bl_t, m_bl_f, if_true, if_false, Nat.reduceAdd, Nat.reduceMul, Nat.reduceSub, Nat.reduceLeDiff, Nat.reduceEqDiff, Nat.add_zero, Nat.add_sub_cancel, Option.toList, List.cons_append, List.nil_append, i127_0, i127_1, i127_2, i127_3, i127_4, i127_7, i127_8, i127_9, i127_10, i127_11, i127_12, i127_13, i127_14, c111, b_0, hin, hlin, Bool.true_eq_false, h16]
            simp (disch := first | assumption | omega | decide) only [nI_add, n_mul, n_sub, n_le, n_lt, n_eq, n_ne1, n_0, m_bl_t, m_bl_f, if_true, if_false, Nat.reduceAdd, Nat.reduceMul, Nat.reduceSub, Nat.reduceLeDiff, Nat.reduceEqDiff, Nat.add_zero, Nat.add_sub_cancel, Option.toList, List.cons_append, List.nil_append, i127_17, i127_18, i127_19, i127_20, h0]
      · refine pair_v (v := .int (-102)) hT (fun Q => ?_) (fun Q => ?_)
        · rw [eC]
          simp (disch := first | assumption | omega | decide) only [nI_add, n_mul, n_sub, n_le, n_lt, n_eq, n_ne1, n_0, m_bl_t, m_bl_f, if_true, if_false, Nat.reduceAdd, Nat.reduceMul, Nat.reduceSub, Nat.reduceLeDiff, Nat.reduceEqDiff, Nat.add_zero, Nat.add_sub_cancel, Option.toList, List.cons_append, List.nil_append, i88_0, i88_1, i88_2, i88_3, i88_6, i88_7, i88_8, i88_9, i88_10, i88_11, i88_12, i88_13, i88_14, c109, b_0, hb, hb2, Bool.true_eq_false, h16]
        · rw [eD]
          simp (disch := first | assumption | omega | decide) only [nI_add, n_mul, n_sub, n_le, n_lt, n_eq, n_ne1, n_0, m_bl_t, m_bl_f, if_true, if_false, Nat.reduceAdd, Nat.reduceMul, Nat.reduceSub, Nat.reduceLeDiff, Nat.reduceEqDiff, Nat.add_zero, Nat.add_sub_cancel, Option.toList, List.cons_append, List.nil_append, i127_0, i127_1, i127_2, i127_3, i127_4, i127_7, i127_8, i127_9, i127_10, i127_11, i127_12, i127_13, i127_14, i127_15, i127_16, c111, b_0, hin, hlin, Bool.true_eq_false, h16]
end RZH
