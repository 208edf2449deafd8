/-! check: alike -/
section RZX
variable {V : m_V} {m n : Nat} {ls st : List Value} {t N M : Nat} {I I' : m_I} {R : m_R} {L L' : m_L} {e : Option Nat} {a b u x i s : Nat} {Q : Option Value → Nat → m_I → m_L → m_R → Prop} {A C : Nat → Int32} {off : Nat}
theorem w187_31 (ht : 55 ≤ t) (hn : n ≤ 60) {f ww : Nat → Int32} : ∀ c i (I : m_I) (C : Nat → Int32) (w2 w3 w4 : Value), i + c = n → k_D I C → (∀ i, i < n → ∀ j, j < 32 → I 43 (32 * i + j) = ww (i * 35 + 2 + j)) → I 27 17 = nI n → (∀ x, x < 8 → f (49 + x) = I 28 (18 * x) ∧ f (57 + x) = I 28 (18 * x + 1) ∧ ¬ f (49 + x) = -1) → ∃ J, (∀ k, k ≠ 50 → k ≠ 51 → J k = I k) ∧ ∀ Q, WP V 187 31 [.ref 27, .int (nI i), w2, w3, w4] [] t I L (m_RR e 28 b) Q = Q (some (.int (k_ans f (k_fw ww c i C)))) t J L (m_RR e 28 b) := by
  intro c
  induction c with
  | zero =>
    intro i I C w2 w3 w4 hi hD hA h17 hf
    obtain rfl : i = n := by omega
    refine ⟨I, fun _ _ _ => rfl, fun Q => ?_⟩
    have hh : i ≤ i := Nat.le_refl _
    rw [i187_31]
    simp (disch := first | assumption | omega | decide) only [nI_add, n_mul, n_sub, n_le, n_lt, n_eq, n_ne1, n_0, m_bl_t, m_bl_f, if_true, if_false, Nat.reduceAdd, Nat.reduceMul, Nat.reduceSub, Nat.reduceLeDiff, Nat.reduceEqDiff, Nat.add_zero, Nat.add_sub_cancel, Option.toList, List.cons_append, List.nil_append, i187_32, i187_33, i187_34, h17, hh]
    simp (disch := first | assumption | omega | decide) only [nI_add, n_mul, n_sub, n_le, n_lt, n_eq, n_ne1, n_0, m_bl_t, m_bl_f, if_true, if_false, Nat.reduceAdd, Nat.reduceMul, Nat.reduceSub, Nat.reduceLeDiff, Nat.reduceEqDiff, Nat.add_zero, Nat.add_sub_cancel, Option.toList, List.cons_append, List.nil_append, i187_124, i187_125]
    rw [w187_126 ht hD hf 8 0 rfl]
    rfl
  | succ c ih =>
    intro i I C w2 w3 w4 hi hD hA h17 hf
    have hh : ¬ n ≤ i := by omega
    have hi60 : i < 60 := by omega
    have hA1 : ∀ j, j < 16 → I 43 (32 * i + j) = ww (i * 35 + 2 + j) := fun j hj => hA i (by omega) j (by omega)
    have hA2 : ∀ j, j < 16 → I 43 (32 * i + 16 + j) = ww (i * 35 + 18 + j) := fun j hj => by
      have := hA i (by omega) (16 + j) (by omega)
      rw [show 32 * i + 16 + j = 32 * i + (16 + j) by omega, show i * 35 + 18 + j = i * 35 + 2 + (16 + j) by omega]
      exact this
    obtain ⟨w', hw'⟩ := w187_41 (V := V) (L := L) (e := e) (b := b) ht hi60 hA1 hD 8 0 w4 rfl
    rw [show k_fw ww (c + 1) i C = (match k_fu ww C (i * 35 + 2) 8 0 with | some x => (some (nI (8 * i + x)), C) | none => k_fw ww c (i + 1) (k_wr ww (i * 35 + 18) C 8)) from rfl]
    cases hk : k_fu ww C (i * 35 + 2) 8 0 with
    | some y =>
      refine ⟨I, fun _ _ _ => rfl, fun Q => ?_⟩
      have q := hw' Q
      rw [hk] at q
      rw [i187_31]
      simp (disch := first | assumption | omega | decide) only [nI_add, n_mul, n_sub, n_le, n_lt, n_eq, n_ne1, n_0, m_bl_t, m_bl_f, if_true, if_false, Nat.reduceAdd, Nat.reduceMul, Nat.reduceSub, Nat.reduceLeDiff, Nat.reduceEqDiff, Nat.add_zero, Nat.add_sub_cancel, Option.toList, List.cons_append, List.nil_append, i187_32, i187_33, i187_34, h17, hh]
      simp (disch := first | assumption | omega | decide) only [nI_add, n_mul, n_sub, n_le, n_lt, n_eq, n_ne1, n_0, m_bl_t, m_bl_f, if_true, if_false, Nat.reduceAdd, Nat.reduceMul, Nat.reduceSub, Nat.reduceLeDiff, Nat.reduceEqDiff, Nat.add_zero, Nat.add_sub_cancel, Option.toList, List.cons_append, List.nil_append, i187_35, i187_36, i187_37, i187_38, i187_39, i187_40]
      rw [q]
      rfl
    | none =>
      have O : ∀ k, k ≠ 50 ∧ k ≠ 51 → z_w I i 8 k = I k := fun k hk => z_w_o hk
      obtain ⟨J, hJ, hQ⟩ := ih (i + 1) (z_w I i 8) (k_wr ww (i * 35 + 18) C 8) (.int (nI (32 * i))) (.int (nI 8)) w' (by omega) (z_w_D hD hA2 (by omega)) (fun i' hi' j hj => by rw [O 43 (by omega)]; exact hA i' hi' j hj) (by rw [O 27 (by omega)]; exact h17) (fun x hx => by rw [O 28 (by omega)]; exact hf x hx)
      refine ⟨J, fun k h1 h2 => (hJ k h1 h2).trans (O k ⟨h1, h2⟩), fun Q => ?_⟩
      have q := hw' Q
      rw [hk] at q
      have st : ∀ x, x < 8 → WP V 187 83 [.ref 27, .int (nI i), .int (nI (32 * i)), .int (nI x), w'] [] t (z_w I i x) L (m_RR e 28 b) Q = WP V 187 83 [.ref 27, .int (nI i), .int (nI (32 * i)), .int (nI (x + 1)), w'] [] t (z_w I i (x + 1)) L (m_RR e 28 b) Q := fun x hx => w187_83 ht hi60 hx
      rw [i187_31]
      simp (disch := first | assumption | omega | decide) only [nI_add, n_mul, n_sub, n_le, n_lt, n_eq, n_ne1, n_0, m_bl_t, m_bl_f, if_true, if_false, Nat.reduceAdd, Nat.reduceMul, Nat.reduceSub, Nat.reduceLeDiff, Nat.reduceEqDiff, Nat.add_zero, Nat.add_sub_cancel, Option.toList, List.cons_append, List.nil_append, i187_32, i187_33, i187_34, h17, hh]
      simp (disch := first | assumption | omega | decide) only [nI_add, n_mul, n_sub, n_le, n_lt, n_eq, n_ne1, n_0, m_bl_t, m_bl_f, if_true, if_false, Nat.reduceAdd, Nat.reduceMul, Nat.reduceSub, Nat.reduceLeDiff, Nat.reduceEqDiff, Nat.add_zero, Nat.add_sub_cancel, Option.toList, List.cons_append, List.nil_append, i187_35, i187_36, i187_37, i187_38, i187_39, i187_40]
      refine q.trans ?_
      dsimp only
      simp (disch := first | assumption | omega | decide) only [nI_add, n_mul, n_sub, n_le, n_lt, n_eq, n_ne1, n_0, m_bl_t, m_bl_f, if_true, if_false, Nat.reduceAdd, Nat.reduceMul, Nat.reduceSub, Nat.reduceLeDiff, Nat.reduceEqDiff, Nat.add_zero, Nat.add_sub_cancel, Option.toList, List.cons_append, List.nil_append, i187_81, i187_82]
      refine (st 0 (by omega)).trans ((st 1 (by omega)).trans ((st 2 (by omega)).trans ((st 3 (by omega)).trans ((st 4 (by omega)).trans ((st 5 (by omega)).trans ((st 6 (by omega)).trans ((st 7 (by omega)).trans ?_)))))))
      have h8 : 8 ≤ 8 := Nat.le_refl _
      rw [i187_83]
      simp (disch := first | assumption | omega | decide) only [nI_add, n_mul, n_sub, n_le, n_lt, n_eq, n_ne1, n_0, m_bl_t, m_bl_f, if_true, if_false, Nat.reduceAdd, Nat.reduceMul, Nat.reduceSub, Nat.reduceLeDiff, Nat.reduceEqDiff, Nat.add_zero, Nat.add_sub_cancel, Option.toList, List.cons_append, List.nil_append, i187_84, i187_85, i187_122, i187_123, h8]
      exact hQ Q
def z_c1 (I : m_I) (x : Nat) : m_I := m_sc (m_sc I 50 (m_sc (I 50) x (I 38 x))) 51 (m_sc (I 51) x (I 39 x))
def z_c (I : m_I) : Nat → m_I
  | 0 => I
  | x + 1 => z_c1 (z_c I x) x
theorem w187_8 (ht : 55 ≤ t) (hx : x < 8) {w2 w3 w4 : Value} : WP V 187 8 [.ref 27, .int (nI x), w2, w3, w4] [] t I L (m_RR e 28 b) Q = WP V 187 8 [.ref 27, .int (nI (x + 1)), w2, w3, w4] [] t (z_c1 I x) L (m_RR e 28 b) Q := by
  have hx8 : ¬ 8 ≤ x := by omega
  unfold z_c1
  rw [i187_8]
  simp (disch := first | assumption | omega | decide) only [nI_add, n_mul, n_sub, n_le, n_lt, n_eq, n_ne1, n_0, m_bl_t, m_bl_f, if_true, if_false, Nat.reduceAdd, Nat.reduceMul, Nat.reduceSub, Nat.reduceLeDiff, Nat.reduceEqDiff, Nat.add_zero, Nat.add_sub_cancel, Option.toList, List.cons_append, List.nil_append, i187_9, i187_10, i187_11, i187_12, i187_13, i187_14, i187_15, i187_16, i187_17, i187_18, i187_19, i187_20, i187_21, i187_22, i187_23, i187_24, i187_25, i187_26, i187_27, i187_28, rv_27_15, rv_27_16, rv_27_35, rv_27_36, hx8, m_sc_ne]
theorem z_c_o {k : Nat} (h : k ≠ 50 ∧ k ≠ 51) : z_c I x k = I k := by
  induction x with
  | zero => rfl
  | succ x ih =>
    show z_c1 (z_c I x) x k = I k
    unfold z_c1
    rw [m_sc_ne h.2, m_sc_ne h.1, ih]
theorem z_c_v {y : Nat} (h : y < x) : z_c I x 50 y = I 38 y ∧ z_c I x 51 y = I 39 y := by
  induction x with
  | zero => exact absurd h (Nat.not_lt_zero _)
  | succ x ih =>
    show z_c1 (z_c I x) x 50 y = I 38 y ∧ z_c1 (z_c I x) x 51 y = I 39 y
    unfold z_c1
    rw [m_sc_ne (j := 50) (by omega), m_sc_self, m_sc_self, z_c_o (k := 38) (by omega), z_c_o (k := 39) (by omega)]
    by_cases hy : y = x
    · subst hy
      rw [m_sc_self, m_sc_self]
      exact ⟨rfl, rfl⟩
    · rw [m_sc_ne hy, m_sc_ne hy]
      exact ih (by omega)
theorem p_check (hT : TP N e I L) (hN : N < 800000) (ht : 55 ≤ t) : pair_ok V t e N I L 105 [] 187 [] := by
  have eC : m_loc 105 (.ref 0 :: []) = [.ref 0] := rfl
  have eD : m_loc 187 (.ref 27 :: []) = [.ref 27, m_u, m_u, m_u, m_u] := rfl
  obtain ⟨c, b, k, n, c1, b1, k1, hL, n3, h5, hNt, hO⟩ := XX_get hT.1.1
  obtain ⟨z1, z2, z3⟩ := noted_eq hNt (by omega)
  by_cases hk : k ≤ 60
  · have O12 : ∀ k, k ≠ 12 → m_sc I 12 (k_fw (I 11) n 0 (va_cpy (I 2) (I 12) 565 0 16)).2 k = I k := fun k hk => m_sc_ne hk
    have h4 : I 27 4 = nI k := hNt.2.1
    have hf : ∀ x, x < 8 → I 2 (49 + x) = I 28 (18 * x) ∧ I 2 (57 + x) = I 28 (18 * x + 1) ∧ ¬ I 2 (49 + x) = -1 := fun x hx => by
      obtain ⟨n', p1, p2, p3, p4, p5, p6, p7, p8, p9, p10⟩ := hL.2.2.1 x hx
      have hv := ((p10 0 (by omega)).1 (by omega)).2.2.2.2
      rw [show 49 + 24 * 0 + x = 49 + x by omega] at hv
      refine ⟨p6, p7, fun q => ?_⟩
      rcases hv with q1 | q1 | ⟨q1, q2⟩
      · rw [q1] at q; exact absurd q (by decide)
      · rw [q1] at q; exact absurd q (by decide)
      · rw [q1] at q; exact absurd q (by decide)
    have hrow : ∀ i, i < n → ∀ j, j < 32 → I 43 (32 * i + j) = I 11 (i * 35 + 2 + j) := fun i hi j hj => ((hNt.2.2.2.2 i hi).2.2.1 j hj).symm
    have hJ : ∃ J, (∀ k, k ≠ 12 → k ≠ 50 → k ≠ 51 → J k = I k) ∧ ∀ Q, WP V 187 0 (m_loc 187 (.ref 27 :: [])) [] t (m_sc I 12 (k_fw (I 11) n 0 (va_cpy (I 2) (I 12) 565 0 16)).2) L (m_RR e 28 48) Q = Q (some (.int (k_ans (I 2) (k_fw (I 11) n 0 (va_cpy (I 2) (I 12) 565 0 16))))) t J L (m_RR e 28 48) := by
      have Oz : ∀ k, k ≠ 50 ∧ k ≠ 51 → z_c (m_sc I 12 (k_fw (I 11) n 0 (va_cpy (I 2) (I 12) 565 0 16)).2) 8 k = m_sc I 12 (k_fw (I 11) n 0 (va_cpy (I 2) (I 12) 565 0 16)).2 k := fun k hk => z_c_o hk
      have hD : k_D (z_c (m_sc I 12 (k_fw (I 11) n 0 (va_cpy (I 2) (I 12) 565 0 16)).2) 8) (va_cpy (I 2) (I 12) 565 0 16) := fun y hy => by
        obtain ⟨q1, q2⟩ := z_c_v (I := m_sc I 12 (k_fw (I 11) n 0 (va_cpy (I 2) (I 12) 565 0 16)).2) (x := 8) hy
        obtain ⟨s1, s2⟩ := hT.1.2.2.2 y hy
        rw [O12 38 (by omega)] at q1
        rw [O12 39 (by omega)] at q2
        have v1 : va_cpy (I 2) (I 12) 565 0 16 y = I 2 (565 + y) := by
          have := va_x (f := I 2) (g := I 12) (sp := 565) (dp := 0) (n := 16) (r := y) (by omega)
          rw [Nat.zero_add] at this
          exact this
        have v2 : va_cpy (I 2) (I 12) 565 0 16 (8 + y) = I 2 (573 + y) := by
          have := va_x (f := I 2) (g := I 12) (sp := 565) (dp := 0) (n := 16) (r := 8 + y) (by omega)
          rw [Nat.zero_add, show 565 + (8 + y) = 573 + y by omega] at this
          exact this
        rw [q1, q2, v1, v2]
        exact ⟨s1.symm, s2.symm⟩
      obtain ⟨J, j1, j2⟩ := w187_31 (V := V) (L := L) (e := e) (b := 48) ht z3 (f := I 2) (ww := I 11) n 0 (z_c (m_sc I 12 (k_fw (I 11) n 0 (va_cpy (I 2) (I 12) 565 0 16)).2) 8) (va_cpy (I 2) (I 12) 565 0 16) m_u m_u m_u (by omega) hD (fun i hi j hj => by rw [Oz 43 (by omega), O12 43 (by omega)]; exact hrow i hi j hj) (by rw [Oz 27 (by omega), O12 27 (by omega)]; exact z2) (fun x hx => by rw [Oz 28 (by omega), O12 28 (by omega)]; exact hf x hx)
      refine ⟨J, fun k h1 h2 h3 => (j1 k h2 h3).trans ((Oz k ⟨h2, h3⟩).trans (O12 k h1)), fun Q => ?_⟩
      have st : ∀ x, x < 8 → WP V 187 8 [.ref 27, .int (nI x), m_u, m_u, m_u] [] t (z_c (m_sc I 12 (k_fw (I 11) n 0 (va_cpy (I 2) (I 12) 565 0 16)).2) x) L (m_RR e 28 48) Q = WP V 187 8 [.ref 27, .int (nI (x + 1)), m_u, m_u, m_u] [] t (z_c (m_sc I 12 (k_fw (I 11) n 0 (va_cpy (I 2) (I 12) 565 0 16)).2) (x + 1)) L (m_RR e 28 48) Q := fun x hx => w187_8 ht hx
      have e27 : m_sc I 12 (k_fw (I 11) n 0 (va_cpy (I 2) (I 12) 565 0 16)).2 27 = I 27 := O12 27 (by omega)
      rw [eD]
      simp (disch := first | assumption | omega | decide) only [nI_add, n_mul, n_sub, n_le, n_lt, n_eq, n_ne1, n_0, m_bl_t, m_bl_f, if_true, if_false, Nat.reduceAdd, Nat.reduceMul, Nat.reduceSub, Nat.reduceLeDiff, Nat.reduceEqDiff, Nat.add_zero, Nat.add_sub_cancel, Option.toList, List.cons_append, List.nil_append, i187_0, i187_1, i187_2, i187_3, e27, h4, hk]
      simp (disch := first | assumption | omega | decide) only [nI_add, n_mul, n_sub, n_le, n_lt, n_eq, n_ne1, n_0, m_bl_t, m_bl_f, if_true, if_false, Nat.reduceAdd, Nat.reduceMul, Nat.reduceSub, Nat.reduceLeDiff, Nat.reduceEqDiff, Nat.add_zero, Nat.add_sub_cancel, Option.toList, List.cons_append, List.nil_append, i187_6, i187_7]
      refine (st 0 (by omega)).trans ((st 1 (by omega)).trans ((st 2 (by omega)).trans ((st 3 (by omega)).trans ((st 4 (by omega)).trans ((st 5 (by omega)).trans ((st 6 (by omega)).trans ((st 7 (by omega)).trans ?_)))))))
      have h8 : 8 ≤ 8 := Nat.le_refl _
      rw [i187_8]
      simp (disch := first | assumption | omega | decide) only [nI_add, n_mul, n_sub, n_le, n_lt, n_eq, n_ne1, n_0, m_bl_t, m_bl_f, if_true, if_false, Nat.reduceAdd, Nat.reduceMul, Nat.reduceSub, Nat.reduceLeDiff, Nat.reduceEqDiff, Nat.add_zero, Nat.add_sub_cancel, Option.toList, List.cons_append, List.nil_append, i187_9, i187_10, i187_29, i187_30, h8]
      exact j2 Q
    obtain ⟨J, O, hJQ⟩ := hJ
    refine ⟨.int (k_ans (I 2) (k_fw (I 11) n 0 (va_cpy (I 2) (I 12) 565 0 16))), m_sc I 12 (k_fw (I 11) n 0 (va_cpy (I 2) (I 12) 565 0 16)).2, L, J, L, fun Q => ?_, hJQ, ?_⟩
    · have s1 := fun Q => w59 (V := V) (e := e) (a := 28) (b := 48) (I := I) (L := L) (Q := Q) ht z3 z1
      rw [eC]
      simp (disch := first | assumption | omega | decide) only [nI_add, n_mul, n_sub, n_le, n_lt, n_eq, n_ne1, n_0, m_bl_t, m_bl_f, if_true, if_false, Nat.reduceAdd, Nat.reduceMul, Nat.reduceSub, Nat.reduceLeDiff, Nat.reduceEqDiff, Nat.add_zero, Nat.add_sub_cancel, Option.toList, List.cons_append, List.nil_append, i105_0, i105_1, i105_2, i105_3, i105_4, i105_5, rv_0_0, rv_13_3, rv_1_3, hNt.1, hk]
      simp (disch := first | assumption | omega | decide) only [nI_add, n_mul, n_sub, n_le, n_lt, n_eq, n_ne1, n_0, m_bl_t, m_bl_f, if_true, if_false, Nat.reduceAdd, Nat.reduceMul, Nat.reduceSub, Nat.reduceLeDiff, Nat.reduceEqDiff, Nat.add_zero, Nat.add_sub_cancel, Option.toList, List.cons_append, List.nil_append, i105_8, i105_9, i105_10, i105_11, i105_12, i105_13, i105_14, i105_15, rv_0_0, rv_13_0, rv_13_3, rv_1_0, rv_1_3, wpc_of s1]
    · exact TP_of hT ⟨rl_XX_le (XX_cell hT.1 (O _ (by omega) (by omega) (by omega)) (O _ (by omega) (by omega) (by omega)) (O _ (by omega) (by omega) (by omega)) (O _ (by omega) (by omega) (by omega)) (O _ (by omega) (by omega) (by omega)) (O _ (by omega) (by omega) (by omega)) (O _ (by omega) (by omega) (by omega)) (O _ (by omega) (by omega) (by omega)) (O _ (by omega) (by omega) (by omega))) (Nat.le_add_right _ _), ro_cell hT.1.2.1 (O _ (by omega) (by omega) (by omega)) (O _ (by omega) (by omega) (by omega)) (O _ (by omega) (by omega) (by omega)) (O _ (by omega) (by omega) (by omega)) (O _ (by omega) (by omega) (by omega)) rfl rfl, cd_cell hT.1.2.2.1 (O _ (by omega) (by omega) (by omega)) (O _ (by omega) (by omega) (by omega)) (O _ (by omega) (by omega) (by omega)) (O _ (by omega) (by omega) (by omega)) (O _ (by omega) (by omega) (by omega)) (O _ (by omega) (by omega) (by omega)) (O _ (by omega) (by omega) (by omega)), fs_cell hT.1.2.2.2 (O _ (by omega) (by omega) (by omega)) (O _ (by omega) (by omega) (by omega)) (O _ (by omega) (by omega) (by omega))⟩ (O _ (by omega) (by omega) (by omega)) (fun j hj => by rw [O 27 (by omega) (by omega) (by omega)]) (O _ (by omega) (by omega) (by omega)) (O _ (by omega) (by omega) (by omega)) (O _ (by omega) (by omega) (by omega)) (fun k hk => O _ (by unfold cellK at hk; omega) (by unfold cellK at hk; omega) (by unfold cellK at hk; omega)) rfl rfl (Nat.le_add_right _ _)
  · have h4 : I 27 4 = nI k := hNt.2.1
    refine pair_v (v := .int (-103)) hT (fun Q => ?_) (fun Q => ?_)
    · rw [eC]
      simp (disch := first | assumption | omega | decide) only [nI_add, n_mul, n_sub, n_le, n_lt, n_eq, n_ne1, n_0, m_bl_t, m_bl_f, if_true, if_false, Nat.reduceAdd, Nat.reduceMul, Nat.reduceSub, Nat.reduceLeDiff, Nat.reduceEqDiff, Nat.add_zero, Nat.add_sub_cancel, Option.toList, List.cons_append, List.nil_append, i105_0, i105_1, i105_2, i105_3, i105_4, i105_5, i105_6, i105_7, rv_0_0, rv_13_3, rv_1_3, hNt.1, hk]
    · rw [eD]
      simp (disch := first | assumption | omega | decide) only [nI_add, n_mul, n_sub, n_le, n_lt, n_eq, n_ne1, n_0, m_bl_t, m_bl_f, if_true, if_false, Nat.reduceAdd, Nat.reduceMul, Nat.reduceSub, Nat.reduceLeDiff, Nat.reduceEqDiff, Nat.add_zero, Nat.add_sub_cancel, Option.toList, List.cons_append, List.nil_append, i187_0, i187_1, i187_2, i187_3, i187_4, i187_5, h4, hk]
end RZX
