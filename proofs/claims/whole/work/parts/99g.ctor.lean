/-! the constructors: the class -/
section RCA
variable {V : m_V} {m n : Nat} {ls st : List Value} {t : Nat} {I I' : m_I} {L L' : m_L} {R R' : m_R} {Q : Option Value → Nat → m_I → m_L → m_R → Prop} {k h q x N : Nat} {v : Int32}
def y_z : Nat → Int32 := fun _ => nI 0
def y_zl : Nat → Int64 := fun _ => 0
def y_zn : Nat → Option Nat := fun _ => none
theorem w196_g (hk : k < t) (ha : m_ar k 2 N = true) (hN : N < 2147483648) : ∀ c x, x + c = N → WP V 196 5 [.ref k, .int v, .int (nI x), .int (nI N)] [] t (m_sc I k (x_fl (I k) x v)) L R Q = Q none t (m_sc I k (x_fl (I k) N v)) L R := by
  have hN31 : N < 2 ^ 31 := by omega
  intro c
  induction c with
  | zero =>
    intro x hx
    obtain rfl : x = N := by omega
    rw [i196_5]
    simp (disch := first | assumption | omega | decide) only [nI_add, n_mul, n_sub, n_le, n_lt, n_eq, n_ne1, n_0, m_bl_t, m_bl_f, if_true, if_false, Nat.reduceAdd, Nat.reduceMul, Nat.reduceSub, Nat.reduceLeDiff, Nat.reduceEqDiff, Nat.add_zero, Nat.add_sub_cancel, Option.toList, List.cons_append, List.nil_append, i196_6, i196_7, i196_14, Nat.le_refl]
  | succ c ih =>
    intro x hx
    have hx4 : ¬ N ≤ x := by omega
    have hx5 : x < N := by omega
    have e1 : m_sc (x_fl (I k) x v) x v = x_fl (I k) (x + 1) v := by
      funext j
      unfold x_fl
      by_cases q : j = x
      · subst q; rw [m_sc_self, if_pos (by omega)]
      · rw [m_sc_ne q]
        by_cases q2 : j < x
        · rw [if_pos q2, if_pos (by omega)]
        · rw [if_neg q2, if_neg (by omega)]
    rw [← ih (x + 1) (by omega), i196_5]
    simp (disch := first | assumption | omega | decide) only [nI_add, n_mul, n_sub, n_le, n_lt, n_eq, n_ne1, n_0, m_bl_t, m_bl_f, if_true, if_false, Nat.reduceAdd, Nat.reduceMul, Nat.reduceSub, Nat.reduceLeDiff, Nat.reduceEqDiff, Nat.add_zero, Nat.add_sub_cancel, Option.toList, List.cons_append, List.nil_append, i196_6, i196_7, i196_8, i196_9, i196_10, i196_12, i196_13, i196_11 (N := N), hx4, m_sc_self, s_scc, e1]
theorem y196 (hk : k < t) (ha : m_ar k 2 N = true) (hN : N < 2147483648) : WPC V 196 [.ref k, .int v] m n ls st t I L R Q = WP V m n ls st t (m_sc I k (x_fl (I k) N v)) L R Q := by
  refine wpc_of (v := none) (fun Q => ?_)
  rw [show m_loc 196 [.ref k, .int v] = [.ref k, .int v, m_u, m_u] from rfl]
  have hN31 : N < 2 ^ 31 := by omega
  have e0 : m_sc I k (x_fl (I k) 0 v) = I := by
    have : x_fl (I k) 0 v = I k := by funext j; unfold x_fl; rw [if_neg (by omega)]
    rw [this, s_sce]
  have e1 := w196_g (V := V) (I := I) (L := L) (R := R) (Q := Q) (v := v) hk ha hN N 0 (Nat.zero_add N)
  rw [e0] at e1
  rw [← e1]
  simp (disch := first | assumption | omega | decide) only [nI_add, n_mul, n_sub, n_le, n_lt, n_eq, n_ne1, n_0, m_bl_t, m_bl_f, if_true, if_false, Nat.reduceAdd, Nat.reduceMul, Nat.reduceSub, Nat.reduceLeDiff, Nat.reduceEqDiff, Nat.add_zero, Nat.add_sub_cancel, Option.toList, List.cons_append, List.nil_append, i196_0, i196_1, i196_2, i196_4, i196_3 (N := N) (ty := 2)]
theorem w46_g (hh : h < t) (ho : m_ob h 3 = true) (hR : m_rv (R h 0) = .ref k) (hk : k < t) (hN : m_ar k 2 581 = true) (hx : x < 3) : WP V 46 48 [.ref h, .int (nI x)] [] t I L R Q = WP V 46 48 [.ref h, .int (nI (x + 1))] [] t (m_sc I k (c_clear (I k) x)) L R Q := by
  have hx3 : ¬ 3 ≤ x := by omega
  rw [i46_48]
  simp (disch := first | assumption | omega | decide) only [nI_add, n_mul, n_sub, n_le, n_lt, n_eq, n_ne1, n_0, m_bl_t, m_bl_f, if_true, if_false, Nat.reduceAdd, Nat.reduceMul, Nat.reduceSub, Nat.reduceLeDiff, Nat.reduceEqDiff, Nat.add_zero, Nat.add_sub_cancel, Option.toList, List.cons_append, List.nil_append, i46_49, i46_50, i46_51, i46_52, i46_53, i46_54, i46_55, hx3, c51 (h := h) (k := k) (hR := hR)]
def y_rs (I : m_I) (k q : Nat) : m_I := m_sc (m_sc (m_sc I k (c_rs3 (I k))) q (m_sc (I q) 2 (nI 0))) k (va_cpy (c_rs3 (I k)) (c_rs3 (I k)) 49 565 16)
theorem y46 (hh : h < t) (ho : m_ob h 3 = true) (hR : m_rv (R h 0) = .ref k) (hk : k < t) (hN : m_ar k 2 581 = true) (hR3 : m_rv (R h 3) = .ref q) (hq : q < t) (hqo : m_ob q 4 = true) (hkq : k ≠ q) : WPC V 46 [.ref h] m n ls st t I L R Q = WP V m n ls st t (y_rs I k q) L R Q := by
  refine wpc_of (v := none) (fun Q => ?_)
  rw [show m_loc 46 [.ref h] = [.ref h, m_u] from rfl]
  have hqk : q ≠ k := fun z => hkq z.symm
  simp (disch := first | assumption | omega | decide) only [nI_add, n_mul, n_sub, n_le, n_lt, n_eq, n_ne1, n_0, m_bl_t, m_bl_f, if_true, if_false, Nat.reduceAdd, Nat.reduceMul, Nat.reduceSub, Nat.reduceLeDiff, Nat.reduceEqDiff, Nat.add_zero, Nat.add_sub_cancel, Option.toList, List.cons_append, List.nil_append, i46_0, i46_1, i46_2, i46_3, i46_4, i46_5, i46_6, i46_7, i46_8, i46_9, i46_10, i46_11, i46_12, i46_13, i46_14, i46_15, i46_16, i46_17, i46_18, i46_19, i46_20, i46_21, i46_22, i46_23, i46_24, i46_25, i46_26, i46_27, i46_28, i46_29, i46_30, i46_31, i46_32, i46_33, i46_34, i46_35, i46_36, i46_37, i46_38, i46_39, i46_40, i46_41, i46_42, i46_43, i46_44, i46_45, rv_13_0, rv_1_0, hR, c197 (k := k) (N := 581), s_scc, m_sc_self]
  simp (disch := first | assumption | omega | decide) only [nI_add, n_mul, n_sub, n_le, n_lt, n_eq, n_ne1, n_0, m_bl_t, m_bl_f, if_true, if_false, Nat.reduceAdd, Nat.reduceMul, Nat.reduceSub, Nat.reduceLeDiff, Nat.reduceEqDiff, Nat.add_zero, Nat.add_sub_cancel, Option.toList, List.cons_append, List.nil_append, i46_46, i46_47]
  refine (w46_g hh ho hR hk hN (x := 0) (by omega)).trans ((w46_g hh ho hR hk hN (x := 1) (by omega)).trans ((w46_g hh ho hR hk hN (x := 2) (by omega)).trans ?_))
  have h3 : 3 ≤ 3 := Nat.le_refl _
  have eq : ∀ F : Nat → Int32, m_sc I k F q = I q := fun F => m_sc_ne hqk
  have ek : ∀ (K : m_I) (F : Nat → Int32), m_sc K q F k = K k := fun K F => m_sc_ne hkq
  have c47' : ∀ {K : m_I} {m n : Nat} {ls st : List Value} {Q : Option Value → Nat → m_I → m_L → m_R → Prop}, WPC V 47 [.ref h] m n ls st t K L R Q = WP V m n ls st t (m_sc K k (va_cpy (K k) (K k) 49 565 16)) L R Q := fun {K m n ls st Q} => by
    refine wpc_of (v := none) (fun Q => ?_)
    rw [show m_loc 47 [.ref h] = [.ref h] from rfl]
    simp (disch := first | assumption | omega | decide) only [nI_add, n_mul, n_sub, n_le, n_lt, n_eq, n_ne1, n_0, m_bl_t, m_bl_f, if_true, if_false, Nat.reduceAdd, Nat.reduceMul, Nat.reduceSub, Nat.reduceLeDiff, Nat.reduceEqDiff, Nat.add_zero, Nat.add_sub_cancel, Option.toList, List.cons_append, List.nil_append, i47_0, i47_1, i47_2, i47_3, i47_4, i47_5, i47_6, i47_7, i47_8, rv_13_0, rv_1_0, hR]
  rw [i46_48]
  simp (disch := first | assumption | omega | decide) only [nI_add, n_mul, n_sub, n_le, n_lt, n_eq, n_ne1, n_0, m_bl_t, m_bl_f, if_true, if_false, Nat.reduceAdd, Nat.reduceMul, Nat.reduceSub, Nat.reduceLeDiff, Nat.reduceEqDiff, Nat.add_zero, Nat.add_sub_cancel, Option.toList, List.cons_append, List.nil_append, i46_49, i46_50, i46_56, i46_57, i46_58, i46_59, i46_60, i46_61, rv_13_3, rv_1_3, h3, hR3, m_sc_self, s_scc, eq]
  simp (disch := first | assumption | omega | decide) only [nI_add, n_mul, n_sub, n_le, n_lt, n_eq, n_ne1, n_0, m_bl_t, m_bl_f, if_true, if_false, Nat.reduceAdd, Nat.reduceMul, Nat.reduceSub, Nat.reduceLeDiff, Nat.reduceEqDiff, Nat.add_zero, Nat.add_sub_cancel, Option.toList, List.cons_append, List.nil_append, i46_62, c47', ek, m_sc_self]
  rfl

theorem y43_a : ∃ I' L' R', (∀ (m n : Nat) (ls st : List Value) Q, WPC V 43 [.ref 1] m n ls st 2 I L R Q = WP V m n ls st 13 I' L' R' Q) ∧ (∀ k, k < 2 ∨ 13 ≤ k → I' k = I k) ∧ (∀ k, k < 2 ∨ 13 ≤ k → L' k = L k) ∧ (∀ k, k < 1 ∨ 13 ≤ k → R' k = R k) ∧ (I' 2 = va_cpy (c_rs3 y_z) (c_rs3 y_z) 49 565 16 ∧ I' 4 = y_z ∧ I' 5 = y_z ∧ I' 7 = x_fl y_z 6 (-1) ∧ I' 8 = y_z ∧ I' 10 2 = nI 0 ∧ I' 10 3 = nI 0 ∧ I' 11 = y_z ∧ L' 9 = y_zl) ∧ R' 1 = m_sc (m_sc (m_sc (m_sc (R 1) 0 (some 2)) 1 (some 3)) 2 (some 6)) 3 (some 10) ∧ R' 3 = m_sc (m_sc y_zn 0 (some 4)) 1 (some 5) ∧ R' 6 = m_sc (m_sc (m_sc y_zn 0 (some 7)) 1 (some 8)) 2 (some 9) ∧ R' 10 = m_sc (m_sc y_zn 0 (some 11)) 1 (some 12) ∧ (∀ k, 1 < k → k < 13 → k ≠ 3 → k ≠ 6 → k ≠ 10 → R' k = R k) := by
  refine ⟨?I, ?L, ?R, fun m n ls st Q => ?_, ?_⟩
  rotate_left
  rotate_left
  rotate_left
  · unfold WPC
    rw [show m_loc 43 [.ref 1] = [.ref 1] from rfl]
    simp (disch := first | assumption | omega | decide) only [nI_add, n_mul, n_sub, n_le, n_lt, n_eq, n_ne1, n_0, m_bl_t, m_bl_f, if_true, if_false, Nat.reduceAdd, Nat.reduceMul, Nat.reduceSub, Nat.reduceLeDiff, Nat.reduceEqDiff, Nat.add_zero, Nat.add_sub_cancel, Option.toList, List.cons_append, List.nil_append, i43_0, i43_1, i43_2, i43_3, i43_4, i43_5, i43_5n, i43_6, i43_7, i43_8, i43_9]
    unfold WPC
    rw [show m_loc 0 [.ref 3] = [.ref 3] from rfl]
    simp (disch := first | assumption | omega | decide) only [nI_add, n_mul, n_sub, n_le, n_lt, n_eq, n_ne1, n_0, m_bl_t, m_bl_f, if_true, if_false, Nat.reduceAdd, Nat.reduceMul, Nat.reduceSub, Nat.reduceLeDiff, Nat.reduceEqDiff, Nat.add_zero, Nat.add_sub_cancel, Option.toList, List.cons_append, List.nil_append, i0_0, i0_1, i0_2, i0_3, i0_4, i0_5, i0_5n, i0_6, i0_7, i0_8, i0_9, i0_9n, i0_10]
    simp (disch := first | assumption | omega | decide) only [nI_add, n_mul, n_sub, n_le, n_lt, n_eq, n_ne1, n_0, m_bl_t, m_bl_f, if_true, if_false, Nat.reduceAdd, Nat.reduceMul, Nat.reduceSub, Nat.reduceLeDiff, Nat.reduceEqDiff, Nat.add_zero, Nat.add_sub_cancel, Option.toList, List.cons_append, List.nil_append, i43_10, i43_10n, i43_11, i43_12, i43_13, i43_14, m_sc_ne]
    unfold WPC
    rw [show m_loc 63 [.ref 6] = [.ref 6] from rfl]
    simp (disch := first | assumption | omega | decide) only [nI_add, n_mul, n_sub, n_le, n_lt, n_eq, n_ne1, n_0, m_bl_t, m_bl_f, if_true, if_false, Nat.reduceAdd, Nat.reduceMul, Nat.reduceSub, Nat.reduceLeDiff, Nat.reduceEqDiff, Nat.add_zero, Nat.add_sub_cancel, Option.toList, List.cons_append, List.nil_append, i63_0, i63_1, i63_2, i63_3, i63_4, i63_5, i63_5n, i63_6, i63_7, i63_8, i63_9, i63_9n, i63_10, i63_11, i63_12, i63_13, i63_13n, i63_14, i63_15, rv_18_0, rv_6_0, m_sc_ne, m_sc_self, rv_s]
    have a7 : m_ar 7 2 6 = true := by decide
    have l7 : 7 < 10 := by decide
    have s6 : 6 < 2147483648 := by decide
    simp (disch := first | assumption | omega | decide) only [nI_add, n_mul, n_sub, n_le, n_lt, n_eq, n_ne1, n_0, m_bl_t, m_bl_f, if_true, if_false, Nat.reduceAdd, Nat.reduceMul, Nat.reduceSub, Nat.reduceLeDiff, Nat.reduceEqDiff, Nat.add_zero, Nat.add_sub_cancel, Option.toList, List.cons_append, List.nil_append, i63_16, i63_17, i63_18, y196 l7 a7 s6]
    simp (disch := first | assumption | omega | decide) only [nI_add, n_mul, n_sub, n_le, n_lt, n_eq, n_ne1, n_0, m_bl_t, m_bl_f, if_true, if_false, Nat.reduceAdd, Nat.reduceMul, Nat.reduceSub, Nat.reduceLeDiff, Nat.reduceEqDiff, Nat.add_zero, Nat.add_sub_cancel, Option.toList, List.cons_append, List.nil_append, i43_15, i43_15n, i43_16, i43_17, i43_18, i43_19, m_sc_ne]
    unfold WPC
    rw [show m_loc 53 [.ref 10] = [.ref 10] from rfl]
    simp (disch := first | assumption | omega | decide) only [nI_add, n_mul, n_sub, n_le, n_lt, n_eq, n_ne1, n_0, m_bl_t, m_bl_f, if_true, if_false, Nat.reduceAdd, Nat.reduceMul, Nat.reduceSub, Nat.reduceLeDiff, Nat.reduceEqDiff, Nat.add_zero, Nat.add_sub_cancel, Option.toList, List.cons_append, List.nil_append, i53_0, i53_1, i53_2, i53_3, i53_4, i53_5, i53_5n, i53_6, i53_7, i53_8, i53_9, i53_9n, i53_10, i53_11, i53_12, i53_13, i53_14, i53_15, i53_16, m_01_0, m_sc_ne]
    simp (disch := first | assumption | omega | decide) only [nI_add, n_mul, n_sub, n_le, n_lt, n_eq, n_ne1, n_0, m_bl_t, m_bl_f, if_true, if_false, Nat.reduceAdd, Nat.reduceMul, Nat.reduceSub, Nat.reduceLeDiff, Nat.reduceEqDiff, Nat.add_zero, Nat.add_sub_cancel, Option.toList, List.cons_append, List.nil_append, i43_20, i43_20n, i43_21, m_sc_ne]
    rw [i43_22 (by decide) (by decide), y46 (k := 2) (q := 10) (by decide) (by decide) rfl (by decide) (by decide) rfl (by decide) (by decide) (by decide)]
    simp (disch := first | assumption | omega | decide) only [nI_add, n_mul, n_sub, n_le, n_lt, n_eq, n_ne1, n_0, m_bl_t, m_bl_f, if_true, if_false, Nat.reduceAdd, Nat.reduceMul, Nat.reduceSub, Nat.reduceLeDiff, Nat.reduceEqDiff, Nat.add_zero, Nat.add_sub_cancel, Option.toList, List.cons_append, List.nil_append, i43_23]
    rfl
  · unfold y_rs
    refine ⟨fun k hk => ?_, fun k hk => ?_, fun k hk => ?_, ⟨?_, ?_, ?_, ?_, ?_, ?_, ?_, ?_, ?_⟩, ?_, ?_, ?_, ?_, fun k k1 k2 k3 k4 k5 => ?_⟩
    all_goals first | (simp (disch := omega) only [m_sc_ne, m_sc_self]; done) | (simp (disch := omega) only [m_sc_ne, m_sc_self]; rfl) | rfl

theorem y43_b : ∃ I' L' R', (∀ (m n : Nat) (ls st : List Value) Q, WPC V 43 [.ref 13] m n ls st 14 I L R Q = WP V m n ls st 25 I' L' R' Q) ∧ (∀ k, k < 14 ∨ 25 ≤ k → I' k = I k) ∧ (∀ k, k < 14 ∨ 25 ≤ k → L' k = L k) ∧ (∀ k, k < 13 ∨ 25 ≤ k → R' k = R k) ∧ (I' 14 = va_cpy (c_rs3 y_z) (c_rs3 y_z) 49 565 16 ∧ I' 16 = y_z ∧ I' 17 = y_z ∧ I' 19 = x_fl y_z 6 (-1) ∧ I' 20 = y_z ∧ I' 22 2 = nI 0 ∧ I' 22 3 = nI 0 ∧ I' 23 = y_z ∧ L' 21 = y_zl) ∧ R' 13 = m_sc (m_sc (m_sc (m_sc (R 13) 0 (some 14)) 1 (some 15)) 2 (some 18)) 3 (some 22) ∧ R' 15 = m_sc (m_sc y_zn 0 (some 16)) 1 (some 17) ∧ R' 18 = m_sc (m_sc (m_sc y_zn 0 (some 19)) 1 (some 20)) 2 (some 21) ∧ R' 22 = m_sc (m_sc y_zn 0 (some 23)) 1 (some 24) ∧ (∀ k, 13 < k → k < 25 → k ≠ 15 → k ≠ 18 → k ≠ 22 → R' k = R k) := by
  refine ⟨?I, ?L, ?R, fun m n ls st Q => ?_, ?_⟩
  rotate_left
  rotate_left
  rotate_left
  · unfold WPC
    rw [show m_loc 43 [.ref 13] = [.ref 13] from rfl]
    simp (disch := first | assumption | omega | decide) only [nI_add, n_mul, n_sub, n_le, n_lt, n_eq, n_ne1, n_0, m_bl_t, m_bl_f, if_true, if_false, Nat.reduceAdd, Nat.reduceMul, Nat.reduceSub, Nat.reduceLeDiff, Nat.reduceEqDiff, Nat.add_zero, Nat.add_sub_cancel, Option.toList, List.cons_append, List.nil_append, i43_0, i43_1, i43_2, i43_3, i43_4, i43_5, i43_5n, i43_6, i43_7, i43_8, i43_9]
    unfold WPC
    rw [show m_loc 0 [.ref 15] = [.ref 15] from rfl]
    simp (disch := first | assumption | omega | decide) only [nI_add, n_mul, n_sub, n_le, n_lt, n_eq, n_ne1, n_0, m_bl_t, m_bl_f, if_true, if_false, Nat.reduceAdd, Nat.reduceMul, Nat.reduceSub, Nat.reduceLeDiff, Nat.reduceEqDiff, Nat.add_zero, Nat.add_sub_cancel, Option.toList, List.cons_append, List.nil_append, i0_0, i0_1, i0_2, i0_3, i0_4, i0_5, i0_5n, i0_6, i0_7, i0_8, i0_9, i0_9n, i0_10]
    simp (disch := first | assumption | omega | decide) only [nI_add, n_mul, n_sub, n_le, n_lt, n_eq, n_ne1, n_0, m_bl_t, m_bl_f, if_true, if_false, Nat.reduceAdd, Nat.reduceMul, Nat.reduceSub, Nat.reduceLeDiff, Nat.reduceEqDiff, Nat.add_zero, Nat.add_sub_cancel, Option.toList, List.cons_append, List.nil_append, i43_10, i43_10n, i43_11, i43_12, i43_13, i43_14, m_sc_ne]
    unfold WPC
    rw [show m_loc 63 [.ref 18] = [.ref 18] from rfl]
    simp (disch := first | assumption | omega | decide) only [nI_add, n_mul, n_sub, n_le, n_lt, n_eq, n_ne1, n_0, m_bl_t, m_bl_f, if_true, if_false, Nat.reduceAdd, Nat.reduceMul, Nat.reduceSub, Nat.reduceLeDiff, Nat.reduceEqDiff, Nat.add_zero, Nat.add_sub_cancel, Option.toList, List.cons_append, List.nil_append, i63_0, i63_1, i63_2, i63_3, i63_4, i63_5, i63_5n, i63_6, i63_7, i63_8, i63_9, i63_9n, i63_10, i63_11, i63_12, i63_13, i63_13n, i63_14, i63_15, rv_18_0, rv_6_0, m_sc_ne, m_sc_self, rv_s]
    have a7 : m_ar 19 2 6 = true := by decide
    have l7 : 19 < 22 := by decide
    have s6 : 6 < 2147483648 := by decide
    simp (disch := first | assumption | omega | decide) only [nI_add, n_mul, n_sub, n_le, n_lt, n_eq, n_ne1, n_0, m_bl_t, m_bl_f, if_true, if_false, Nat.reduceAdd, Nat.reduceMul, Nat.reduceSub, Nat.reduceLeDiff, Nat.reduceEqDiff, Nat.add_zero, Nat.add_sub_cancel, Option.toList, List.cons_append, List.nil_append, i63_16, i63_17, i63_18, y196 l7 a7 s6]
    simp (disch := first | assumption | omega | decide) only [nI_add, n_mul, n_sub, n_le, n_lt, n_eq, n_ne1, n_0, m_bl_t, m_bl_f, if_true, if_false, Nat.reduceAdd, Nat.reduceMul, Nat.reduceSub, Nat.reduceLeDiff, Nat.reduceEqDiff, Nat.add_zero, Nat.add_sub_cancel, Option.toList, List.cons_append, List.nil_append, i43_15, i43_15n, i43_16, i43_17, i43_18, i43_19, m_sc_ne]
    unfold WPC
    rw [show m_loc 53 [.ref 22] = [.ref 22] from rfl]
    simp (disch := first | assumption | omega | decide) only [nI_add, n_mul, n_sub, n_le, n_lt, n_eq, n_ne1, n_0, m_bl_t, m_bl_f, if_true, if_false, Nat.reduceAdd, Nat.reduceMul, Nat.reduceSub, Nat.reduceLeDiff, Nat.reduceEqDiff, Nat.add_zero, Nat.add_sub_cancel, Option.toList, List.cons_append, List.nil_append, i53_0, i53_1, i53_2, i53_3, i53_4, i53_5, i53_5n, i53_6, i53_7, i53_8, i53_9, i53_9n, i53_10, i53_11, i53_12, i53_13, i53_14, i53_15, i53_16, m_01_0, m_sc_ne]
    simp (disch := first | assumption | omega | decide) only [nI_add, n_mul, n_sub, n_le, n_lt, n_eq, n_ne1, n_0, m_bl_t, m_bl_f, if_true, if_false, Nat.reduceAdd, Nat.reduceMul, Nat.reduceSub, Nat.reduceLeDiff, Nat.reduceEqDiff, Nat.add_zero, Nat.add_sub_cancel, Option.toList, List.cons_append, List.nil_append, i43_20, i43_20n, i43_21, m_sc_ne]
    rw [i43_22 (by decide) (by decide), y46 (k := 14) (q := 22) (by decide) (by decide) rfl (by decide) (by decide) rfl (by decide) (by decide) (by decide)]
    simp (disch := first | assumption | omega | decide) only [nI_add, n_mul, n_sub, n_le, n_lt, n_eq, n_ne1, n_0, m_bl_t, m_bl_f, if_true, if_false, Nat.reduceAdd, Nat.reduceMul, Nat.reduceSub, Nat.reduceLeDiff, Nat.reduceEqDiff, Nat.add_zero, Nat.add_sub_cancel, Option.toList, List.cons_append, List.nil_append, i43_23]
    rfl
  · unfold y_rs
    refine ⟨fun k hk => ?_, fun k hk => ?_, fun k hk => ?_, ⟨?_, ?_, ?_, ?_, ?_, ?_, ?_, ?_, ?_⟩, ?_, ?_, ?_, ?_, fun k k1 k2 k3 k4 k5 => ?_⟩
    all_goals first | (simp (disch := omega) only [m_sc_ne, m_sc_self]; done) | (simp (disch := omega) only [m_sc_ne, m_sc_self]; rfl) | rfl
theorem y_tb0 : m_sc (m_sc (m_sc (m_sc y_zn 0 (some 1)) 1 (some 13)) 2 (some 25)) 4 none = m_RR none 28 48 0 := by
  funext j
  match j with
  | 0 | 1 | 2 | 3 | 4 | 5 => rfl
  | j + 6 =>
    rw [m_sc_ne (by omega), m_sc_ne (by omega), m_sc_ne (by omega), m_sc_ne (by omega)]
    rfl
theorem y_tb1 : m_sc (m_sc (m_sc (m_sc y_zn 0 (some 2)) 1 (some 3)) 2 (some 6)) 3 (some 10) = m_RR none 28 48 1 := by
  funext j
  match j with
  | 0 | 1 | 2 | 3 => rfl
  | j + 4 =>
    rw [m_sc_ne (by omega), m_sc_ne (by omega), m_sc_ne (by omega), m_sc_ne (by omega)]
    rfl
theorem y_tb3 : m_sc (m_sc y_zn 0 (some 4)) 1 (some 5) = m_RR none 28 48 3 := by
  funext j
  match j with
  | 0 | 1 => rfl
  | j + 2 =>
    rw [m_sc_ne (by omega), m_sc_ne (by omega)]
    rfl
theorem y_tb6 : m_sc (m_sc (m_sc y_zn 0 (some 7)) 1 (some 8)) 2 (some 9) = m_RR none 28 48 6 := by
  funext j
  match j with
  | 0 | 1 | 2 => rfl
  | j + 3 =>
    rw [m_sc_ne (by omega), m_sc_ne (by omega), m_sc_ne (by omega)]
    rfl
theorem y_tb10 : m_sc (m_sc y_zn 0 (some 11)) 1 (some 12) = m_RR none 28 48 10 := by
  funext j
  match j with
  | 0 | 1 | 2 | 3 => rfl
  | j + 4 =>
    rw [m_sc_ne (by omega), m_sc_ne (by omega)]
    rfl
theorem y_tb13 : m_sc (m_sc (m_sc (m_sc y_zn 0 (some 14)) 1 (some 15)) 2 (some 18)) 3 (some 22) = m_RR none 28 48 13 := by
  funext j
  match j with
  | 0 | 1 | 2 | 3 => rfl
  | j + 4 =>
    rw [m_sc_ne (by omega), m_sc_ne (by omega), m_sc_ne (by omega), m_sc_ne (by omega)]
    rfl
theorem y_tb15 : m_sc (m_sc y_zn 0 (some 16)) 1 (some 17) = m_RR none 28 48 15 := by
  funext j
  match j with
  | 0 | 1 => rfl
  | j + 2 =>
    rw [m_sc_ne (by omega), m_sc_ne (by omega)]
    rfl
theorem y_tb18 : m_sc (m_sc (m_sc y_zn 0 (some 19)) 1 (some 20)) 2 (some 21) = m_RR none 28 48 18 := by
  funext j
  match j with
  | 0 | 1 | 2 => rfl
  | j + 3 =>
    rw [m_sc_ne (by omega), m_sc_ne (by omega), m_sc_ne (by omega)]
    rfl
theorem y_tb22 : m_sc (m_sc y_zn 0 (some 23)) 1 (some 24) = m_RR none 28 48 22 := by
  funext j
  match j with
  | 0 | 1 | 2 | 3 => rfl
  | j + 4 =>
    rw [m_sc_ne (by omega), m_sc_ne (by omega)]
    rfl
theorem y_tb25 : m_sc (m_sc (m_sc y_zn 0 (some 1)) 1 (some 2)) 2 (some 26) = m_RR none 28 48 25 := by
  funext j
  match j with
  | 0 | 1 | 2 => rfl
  | j + 3 =>
    rw [m_sc_ne (by omega), m_sc_ne (by omega), m_sc_ne (by omega)]
    rfl
theorem y_tb26 : m_sc (m_sc y_zn 0 (some 1)) 1 (some 2) = m_RR none 28 48 26 := by
  funext j
  match j with
  | 0 | 1 | 2 | 3 => rfl
  | j + 4 =>
    rw [m_sc_ne (by omega), m_sc_ne (by omega)]
    rfl
theorem y_tbn {k : Nat} (h : k = 2 ∨ k = 4 ∨ k = 5 ∨ k = 7 ∨ k = 8 ∨ k = 9 ∨ k = 11 ∨ k = 12 ∨ k = 14 ∨ k = 16 ∨ k = 17 ∨ k = 19 ∨ k = 20 ∨ k = 21 ∨ k = 23 ∨ k = 24) : y_zn = m_RR none 28 48 k := by
  rcases h with rfl | rfl | rfl | rfl | rfl | rfl | rfl | rfl | rfl | rfl | rfl | rfl | rfl | rfl | rfl | rfl <;> rfl
set_option maxRecDepth 20000 in
theorem y85 (hI : I 0 = y_z) (hR : ∀ k, k < 55 → R k = y_zn) : ∃ I' L' R', (∀ (m n : Nat) (ls st : List Value) Q, WPC V 85 [.ref 0] m n ls st 1 I L R Q = WP V m n ls st 27 I' L' R' Q) ∧ (∀ k, 27 ≤ k → I' k = I k) ∧ (∀ k, 27 ≤ k → L' k = L k) ∧ (∀ k, 27 ≤ k → R' k = R k) ∧ (∀ k, k < 27 → R' k = m_RR none 28 48 k) ∧ I' 0 = m_sc (m_sc y_z 3 (nI 0)) 5 (nI 4000) ∧ I' 2 = va_cpy (c_rs3 y_z) (c_rs3 y_z) 49 565 16 ∧ I' 4 = y_z ∧ I' 5 = y_z ∧ I' 7 = x_fl y_z 6 (-1) ∧ I' 8 = y_z ∧ I' 10 2 = nI 0 ∧ I' 10 3 = nI 0 ∧ I' 11 = y_z ∧ L' 9 = y_zl ∧ I' 22 3 = nI 0 := by
  obtain ⟨I1, L1, R1, a1, a2, a3, a4, ⟨b1, b2, b3, b4, b5, b6, b7, b8, b9⟩, c1, c2, c3, c4, c5⟩ := y43_a (V := V) (I := m_sc I 1 (fun _ => nI 0)) (L := L) (R := m_sc R 1 (fun _ => none))
  obtain ⟨R1', hR1'⟩ : ∃ X, X = m_sc R1 0 (m_sc (R1 0) 0 (some 1)) := ⟨_, rfl⟩
  obtain ⟨I2, L2, R2, d1, d2, d3, d4, ⟨e1, e2, e3, e4, e5, e6, e7, e8, e9⟩, f1, f2, f3, f4, f5⟩ := y43_b (V := V) (I := m_sc I1 13 (fun _ => nI 0)) (L := L1) (R := m_sc R1' 13 (fun _ => none))
  have r10 : R1 0 = y_zn := by rw [a4 0 (by omega), m_sc_ne (by omega)]; exact hR 0 (by omega)
  have r20 : R2 0 = m_sc y_zn 0 (some 1) := by rw [d4 0 (by omega), m_sc_ne (by omega), hR1', m_sc_self, r10]
  have r21 : R2 1 = m_sc (m_sc (m_sc (m_sc y_zn 0 (some 2)) 1 (some 3)) 2 (some 6)) 3 (some 10) := by
    rw [d4 1 (by omega), m_sc_ne (by omega), hR1', m_sc_ne (by omega), c1, m_sc_self]
    rfl
  have r210 : R2 1 0 = some 2 := by rw [r21]; rfl
  refine ⟨?I, ?L, ?R, fun m n ls st Q => ?_, ?_⟩
  rotate_left
  rotate_left
  rotate_left
  · unfold WPC
    rw [show m_loc 85 [.ref 0] = [.ref 0] from rfl]
    simp (disch := first | assumption | omega | decide) only [nI_add, n_mul, n_sub, n_le, n_lt, n_eq, n_ne1, n_0, m_bl_t, m_bl_f, if_true, if_false, Nat.reduceAdd, Nat.reduceMul, Nat.reduceSub, Nat.reduceLeDiff, Nat.reduceEqDiff, Nat.add_zero, Nat.add_sub_cancel, Option.toList, List.cons_append, List.nil_append, i85_0, i85_1, i85_2, i85_3, i85_4, i85_5, a1]
    simp (disch := first | assumption | omega | decide) only [nI_add, n_mul, n_sub, n_le, n_lt, n_eq, n_ne1, n_0, m_bl_t, m_bl_f, if_true, if_false, Nat.reduceAdd, Nat.reduceMul, Nat.reduceSub, Nat.reduceLeDiff, Nat.reduceEqDiff, Nat.add_zero, Nat.add_sub_cancel, Option.toList, List.cons_append, List.nil_append, i85_6, i85_6n]
    rw [← hR1']
    simp (disch := first | assumption | omega | decide) only [nI_add, n_mul, n_sub, n_le, n_lt, n_eq, n_ne1, n_0, m_bl_t, m_bl_f, if_true, if_false, Nat.reduceAdd, Nat.reduceMul, Nat.reduceSub, Nat.reduceLeDiff, Nat.reduceEqDiff, Nat.add_zero, Nat.add_sub_cancel, Option.toList, List.cons_append, List.nil_append, i85_7, i85_8, i85_9, i85_10, i85_11, i85_11n, d1]
    simp (disch := first | assumption | omega | decide) only [nI_add, n_mul, n_sub, n_le, n_lt, n_eq, n_ne1, n_0, m_bl_t, m_bl_f, if_true, if_false, Nat.reduceAdd, Nat.reduceMul, Nat.reduceSub, Nat.reduceLeDiff, Nat.reduceEqDiff, Nat.add_zero, Nat.add_sub_cancel, Option.toList, List.cons_append, List.nil_append, i85_12, i85_13, i85_14, i85_15, i85_16, rv_0_0, r20, m_sc_ne, m_sc_self, rv_s]
    simp (disch := first | assumption | omega | decide) only [nI_add, n_mul, n_sub, n_le, n_lt, n_eq, n_ne1, n_0, m_bl_t, m_bl_f, if_true, if_false, Nat.reduceAdd, Nat.reduceMul, Nat.reduceSub, Nat.reduceLeDiff, Nat.reduceEqDiff, Nat.add_zero, Nat.add_sub_cancel, Option.toList, List.cons_append, List.nil_append, i85_17, show m_rv (some 1) = .ref 1 from rfl]
    unfold WPC
    rw [show m_loc 69 [.ref 25, .ref 1] = [.ref 25, .ref 1] from rfl]
    simp (disch := first | assumption | omega | decide) only [nI_add, n_mul, n_sub, n_le, n_lt, n_eq, n_ne1, n_0, m_bl_t, m_bl_f, if_true, if_false, Nat.reduceAdd, Nat.reduceMul, Nat.reduceSub, Nat.reduceLeDiff, Nat.reduceEqDiff, Nat.add_zero, Nat.add_sub_cancel, Option.toList, List.cons_append, List.nil_append, i69_0, i69_1, i69_2, i69_3, i69_4, i69_4n, i69_5, i69_6, i69_7, i69_8, i69_8n, i69_9, i69_10, i69_11, i69_12, i69_13, rv_13_0, rv_1_0, r210, m_sc_ne, m_sc_self, s_scc, rv_s]
    unfold WPC
    rw [show m_loc 7 [.ref 26, .ref 1] = [.ref 26, .ref 1] from rfl]
    simp (disch := first | assumption | omega | decide) only [nI_add, n_mul, n_sub, n_le, n_lt, n_eq, n_ne1, n_0, m_bl_t, m_bl_f, if_true, if_false, Nat.reduceAdd, Nat.reduceMul, Nat.reduceSub, Nat.reduceLeDiff, Nat.reduceEqDiff, Nat.add_zero, Nat.add_sub_cancel, Option.toList, List.cons_append, List.nil_append, i7_0, i7_1, i7_2, i7_3, i7_4, i7_5, i7_6, i7_7, i7_8, i7_9, i7_10, i7_10n, i7_11, i7_12, i7_13, i7_14, i7_14n, i7_15, rv_13_0, rv_1_0, r210, m_sc_ne, m_sc_self, s_scc, rv_s]
    simp (disch := first | assumption | omega | decide) only [nI_add, n_mul, n_sub, n_le, n_lt, n_eq, n_ne1, n_0, m_bl_t, m_bl_f, if_true, if_false, Nat.reduceAdd, Nat.reduceMul, Nat.reduceSub, Nat.reduceLeDiff, Nat.reduceEqDiff, Nat.add_zero, Nat.add_sub_cancel, Option.toList, List.cons_append, List.nil_append, i69_14, i69_14n, i69_15, m_sc_ne, m_sc_self, s_scc]
    simp (disch := first | assumption | omega | decide) only [nI_add, n_mul, n_sub, n_le, n_lt, n_eq, n_ne1, n_0, m_bl_t, m_bl_f, if_true, if_false, Nat.reduceAdd, Nat.reduceMul, Nat.reduceSub, Nat.reduceLeDiff, Nat.reduceEqDiff, Nat.add_zero, Nat.add_sub_cancel, Option.toList, List.cons_append, List.nil_append, i85_18, i85_18n, i85_19, i85_20, i85_21, i85_22, i85_23, i85_24, i85_24n, i85_25, i85_26, i85_27, i85_28, m_01_0, m_sc_ne, m_sc_self, s_scc]
    rfl
  · have iR : ∀ k, k < 13 → k ≠ 0 → R2 k = R1 k := fun k hk h0 => by rw [d4 k (by omega), m_sc_ne (by omega), hR1', m_sc_ne h0]
    have iS : ∀ k, k < 13 → k ≠ 0 → k ≠ 1 → k ≠ 3 → k ≠ 6 → k ≠ 10 → R2 k = y_zn := fun k hk h0 h1 h3 h6 h10 => by rw [iR k hk h0, c5 k (by omega) (by omega) h3 h6 h10, m_sc_ne h1]; exact hR k (by omega)
    have iT : ∀ k, 13 < k → k < 25 → k ≠ 15 → k ≠ 18 → k ≠ 22 → R2 k = y_zn := fun k h1 h2 h3 h4 h5 => by rw [f5 k h1 h2 h3 h4 h5, m_sc_ne (by omega), hR1', m_sc_ne (by omega), a4 k (by omega), m_sc_ne (by omega)]; exact hR k (by omega)
    have iI : ∀ k, k < 13 → I2 k = I1 k := fun k hk => by rw [d2 k (by omega), m_sc_ne (by omega)]
    have q13 : R2 13 = m_RR none 28 48 13 := by rw [f1, m_sc_self]; exact y_tb13
    refine ⟨fun k hk => ?_, fun k hk => ?_, fun k hk => ?_, fun k hk => ?_, ?_, ?_, ?_, ?_, ?_, ?_, ?_, ?_, ?_, ?_, ?_⟩
    · simp (disch := omega) only [m_sc_ne]
      rw [d2 k (by omega), m_sc_ne (by omega), a2 k (by omega), m_sc_ne (by omega)]
    · rw [d3 k (by omega), a3 k (by omega)]
    · simp (disch := omega) only [m_sc_ne]
      rw [d4 k (by omega), m_sc_ne (by omega), hR1', m_sc_ne (by omega), a4 k (by omega), m_sc_ne (by omega)]
    · obtain rfl | rfl | rfl | rfl | rfl | rfl | rfl | rfl | rfl | rfl | rfl | hk2 : k = 0 ∨ k = 1 ∨ k = 3 ∨ k = 6 ∨ k = 10 ∨ k = 13 ∨ k = 15 ∨ k = 18 ∨ k = 22 ∨ k = 25 ∨ k = 26 ∨ (k = 2 ∨ k = 4 ∨ k = 5 ∨ k = 7 ∨ k = 8 ∨ k = 9 ∨ k = 11 ∨ k = 12 ∨ k = 14 ∨ k = 16 ∨ k = 17 ∨ k = 19 ∨ k = 20 ∨ k = 21 ∨ k = 23 ∨ k = 24) := by omega
      · simp (disch := omega) only [m_sc_ne, m_sc_self, r20]
        exact y_tb0
      · simp (disch := omega) only [m_sc_ne, r21]
        exact y_tb1
      · simp (disch := omega) only [m_sc_ne]
        rw [iR 3 (by omega) (by omega), c2]; exact y_tb3
      · simp (disch := omega) only [m_sc_ne]
        rw [iR 6 (by omega) (by omega), c3]; exact y_tb6
      · simp (disch := omega) only [m_sc_ne]
        rw [iR 10 (by omega) (by omega), c4]; exact y_tb10
      · simp (disch := omega) only [m_sc_ne]
        exact q13
      · simp (disch := omega) only [m_sc_ne]
        rw [f2]; exact y_tb15
      · simp (disch := omega) only [m_sc_ne]
        rw [f3]; exact y_tb18
      · simp (disch := omega) only [m_sc_ne]
        rw [f4]; exact y_tb22
      · simp (disch := omega) only [m_sc_ne, m_sc_self]
        exact y_tb25
      · simp (disch := omega) only [m_sc_ne, m_sc_self]
        exact y_tb26
      · rw [← y_tbn hk2]
        simp (disch := omega) only [m_sc_ne]
        by_cases q : k < 13
        · exact iS k q (by omega) (by omega) (by omega) (by omega) (by omega)
        · exact iT k (by omega) (by omega) (by omega) (by omega) (by omega)
    · simp (disch := omega) only [m_sc_ne, m_sc_self]
      rw [iI 0 (by omega), a2 0 (by omega), m_sc_ne (by omega), hI]
    · simp (disch := omega) only [m_sc_ne]
      rw [iI 2 (by omega), b1]
    · simp (disch := omega) only [m_sc_ne]
      rw [iI 4 (by omega), b2]
    · simp (disch := omega) only [m_sc_ne]
      rw [iI 5 (by omega), b3]
    · simp (disch := omega) only [m_sc_ne]
      rw [iI 7 (by omega), b4]
    · simp (disch := omega) only [m_sc_ne]
      rw [iI 8 (by omega), b5]
    · simp (disch := omega) only [m_sc_ne]
      rw [iI 10 (by omega), b6]
    · simp (disch := omega) only [m_sc_ne]
      rw [iI 10 (by omega), b7]
    · simp (disch := omega) only [m_sc_ne]
      rw [iI 11 (by omega), b8]
    · rw [d3 9 (by omega), b9]
    · simp (disch := omega) only [m_sc_ne]
      exact e7
end RCA
