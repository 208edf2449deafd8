/-! check: the class's code -/
section RZU
variable {V : m_V} {m n : Nat} {ls st : List Value} {t N M : Nat} {I I' : m_I} {R : m_R} {L L' : m_L} {e : Option Nat} {a b u x i s : Nat} {Q : Option Value → Nat → m_I → m_L → m_R → Prop}
/-- the first cell of a row that stands otherwise -/
def k_fu (A C : Nat → Int32) (off : Nat) : Nat → Nat → Option Nat
  | 0, _ => none
  | c + 1, x => if A (off + x) = -1 then k_fu A C off c (x + 1) else if A (off + x) = C x ∧ A (off + 8 + x) = C (8 + x) then k_fu A C off c (x + 1) else some x
def k_un : Option Nat → Int32
  | none => -1
  | some x => nI x
/-- a row is written -/
def k_wr1 (A : Nat → Int32) (off x : Nat) (C : Nat → Int32) : Nat → Int32 := if A (off + x) = -1 then C else m_sc (m_sc C x (A (off + x))) (8 + x) (A (off + 8 + x))
def k_wr (A : Nat → Int32) (off : Nat) (C : Nat → Int32) : Nat → Nat → Int32
  | 0 => C
  | x + 1 => k_wr1 A off x (k_wr A off C x)
theorem w60_2 (ht : 55 ≤ t) {k N0 off : Nat} (hk : m_ar k 2 N0 = true) (hN0 : N0 < 2 ^ 31) (hkt : k < t) (ho : off + 16 ≤ N0) : ∀ c x, x + c = 8 → WP V 60 2 [.ref 10, .ref k, .int (nI off), .int (nI x)] [] t I L (m_RR e a b) Q = Q (some (.int (k_un (k_fu (I k) (I 12) off c x)))) t I L (m_RR e a b) := by
  intro c
  induction c with
  | zero =>
    intro x hx
    obtain rfl : x = 8 := by omega
    have h8 : 8 ≤ 8 := Nat.le_refl _
    rw [i60_2]
    simp (disch := first | assumption | omega | decide) only [nI_add, n_mul, n_sub, n_le, n_lt, n_eq, n_ne1, n_0, m_bl_t, m_bl_f, if_true, if_false, Nat.reduceAdd, Nat.reduceMul, Nat.reduceSub, Nat.reduceLeDiff, Nat.reduceEqDiff, Nat.add_zero, Nat.add_sub_cancel, Option.toList, List.cons_append, List.nil_append, i60_3, i60_4, i60_41, i60_42, h8]
    rfl
  | succ c ih =>
    intro x hx
    have hx8 : ¬ 8 ≤ x := by omega
    have hj1 : off + x < N0 := by omega
    have hj2 : off + 8 + x < N0 := by omega
    rw [show k_fu (I k) (I 12) off (c + 1) x = if I k (off + x) = -1 then k_fu (I k) (I 12) off c (x + 1) else if I k (off + x) = I 12 x ∧ I k (off + 8 + x) = I 12 (8 + x) then k_fu (I k) (I 12) off c (x + 1) else some x from rfl]
    rw [i60_2]
    by_cases h0 : I k (off + x) = -1
    · rw [if_pos h0]
      simp (disch := first | assumption | omega | decide) only [nI_add, n_mul, n_sub, n_le, n_lt, n_eq, n_ne1, n_0, m_bl_t, m_bl_f, if_true, if_false, Nat.reduceAdd, Nat.reduceMul, Nat.reduceSub, Nat.reduceLeDiff, Nat.reduceEqDiff, Nat.add_zero, Nat.add_sub_cancel, Option.toList, List.cons_append, List.nil_append, i60_3, i60_4, i60_5, i60_6, i60_7, i60_8, i60_9 (N := N0), i60_10, i60_11, i60_12, i60_39, i60_40, hx8, h0]
      exact ih (x + 1) (by omega)
    · rw [if_neg h0]
      by_cases h1 : I k (off + x) = I 12 x
      · by_cases h2 : I k (off + 8 + x) = I 12 (8 + x)
        · rw [if_pos ⟨h1, h2⟩]
          simp (disch := first | assumption | omega | decide) only [nI_add, n_mul, n_sub, n_le, n_lt, n_eq, n_ne1, n_0, m_bl_t, m_bl_f, if_true, if_false, Nat.reduceAdd, Nat.reduceMul, Nat.reduceSub, Nat.reduceLeDiff, Nat.reduceEqDiff, Nat.add_zero, Nat.add_sub_cancel, Option.toList, List.cons_append, List.nil_append, i60_3, i60_4, i60_5, i60_6, i60_7, i60_8, i60_9 (N := N0), i60_10, i60_11, i60_12, i60_13, i60_14, i60_15, i60_16, i60_17 (N := N0), i60_18, i60_19, i60_20, i60_21, i60_22, rv_10_1, rv_22_1, hx8, h0]
          rw [if_pos h1]
          simp (disch := first | assumption | omega | decide) only [nI_add, n_mul, n_sub, n_le, n_lt, n_eq, n_ne1, n_0, m_bl_t, m_bl_f, if_true, if_false, Nat.reduceAdd, Nat.reduceMul, Nat.reduceSub, Nat.reduceLeDiff, Nat.reduceEqDiff, Nat.add_zero, Nat.add_sub_cancel, Option.toList, List.cons_append, List.nil_append, i60_23, i60_24, i60_25, i60_26, i60_27, i60_28, i60_29 (N := N0), i60_30, i60_31, i60_32, i60_33, i60_34, i60_35, i60_36, rv_10_1, rv_22_1]
          rw [if_pos h2]
          simp (disch := first | assumption | omega | decide) only [nI_add, n_mul, n_sub, n_le, n_lt, n_eq, n_ne1, n_0, m_bl_t, m_bl_f, if_true, if_false, Nat.reduceAdd, Nat.reduceMul, Nat.reduceSub, Nat.reduceLeDiff, Nat.reduceEqDiff, Nat.add_zero, Nat.add_sub_cancel, Option.toList, List.cons_append, List.nil_append, i60_39, i60_40]
          exact ih (x + 1) (by omega)
        · rw [if_neg (fun q => h2 q.2)]
          simp (disch := first | assumption | omega | decide) only [nI_add, n_mul, n_sub, n_le, n_lt, n_eq, n_ne1, n_0, m_bl_t, m_bl_f, if_true, if_false, Nat.reduceAdd, Nat.reduceMul, Nat.reduceSub, Nat.reduceLeDiff, Nat.reduceEqDiff, Nat.add_zero, Nat.add_sub_cancel, Option.toList, List.cons_append, List.nil_append, i60_3, i60_4, i60_5, i60_6, i60_7, i60_8, i60_9 (N := N0), i60_10, i60_11, i60_12, i60_13, i60_14, i60_15, i60_16, i60_17 (N := N0), i60_18, i60_19, i60_20, i60_21, i60_22, rv_10_1, rv_22_1, hx8, h0]
          rw [if_pos h1]
          simp (disch := first | assumption | omega | decide) only [nI_add, n_mul, n_sub, n_le, n_lt, n_eq, n_ne1, n_0, m_bl_t, m_bl_f, if_true, if_false, Nat.reduceAdd, Nat.reduceMul, Nat.reduceSub, Nat.reduceLeDiff, Nat.reduceEqDiff, Nat.add_zero, Nat.add_sub_cancel, Option.toList, List.cons_append, List.nil_append, i60_23, i60_24, i60_25, i60_26, i60_27, i60_28, i60_29 (N := N0), i60_30, i60_31, i60_32, i60_33, i60_34, i60_35, i60_36, rv_10_1, rv_22_1]
          rw [if_neg h2]
          simp (disch := first | assumption | omega | decide) only [nI_add, n_mul, n_sub, n_le, n_lt, n_eq, n_ne1, n_0, m_bl_t, m_bl_f, if_true, if_false, Nat.reduceAdd, Nat.reduceMul, Nat.reduceSub, Nat.reduceLeDiff, Nat.reduceEqDiff, Nat.add_zero, Nat.add_sub_cancel, Option.toList, List.cons_append, List.nil_append, i60_37, i60_38]
          rfl
      · rw [if_neg (fun q => h1 q.1)]
        simp (disch := first | assumption | omega | decide) only [nI_add, n_mul, n_sub, n_le, n_lt, n_eq, n_ne1, n_0, m_bl_t, m_bl_f, if_true, if_false, Nat.reduceAdd, Nat.reduceMul, Nat.reduceSub, Nat.reduceLeDiff, Nat.reduceEqDiff, Nat.add_zero, Nat.add_sub_cancel, Option.toList, List.cons_append, List.nil_append, i60_3, i60_4, i60_5, i60_6, i60_7, i60_8, i60_9 (N := N0), i60_10, i60_11, i60_12, i60_13, i60_14, i60_15, i60_16, i60_17 (N := N0), i60_18, i60_19, i60_20, i60_21, i60_22, rv_10_1, rv_22_1, hx8, h0]
        rw [if_neg h1]
        simp (disch := first | assumption | omega | decide) only [nI_add, n_mul, n_sub, n_le, n_lt, n_eq, n_ne1, n_0, m_bl_t, m_bl_f, if_true, if_false, Nat.reduceAdd, Nat.reduceMul, Nat.reduceSub, Nat.reduceLeDiff, Nat.reduceEqDiff, Nat.add_zero, Nat.add_sub_cancel, Option.toList, List.cons_append, List.nil_append, i60_37, i60_38]
        rfl
theorem w60 (ht : 55 ≤ t) {k N0 off : Nat} (hk : m_ar k 2 N0 = true) (hN0 : N0 < 2 ^ 31) (hkt : k < t) (ho : off + 16 ≤ N0) : WP V 60 0 (m_loc 60 [.ref 10, .ref k, .int (nI off)]) [] t I L (m_RR e a b) Q = Q (some (.int (k_un (k_fu (I k) (I 12) off 8 0)))) t I L (m_RR e a b) := by
  rw [show m_loc 60 [.ref 10, .ref k, .int (nI off)] = [.ref 10, .ref k, .int (nI off), m_u] from rfl]
  simp (disch := first | assumption | omega | decide) only [nI_add, n_mul, n_sub, n_le, n_lt, n_eq, n_ne1, n_0, m_bl_t, m_bl_f, if_true, if_false, Nat.reduceAdd, Nat.reduceMul, Nat.reduceSub, Nat.reduceLeDiff, Nat.reduceEqDiff, Nat.add_zero, Nat.add_sub_cancel, Option.toList, List.cons_append, List.nil_append, i60_0, i60_1]
  exact w60_2 ht hk hN0 hkt ho 8 0 rfl
theorem c60 (ht : 55 ≤ t) {k N0 off : Nat} (hk : m_ar k 2 N0 = true) (hN0 : N0 < 2 ^ 31) (hkt : k < t) (ho : off + 16 ≤ N0) : WPC V 60 [.ref 10, .ref k, .int (nI off)] m n ls st t I L (m_RR e a b) Q = WP V m n ls ((.int (k_un (k_fu (I k) (I 12) off 8 0))) :: st) t I L (m_RR e a b) Q := wpc_of (fun Q => w60 ht hk hN0 hkt ho)
theorem w61_2 (ht : 55 ≤ t) {off : Nat} (ho : off + 16 ≤ 2100) (hx : x < 8) : WP V 61 2 [.ref 10, .int (nI off), .int (nI x)] [] t I L (m_RR e a b) Q = WP V 61 2 [.ref 10, .int (nI off), .int (nI (x + 1))] [] t (m_sc I 12 (k_wr1 (I 11) off x (I 12))) L (m_RR e a b) Q := by
  have hx8 : ¬ 8 ≤ x := by omega
  have hj1 : off + x < 2100 := by omega
  have hj2 : off + 8 + x < 2100 := by omega
  have hj3 : 8 + x < 16 := by omega
  have e11 : ∀ F : Nat → Int32, m_sc I 12 F 11 = I 11 := fun F => m_sc_ne (by omega)
  unfold k_wr1
  rw [i61_2]
  by_cases h0 : I 11 (off + x) = -1
  · rw [if_pos h0, sc_id]
    simp (disch := first | assumption | omega | decide) only [nI_add, n_mul, n_sub, n_le, n_lt, n_eq, n_ne1, n_0, m_bl_t, m_bl_f, if_true, if_false, Nat.reduceAdd, Nat.reduceMul, Nat.reduceSub, Nat.reduceLeDiff, Nat.reduceEqDiff, Nat.add_zero, Nat.add_sub_cancel, Option.toList, List.cons_append, List.nil_append, i61_3, i61_4, i61_5, i61_6, i61_7, i61_8, i61_9, i61_10, i61_11, i61_12, i61_13, i61_38, i61_39, rv_10_0, rv_22_0, hx8, h0]
  · rw [if_neg h0]
    simp (disch := first | assumption | omega | decide) only [nI_add, n_mul, n_sub, n_le, n_lt, n_eq, n_ne1, n_0, m_bl_t, m_bl_f, if_true, if_false, Nat.reduceAdd, Nat.reduceMul, Nat.reduceSub, Nat.reduceLeDiff, Nat.reduceEqDiff, Nat.add_zero, Nat.add_sub_cancel, Option.toList, List.cons_append, List.nil_append, i61_3, i61_4, i61_5, i61_6, i61_7, i61_8, i61_9, i61_10, i61_11, i61_12, i61_14, i61_15, i61_16, i61_17, i61_18, i61_19, i61_20, i61_21, i61_22, i61_23, i61_24, i61_25, i61_26, i61_27, i61_28, i61_29, i61_30, i61_31, i61_32, i61_33, i61_34, i61_35, i61_36, i61_37, i61_38, i61_39, rv_10_0, rv_10_1, rv_22_0, rv_22_1, hx8, h0, e11, m_sc_self, s_scc]
theorem w61 (ht : 55 ≤ t) {off : Nat} (ho : off + 16 ≤ 2100) : WP V 61 0 (m_loc 61 [.ref 10, .int (nI off)]) [] t I L (m_RR e a b) Q = Q none t (m_sc I 12 (k_wr (I 11) off (I 12) 8)) L (m_RR e a b) := by
  rw [show m_loc 61 [.ref 10, .int (nI off)] = [.ref 10, .int (nI off), m_u] from rfl]
  have st : ∀ x, x < 8 → WP V 61 2 [.ref 10, .int (nI off), .int (nI x)] [] t (m_sc I 12 (k_wr (I 11) off (I 12) x)) L (m_RR e a b) Q = WP V 61 2 [.ref 10, .int (nI off), .int (nI (x + 1))] [] t (m_sc I 12 (k_wr (I 11) off (I 12) (x + 1))) L (m_RR e a b) Q := fun x hx => by
    rw [w61_2 ht ho hx, s_scc, m_sc_self, m_sc_ne (j := 11) (by omega)]
    rfl
  have z0 : m_sc I 12 (k_wr (I 11) off (I 12) 0) = I := sc_id
  have s0 := st 0 (by omega)
  rw [z0] at s0
  simp (disch := first | assumption | omega | decide) only [nI_add, n_mul, n_sub, n_le, n_lt, n_eq, n_ne1, n_0, m_bl_t, m_bl_f, if_true, if_false, Nat.reduceAdd, Nat.reduceMul, Nat.reduceSub, Nat.reduceLeDiff, Nat.reduceEqDiff, Nat.add_zero, Nat.add_sub_cancel, Option.toList, List.cons_append, List.nil_append, i61_0, i61_1]
  refine s0.trans ((st 1 (by omega)).trans ((st 2 (by omega)).trans ((st 3 (by omega)).trans ((st 4 (by omega)).trans ((st 5 (by omega)).trans ((st 6 (by omega)).trans ((st 7 (by omega)).trans ?_)))))))
  have h8 : 8 ≤ 8 := Nat.le_refl _
  rw [i61_2]
  simp (disch := first | assumption | omega | decide) only [nI_add, n_mul, n_sub, n_le, n_lt, n_eq, n_ne1, n_0, m_bl_t, m_bl_f, if_true, if_false, Nat.reduceAdd, Nat.reduceMul, Nat.reduceSub, Nat.reduceLeDiff, Nat.reduceEqDiff, Nat.add_zero, Nat.add_sub_cancel, Option.toList, List.cons_append, List.nil_append, i61_3, i61_4, i61_40, h8]
theorem c61 (ht : 55 ≤ t) {off : Nat} (ho : off + 16 ≤ 2100) : WPC V 61 [.ref 10, .int (nI off)] m n ls st t I L (m_RR e a b) Q = WP V m n ls st t (m_sc I 12 (k_wr (I 11) off (I 12) 8)) L (m_RR e a b) Q := wpc_of (fun Q => w61 ht ho)
end RZU
