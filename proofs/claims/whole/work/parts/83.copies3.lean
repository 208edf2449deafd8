/-! keep and back: the class's copy of a house -/
section RAC
variable {V : m_V} {m n : Nat} {ls st : List Value} {t N M : Nat} {I I' : m_I} {R : m_R} {L L' : m_L} {e : Option Nat} {a b u x i s : Nat} {Q : Option Value → Nat → m_I → m_L → m_R → Prop}
def z_kp (I : m_I) : m_I := m_sc (m_sc (m_sc (m_sc (m_sc (m_sc (m_sc I 14 (va_cpy (I 2) (I 14) 0 0 581)) 16 (va_cpy (I 4) (I 16) 0 0 960)) 17 (va_cpy (I 5) (I 17) 0 0 6)) 19 (va_cpy (I 7) (I 19) 0 0 6)) 20 (va_cpy (I 8) (I 20) 0 0 6)) 23 (va_cpy (I 11) (I 23) 0 0 2100)) 22 (m_sc (I 22) 2 (I 10 2))
theorem w45k (ht : 55 ≤ t) : WP V 45 0 (m_loc 45 [.ref 13, .ref 1]) [] t I L (m_RR e a b) Q = Q none t (z_kp I) (m_sc L 21 (va_cpy (L 9) (L 21) 0 0 96)) (m_RR e a b) := by
  rw [show m_loc 45 [.ref 13, .ref 1] = [.ref 13, .ref 1] from rfl]
  simp (disch := first | assumption | omega | decide) only [nI_add, n_mul, n_sub, n_le, n_lt, n_eq, n_ne1, n_0, m_bl_t, m_bl_f, if_true, if_false, Nat.reduceAdd, Nat.reduceMul, Nat.reduceSub, Nat.reduceLeDiff, Nat.reduceEqDiff, Nat.add_zero, Nat.add_sub_cancel, Option.toList, List.cons_append, List.nil_append, i45_0, i45_1, i45_2, i45_3, i45_4, i45_5, i45_6, i45_7, i45_8, i45_9, i45_10, i45_11, i45_12, rv_13_0, rv_13_1, rv_1_0, rv_1_1, c6k ht, m_sc_ne]
  simp (disch := first | assumption | omega | decide) only [nI_add, n_mul, n_sub, n_le, n_lt, n_eq, n_ne1, n_0, m_bl_t, m_bl_f, if_true, if_false, Nat.reduceAdd, Nat.reduceMul, Nat.reduceSub, Nat.reduceLeDiff, Nat.reduceEqDiff, Nat.add_zero, Nat.add_sub_cancel, Option.toList, List.cons_append, List.nil_append, i45_13, i45_14, i45_15, i45_16, i45_17, rv_13_2, rv_1_2, c68k ht, m_sc_ne]
  simp (disch := first | assumption | omega | decide) only [nI_add, n_mul, n_sub, n_le, n_lt, n_eq, n_ne1, n_0, m_bl_t, m_bl_f, if_true, if_false, Nat.reduceAdd, Nat.reduceMul, Nat.reduceSub, Nat.reduceLeDiff, Nat.reduceEqDiff, Nat.add_zero, Nat.add_sub_cancel, Option.toList, List.cons_append, List.nil_append, i45_18, i45_19, i45_20, i45_21, i45_22, i45_23, rv_13_3, rv_1_3, c62k ht, m_sc_ne]
  rfl
theorem c45k (ht : 55 ≤ t) : WPC V 45 [.ref 13, .ref 1] m n ls st t I L (m_RR e a b) Q = WP V m n ls st t (z_kp I) (m_sc L 21 (va_cpy (L 9) (L 21) 0 0 96)) (m_RR e a b) Q := wpc_of (fun Q => w45k ht)
end RAC
