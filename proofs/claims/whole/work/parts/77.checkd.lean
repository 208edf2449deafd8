/-! check: the class's code, whole -/
section RZV
variable {V : m_V} {m n : Nat} {ls st : List Value} {t N M : Nat} {I I' : m_I} {R : m_R} {L L' : m_L} {e : Option Nat} {a b u x i s : Nat} {Q : Option Value → Nat → m_I → m_L → m_R → Prop}
theorem k_fu_lt {A C : Nat → Int32} {off y : Nat} : ∀ c x, k_fu A C off c x = some y → y < x + c := by
  intro c
  induction c with
  | zero => intro x h; cases h
  | succ c ih =>
    intro x h
    rw [show k_fu A C off (c + 1) x = if A (off + x) = -1 then k_fu A C off c (x + 1) else if A (off + x) = C x ∧ A (off + 8 + x) = C (8 + x) then k_fu A C off c (x + 1) else some x from rfl] at h
    by_cases h0 : A (off + x) = -1
    · rw [if_pos h0] at h
      have := ih (x + 1) h
      omega
    · rw [if_neg h0] at h
      by_cases h1 : A (off + x) = C x ∧ A (off + 8 + x) = C (8 + x)
      · rw [if_pos h1] at h
        have := ih (x + 1) h
        omega
      · rw [if_neg h1] at h
        cases h
        omega
/-- the notes in their order: an answer, or the cells as they stand then -/
def k_fw (ww : Nat → Int32) : Nat → Nat → (Nat → Int32) → Option Int32 × (Nat → Int32)
  | 0, _, C => (none, C)
  | c + 1, i, C => match k_fu ww C (i * 35 + 2) 8 0 with
    | some x => (some (nI (8 * i + x)), C)
    | none => k_fw ww c (i + 1) (k_wr ww (i * 35 + 18) C 8)
def k_last (f C : Nat → Int32) : Int32 := match k_fu f C 49 8 0 with
  | some x => nI (480 + x)
  | none => -1
def k_ans (f : Nat → Int32) (q : Option Int32 × (Nat → Int32)) : Int32 := match q.1 with
  | some v => v
  | none => k_last f q.2
theorem w59_41 (ht : 55 ≤ t) {y : Int32} {w : Value} : WP V 59 41 [.ref 10, .ref 2, .int y, w] [] t I L (m_RR e a b) Q = Q (some (.int (k_last (I 2) (I 12)))) t I L (m_RR e a b) := by
  have h2 : m_ar 2 2 581 = true := by decide
  have h2t : 2 < t := by omega
  have q := c60 (V := V) (e := e) (a := a) (b := b) (I := I) (L := L) (Q := Q) (m := 59) (n := 45) (ls := [.ref 10, .ref 2, .int y, w]) (st := []) ht (k := 2) (N0 := 581) (off := 49) h2 (by omega) h2t (by omega)
  rw [i59_41]
  simp (disch := first | assumption | omega | decide) only [nI_add, n_mul, n_sub, n_le, n_lt, n_eq, n_ne1, n_0, m_bl_t, m_bl_f, if_true, if_false, Nat.reduceAdd, Nat.reduceMul, Nat.reduceSub, Nat.reduceLeDiff, Nat.reduceEqDiff, Nat.add_zero, Nat.add_sub_cancel, Option.toList, List.cons_append, List.nil_append, i59_42, i59_43, i59_44, q]
  unfold k_last
  cases hk : k_fu (I 2) (I 12) 49 8 0 with
  | none =>
    rw [show k_un none = -1 from rfl]
    simp (disch := first | assumption | omega | decide) only [nI_add, n_mul, n_sub, n_le, n_lt, n_eq, n_ne1, n_0, m_bl_t, m_bl_f, if_true, if_false, Nat.reduceAdd, Nat.reduceMul, Nat.reduceSub, Nat.reduceLeDiff, Nat.reduceEqDiff, Nat.add_zero, Nat.add_sub_cancel, Option.toList, List.cons_append, List.nil_append, i59_45, i59_46, i59_47, i59_48, i59_49, i59_50, i59_54]
  | some z =>
    have hz := k_fu_lt 8 0 hk
    have hz1 : ¬ nI z = -1 := n_ne1' (by omega)
    rw [show k_un (some z) = nI z from rfl]
    simp (disch := first | assumption | omega | decide) only [nI_add, n_mul, n_sub, n_le, n_lt, n_eq, n_ne1, n_0, m_bl_t, m_bl_f, if_true, if_false, Nat.reduceAdd, Nat.reduceMul, Nat.reduceSub, Nat.reduceLeDiff, Nat.reduceEqDiff, Nat.add_zero, Nat.add_sub_cancel, Option.toList, List.cons_append, List.nil_append, i59_45, i59_46, i59_47, i59_48, i59_51, i59_52, i59_53, i59_54, hz1]
theorem w59_9 (ht : 55 ≤ t) (hn : n ≤ 60) (hno : c_noted (I 10) = nI n) : ∀ c i C w, i + c = n → WP V 59 9 [.ref 10, .ref 2, .int (nI i), w] [] t (m_sc I 12 C) L (m_RR e a b) Q = Q (some (.int (k_ans (I 2) (k_fw (I 11) c i C)))) t (m_sc I 12 (k_fw (I 11) c i C).2) L (m_RR e a b) := by
  have e10 : ∀ F : Nat → Int32, m_sc I 12 F 10 = I 10 := fun F => m_sc_ne (by omega)
  have e11 : ∀ F : Nat → Int32, m_sc I 12 F 11 = I 11 := fun F => m_sc_ne (by omega)
  have e2 : ∀ F : Nat → Int32, m_sc I 12 F 2 = I 2 := fun F => m_sc_ne (by omega)
  intro c
  induction c with
  | zero =>
    intro i C w hi
    obtain rfl : i = n := by omega
    have hh : i ≤ i := Nat.le_refl _
    rw [i59_9]
    simp (disch := first | assumption | omega | decide) only [nI_add, n_mul, n_sub, n_le, n_lt, n_eq, n_ne1, n_0, m_bl_t, m_bl_f, if_true, if_false, Nat.reduceAdd, Nat.reduceMul, Nat.reduceSub, Nat.reduceLeDiff, Nat.reduceEqDiff, Nat.add_zero, Nat.add_sub_cancel, Option.toList, List.cons_append, List.nil_append, i59_10, i59_11, i59_12, c54 ht, e10, hno, hh]
    rw [w59_41 ht, e2, m_sc_self]
    rfl
  | succ c ih =>
    intro i C w hi
    have hh : ¬ n ≤ i := by omega
    have h11 : m_ar 11 2 2100 = true := by decide
    have h11t : 11 < t := by omega
    have q := c60 (V := V) (e := e) (a := a) (b := b) (I := m_sc I 12 C) (L := L) (Q := Q) (m := 59) (n := 22) (ls := [.ref 10, .ref 2, .int (nI i), w]) (st := []) ht (k := 11) (N0 := 2100) (off := i * 35 + 2) h11 (by omega) h11t (by omega)
    rw [e11, m_sc_self] at q
    rw [i59_9]
    simp (disch := first | assumption | omega | decide) only [nI_add, n_mul, n_sub, n_le, n_lt, n_eq, n_ne1, n_0, m_bl_t, m_bl_f, if_true, if_false, Nat.reduceAdd, Nat.reduceMul, Nat.reduceSub, Nat.reduceLeDiff, Nat.reduceEqDiff, Nat.add_zero, Nat.add_sub_cancel, Option.toList, List.cons_append, List.nil_append, i59_10, i59_11, i59_12, i59_13, i59_14, i59_15, i59_16, i59_17, i59_18, i59_19, i59_20, i59_21, rv_10_0, rv_22_0, c54 ht, e10, hno, hh, q]
    rw [show k_fw (I 11) (c + 1) i C = (match k_fu (I 11) C (i * 35 + 2) 8 0 with | some x => (some (nI (8 * i + x)), C) | none => k_fw (I 11) c (i + 1) (k_wr (I 11) (i * 35 + 18) C 8)) from rfl]
    cases hk : k_fu (I 11) C (i * 35 + 2) 8 0 with
    | none =>
      rw [show k_un none = -1 from rfl]
      have q2 := c61 (V := V) (e := e) (a := a) (b := b) (I := m_sc I 12 C) (L := L) (Q := Q) (m := 59) (n := 39) (ls := [.ref 10, .ref 2, .int (nI i), .int (-1)]) (st := []) ht (off := i * 35 + 18) (by omega)
      rw [e11, m_sc_self, s_scc] at q2
      simp (disch := first | assumption | omega | decide) only [nI_add, n_mul, n_sub, n_le, n_lt, n_eq, n_ne1, n_0, m_bl_t, m_bl_f, if_true, if_false, Nat.reduceAdd, Nat.reduceMul, Nat.reduceSub, Nat.reduceLeDiff, Nat.reduceEqDiff, Nat.add_zero, Nat.add_sub_cancel, Option.toList, List.cons_append, List.nil_append, i59_22, i59_23, i59_24, i59_25, i59_32, i59_33, i59_34, i59_35, i59_36, i59_37, i59_38, q2]
      simp (disch := first | assumption | omega | decide) only [nI_add, n_mul, n_sub, n_le, n_lt, n_eq, n_ne1, n_0, m_bl_t, m_bl_f, if_true, if_false, Nat.reduceAdd, Nat.reduceMul, Nat.reduceSub, Nat.reduceLeDiff, Nat.reduceEqDiff, Nat.add_zero, Nat.add_sub_cancel, Option.toList, List.cons_append, List.nil_append, i59_39, i59_40]
      exact ih (i + 1) _ _ (by omega)
    | some z =>
      have hz := k_fu_lt 8 0 hk
      have hz1 : ¬ nI z = -1 := n_ne1' (by omega)
      rw [show k_un (some z) = nI z from rfl]
      simp (disch := first | assumption | omega | decide) only [nI_add, n_mul, n_sub, n_le, n_lt, n_eq, n_ne1, n_0, m_bl_t, m_bl_f, if_true, if_false, Nat.reduceAdd, Nat.reduceMul, Nat.reduceSub, Nat.reduceLeDiff, Nat.reduceEqDiff, Nat.add_zero, Nat.add_sub_cancel, Option.toList, List.cons_append, List.nil_append, i59_22, i59_23, i59_24, i59_25, i59_26, i59_27, i59_28, i59_29, i59_30, i59_31, hz1]
      rfl
theorem w59 (ht : 55 ≤ t) (hn : n ≤ 60) (hno : c_noted (I 10) = nI n) : WP V 59 0 (m_loc 59 [.ref 10, .ref 2]) [] t I L (m_RR e a b) Q = Q (some (.int (k_ans (I 2) (k_fw (I 11) n 0 (va_cpy (I 2) (I 12) 565 0 16))))) t (m_sc I 12 (k_fw (I 11) n 0 (va_cpy (I 2) (I 12) 565 0 16)).2) L (m_RR e a b) := by
  have h2 : m_ar 2 2 581 = true := by decide
  have h12 : m_ar 12 2 16 = true := by decide
  rw [show m_loc 59 [.ref 10, .ref 2] = [.ref 10, .ref 2, m_u, m_u] from rfl]
  simp (disch := first | assumption | omega | decide) only [nI_add, n_mul, n_sub, n_le, n_lt, n_eq, n_ne1, n_0, m_bl_t, m_bl_f, if_true, if_false, Nat.reduceAdd, Nat.reduceMul, Nat.reduceSub, Nat.reduceLeDiff, Nat.reduceEqDiff, Nat.add_zero, Nat.add_sub_cancel, Option.toList, List.cons_append, List.nil_append, i59_0, i59_1, i59_2, i59_3, i59_4, i59_5, rv_10_1, rv_22_1, i59_6 (Ns := 581), i59_7, i59_8]
  exact w59_9 ht hn hno n 0 _ _ (by omega)
theorem c59 (ht : 55 ≤ t) (hn : n ≤ 60) (hno : c_noted (I 10) = nI n) : WPC V 59 [.ref 10, .ref 2] m n ls st t I L (m_RR e a b) Q = WP V m n ls ((.int (k_ans (I 2) (k_fw (I 11) n 0 (va_cpy (I 2) (I 12) 565 0 16)))) :: st) t (m_sc I 12 (k_fw (I 11) n 0 (va_cpy (I 2) (I 12) 565 0 16)).2) L (m_RR e a b) Q := wpc_of (fun Q => w59 ht hn hno)
end RZV
