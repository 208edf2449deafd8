/-! the law's run -/
section RCF
variable {V : m_V} {m n : Nat} {ls st : List Value} {t N i : Nat} {I : m_I} {L : m_L} {R : m_R} {e : Option Nat} {Q : Option Value → Nat → m_I → m_L → m_R → Prop}
def y_Q : Option Value → Nat → m_I → m_L → m_R → Prop := fun v t _ _ _ => v = some (.int 1) ∧ t ≤ 62
theorem y_end (hx : x_T t e) (hL : V.1 < 2 ^ 31) (hi : V.1 < i + 6) (hi2 : i < 1000000) : WP V 198 10 [.ref 1003, .ref 0, .ref 27, .int (nI i)] [] t I L (m_RR e 28 48) y_Q := by
  have hlt : nI V.1 - nI 6 < nI i := by
    obtain ⟨l, hl⟩ : ∃ l, l = V.1 := ⟨_, rfl⟩
    rw [← hl] at hL hi ⊢
    by_cases h6 : 6 ≤ l
    · rw [n_sub h6, n_lt (by omega) (by omega)]; omega
    · rw [Int32.lt_iff_toInt_lt, nI_toInt (n := i) (by omega)]
      have : (nI l - nI 6).toInt < 0 := by
        obtain rfl | rfl | rfl | rfl | rfl | rfl : l = 0 ∨ l = 1 ∨ l = 2 ∨ l = 3 ∨ l = 4 ∨ l = 5 := by omega
        all_goals decide
      omega
  have ht : t ≤ 62 := by rcases hx with ⟨_, q⟩ | ⟨_, q⟩ <;> omega
  have e0 : WP V 198 10 [.ref 1003, .ref 0, .ref 27, .int (nI i)] [] t I L (m_RR e 28 48) y_Q = WP V 198 15 [.ref 1003, .ref 0, .ref 27, .int (nI i)] [.int (nI V.1 - nI 6), .int (nI i)] t I L (m_RR e 28 48) y_Q := by
    rw [i198_10, i198_11, i198_12, i198_13, i198_14]
  rw [e0, i198_15, if_pos hlt, i198_560, i198_561 (by decide)]
  exact ⟨rfl, ht⟩
theorem y_loop (hV : tab_ok V) (hL : V.1 < 2 ^ 31) : ∀ c t e N I L i, x_T t e → TP N e I L → N + 200 * c < 800000 → V.1 < i + 6 * c + 6 → i + 6 * c < 1000000 → WP V 198 10 [.ref 1003, .ref 0, .ref 27, .int (nI i)] [] t I L (m_RR e 28 48) y_Q := by
  intro c
  induction c with
  | zero =>
    intro t e N I L i hx hT hN hi hi2
    exact y_end hx hL (by omega) (by omega)
  | succ c ih =>
    intro t e N I L i hx hT hN hi hi2
    by_cases hq : V.1 < i + 6
    · exact y_end hx hL hq (by omega)
    · obtain ⟨t', e', I', L', a1, a2, a3⟩ := y_one (V := V) (i := i) hx hV hT (by omega) hL (by omega)
      rw [a3 y_Q]
      exact ih t' e' (N + 200) I' L' (i + 6) a1 a2 (by omega) (by omega) (by omega)
set_option maxRecDepth 20000 in
theorem y_run (hV : tab_ok V) (hL : V.1 ≤ 3072) (hI : ∀ k, I k = y_z) (hR : ∀ k, k ≠ 55 → R k = y_zn) (hR5 : R 55 = m_RR none 28 48 55) : WP V 198 0 (m_loc 198 [.ref 1003]) [] 0 I L R y_Q := by
  obtain ⟨I1, L1, R1, a1, a2, a3, a4, a5, b0, b2, b4, b5, b7, b8, b102, b103, b11, l9, b22⟩ := y85 (V := V) (I := m_sc I 0 (fun _ => nI 0)) (L := L) (R := m_sc R 0 (fun _ => none)) m_sc_self (fun k hk => by
    by_cases q : k = 0
    · subst q; exact m_sc_self
    · rw [m_sc_ne q]; exact hR k (by omega))
  obtain ⟨I2, L2, c1, c2, c3, d27, d28, dd, l37, d38⟩ := y110 (V := V) (I := m_sc I1 27 (fun _ => nI 0)) (L := L1) (R := m_sc R1 27 (fun _ => none)) m_sc_self (fun k hk => by rw [m_sc_ne (by omega)]; exact a5 k hk) (fun k hk h5 => by
    by_cases q : k = 27
    · subst q; exact m_sc_self
    · rw [m_sc_ne q, a4 k hk, m_sc_ne (by omega)]; exact hR k h5) (by rw [m_sc_ne (by omega), a4 55 (by omega), m_sc_ne (by omega)]; exact hR5)
  have o : ∀ k, k < 27 → I2 k = I1 k := fun k hk => by rw [c2 k hk, m_sc_ne (by omega)]
  have hT : TP 0 none I2 L2 := y_TP ((o 0 (by omega)).trans b0) ((o 2 (by omega)).trans b2) ((o 4 (by omega)).trans b4) ((o 5 (by omega)).trans b5) ((o 7 (by omega)).trans b7) ((o 8 (by omega)).trans b8) (by rw [o 10 (by omega)]; exact b102) (by rw [o 10 (by omega)]; exact b103) ((o 11 (by omega)).trans b11) ((c3 9 (by omega)).trans l9) (by rw [o 22 (by omega)]; exact b22) d27 d28 dd l37 d38
  have go := y_loop (V := V) hV (by omega) 512 55 none 0 I2 L2 0 (Or.inl ⟨rfl, rfl⟩) hT (by omega) (by omega) (by omega)
  rw [show m_loc 198 [.ref 1003] = [.ref 1003, m_u, m_u, m_u] from rfl]
  simp (disch := first | assumption | omega | decide) only [nI_add, n_mul, n_sub, n_le, n_lt, n_eq, n_ne1, n_0, m_bl_t, m_bl_f, if_true, if_false, Nat.reduceAdd, Nat.reduceMul, Nat.reduceSub, Nat.reduceLeDiff, Nat.reduceEqDiff, Nat.add_zero, Nat.add_sub_cancel, Option.toList, List.cons_append, List.nil_append, i198_0, i198_1, i198_2, a1]
  simp (disch := first | assumption | omega | decide) only [nI_add, n_mul, n_sub, n_le, n_lt, n_eq, n_ne1, n_0, m_bl_t, m_bl_f, if_true, if_false, Nat.reduceAdd, Nat.reduceMul, Nat.reduceSub, Nat.reduceLeDiff, Nat.reduceEqDiff, Nat.add_zero, Nat.add_sub_cancel, Option.toList, List.cons_append, List.nil_append, i198_3, i198_4, i198_5, i198_6, c1]
  simp (disch := first | assumption | omega | decide) only [nI_add, n_mul, n_sub, n_le, n_lt, n_eq, n_ne1, n_0, m_bl_t, m_bl_f, if_true, if_false, Nat.reduceAdd, Nat.reduceMul, Nat.reduceSub, Nat.reduceLeDiff, Nat.reduceEqDiff, Nat.add_zero, Nat.add_sub_cancel, Option.toList, List.cons_append, List.nil_append, i198_7, i198_8, i198_9]
  exact go
end RCF
