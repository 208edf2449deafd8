/-! keep and back: alike -/
section RAI
variable {V : m_V} {m n : Nat} {ls st : List Value} {t N M : Nat} {I I' J : m_I} {R : m_R} {L L' : m_L} {e : Option Nat} {a b u x i s p c r j k : Nat} {Q : Option Value → Nat → m_I → m_L → m_R → Prop}
theorem w190_8 (ht : 55 ≤ t) : ∀ c i (L : m_L), i + c = 96 → WP V 190 8 [.ref 27, .int (nI i)] [] t I L (m_RR e 28 b) Q = Q (some (.int (nI 0))) t I (m_sc L 54 (va_cpy (L 37) (L 54) i i c)) (m_RR e 28 b) := by
  intro c
  induction c with
  | zero =>
    intro i L hi
    obtain rfl : i = 96 := by omega
    rw [cpy_0, s_sce, i190_8]
    simp (disch := first | assumption | omega | decide) only [nI_add, n_mul, n_sub, n_le, n_lt, n_eq, n_ne1, n_0, m_bl_t, m_bl_f, if_true, if_false, Nat.reduceAdd, Nat.reduceMul, Nat.reduceSub, Nat.reduceLeDiff, Nat.reduceEqDiff, Nat.add_zero, Nat.add_sub_cancel, Option.toList, List.cons_append, List.nil_append, i190_9, i190_10, i190_21, i190_22, Nat.le_refl]
  | succ c ih =>
    intro i L hi
    have hlt : ¬ 96 ≤ i := by omega
    have e1 := ih (i + 1) (m_sc L 54 (m_sc (L 54) i (L 37 i))) (by omega)
    rw [m_sc_ne (j := 37) (by omega), m_sc_self, s_scc, cpy_s] at e1
    rw [← e1, i190_8]
    simp (disch := first | assumption | omega | decide) only [nI_add, n_mul, n_sub, n_le, n_lt, n_eq, n_ne1, n_0, m_bl_t, m_bl_f, if_true, if_false, Nat.reduceAdd, Nat.reduceMul, Nat.reduceSub, Nat.reduceLeDiff, Nat.reduceEqDiff, Nat.add_zero, Nat.add_sub_cancel, Option.toList, List.cons_append, List.nil_append, i190_9, i190_10, i190_11, i190_12, i190_13, i190_14, i190_15, i190_16, i190_17, i190_18, i190_19, i190_20, rv_27_14, rv_27_40, hlt]
theorem w191_10 (ht : 55 ≤ t) : ∀ c i (L : m_L), i + c = 96 → WP V 191 10 [.ref 27, .int (nI i)] [] t I L (m_RR e 28 b) Q = Q (some (.int (nI 0))) t I (m_sc L 37 (va_cpy (L 54) (L 37) i i c)) (m_RR e 28 b) := by
  intro c
  induction c with
  | zero =>
    intro i L hi
    obtain rfl : i = 96 := by omega
    rw [cpy_0, s_sce, i191_10]
    simp (disch := first | assumption | omega | decide) only [nI_add, n_mul, n_sub, n_le, n_lt, n_eq, n_ne1, n_0, m_bl_t, m_bl_f, if_true, if_false, Nat.reduceAdd, Nat.reduceMul, Nat.reduceSub, Nat.reduceLeDiff, Nat.reduceEqDiff, Nat.add_zero, Nat.add_sub_cancel, Option.toList, List.cons_append, List.nil_append, i191_11, i191_12, i191_23, i191_24, Nat.le_refl]
  | succ c ih =>
    intro i L hi
    have hlt : ¬ 96 ≤ i := by omega
    have e1 := ih (i + 1) (m_sc L 37 (m_sc (L 37) i (L 54 i))) (by omega)
    rw [m_sc_ne (j := 54) (by omega), m_sc_self, s_scc, cpy_s] at e1
    rw [← e1, i191_10]
    simp (disch := first | assumption | omega | decide) only [nI_add, n_mul, n_sub, n_le, n_lt, n_eq, n_ne1, n_0, m_bl_t, m_bl_f, if_true, if_false, Nat.reduceAdd, Nat.reduceMul, Nat.reduceSub, Nat.reduceLeDiff, Nat.reduceEqDiff, Nat.add_zero, Nat.add_sub_cancel, Option.toList, List.cons_append, List.nil_append, i191_11, i191_12, i191_13, i191_14, i191_15, i191_16, i191_17, i191_18, i191_19, i191_20, i191_21, i191_22, rv_27_14, rv_27_40, hlt]
theorem TH_27_5 (hT : TH N I L) : I 27 5 = nI 0 ∧ I 10 3 = nI 0 := by
  obtain ⟨c, b, k, n, _, _, _, _, hE⟩ := hT.1
  obtain ⟨x1, x2, _⟩ := hE.2.2.2.2.1 rfl
  exact ⟨x2, x1⟩
theorem z_kp_o (h : k ≠ 14 ∧ k ≠ 16 ∧ k ≠ 17 ∧ k ≠ 19 ∧ k ≠ 20 ∧ k ≠ 22 ∧ k ≠ 23) : z_kp I k = I k := by
  obtain ⟨h1, h2, h3, h4, h5, h6, h7⟩ := h
  unfold z_kp
  rw [m_sc_ne h6, m_sc_ne h7, m_sc_ne h5, m_sc_ne h4, m_sc_ne h3, m_sc_ne h2, m_sc_ne h1]
theorem z_bk_o (h : k ≠ 2 ∧ k ≠ 4 ∧ k ≠ 5 ∧ k ≠ 7 ∧ k ≠ 8 ∧ k ≠ 11 ∧ k ≠ 10) : z_bk I k = I k := by
  obtain ⟨h1, h2, h3, h4, h5, h6, h7⟩ := h
  unfold z_bk
  rw [m_sc_ne h7, m_sc_ne h6, m_sc_ne h5, m_sc_ne h4, m_sc_ne h3, m_sc_ne h2, m_sc_ne h1]
/-- the class's part of keep() -/
def z_k1 (I : m_I) : m_I := m_sc (z_kp I) 0 (m_sc (I 0) 3 (nI 1))
def z_k2 (I : m_I) : m_I := z_mov (m_sc (z_k1 I) 27 (m_sc (I 27) 37 (nI 1)))
theorem w106 (ht : 55 ≤ t) : WP V 106 0 (m_loc 106 [.ref 0]) [] t I L (m_RR e a b) Q = Q (some (.int (nI 0))) t (z_k1 I) (m_sc L 21 (va_cpy (L 9) (L 21) 0 0 96)) (m_RR e a b) := by
  rw [show m_loc 106 [.ref 0] = [.ref 0] from rfl]
  have e0 : z_kp I 0 = I 0 := z_kp_o (by omega)
  simp (disch := first | assumption | omega | decide) only [nI_add, n_mul, n_sub, n_le, n_lt, n_eq, n_ne1, n_0, m_bl_t, m_bl_f, if_true, if_false, Nat.reduceAdd, Nat.reduceMul, Nat.reduceSub, Nat.reduceLeDiff, Nat.reduceEqDiff, Nat.add_zero, Nat.add_sub_cancel, Option.toList, List.cons_append, List.nil_append, i106_0, i106_1, i106_2, i106_3, i106_4, i106_5, i106_6, i106_7, i106_8, i106_9, rv_0_0, rv_0_1, c45k ht, m_01_1, e0]
  rfl
theorem c106 (ht : 55 ≤ t) : WPC V 106 [.ref 0] m n ls st t I L (m_RR e a b) Q = WP V m n ls ((.int (nI 0)) :: st) t (z_k1 I) (m_sc L 21 (va_cpy (L 9) (L 21) 0 0 96)) (m_RR e a b) Q := wpc_of (fun Q => w106 ht)
theorem w190 (ht : 55 ≤ t) : WP V 190 0 (m_loc 190 [.ref 27]) [] t I L (m_RR e 28 b) Q = Q (some (.int (nI 0))) t (z_mov (m_sc I 27 (m_sc (I 27) 37 (nI 1)))) (m_sc L 54 (va_cpy (L 37) (L 54) 0 0 96)) (m_RR e 28 b) := by
  rw [show m_loc 190 [.ref 27] = [.ref 27, m_u] from rfl]
  simp (disch := first | assumption | omega | decide) only [nI_add, n_mul, n_sub, n_le, n_lt, n_eq, n_ne1, n_0, m_bl_t, m_bl_f, if_true, if_false, Nat.reduceAdd, Nat.reduceMul, Nat.reduceSub, Nat.reduceLeDiff, Nat.reduceEqDiff, Nat.add_zero, Nat.add_sub_cancel, Option.toList, List.cons_append, List.nil_append, i190_0, i190_1, i190_2, i190_3, i190_4, i190_5, i190_6, i190_7, m_01_1, c188k ht, w190_8 ht 96 0 _ rfl]
theorem c190 (ht : 55 ≤ t) : WPC V 190 [.ref 27] m n ls st t I L (m_RR e 28 b) Q = WP V m n ls ((.int (nI 0)) :: st) t (z_mov (m_sc I 27 (m_sc (I 27) 37 (nI 1)))) (m_sc L 54 (va_cpy (L 37) (L 54) 0 0 96)) (m_RR e 28 b) Q := wpc_of (fun Q => w190 ht)
theorem z_k1_o (h : k ≠ 0 ∧ k ≠ 14 ∧ k ≠ 16 ∧ k ≠ 17 ∧ k ≠ 19 ∧ k ≠ 20 ∧ k ≠ 22 ∧ k ≠ 23) : z_k1 I k = I k := by
  unfold z_k1
  rw [m_sc_ne h.1, z_kp_o h.2]
theorem z_k2_o (h : k ≠ 0 ∧ k ≠ 14 ∧ k ≠ 16 ∧ k ≠ 17 ∧ k ≠ 19 ∧ k ≠ 20 ∧ k ≠ 22 ∧ k ≠ 23) (h2 : k ≠ 27 ∧ k ≠ 34 ∧ k ≠ 52 ∧ k ≠ 53) : z_k2 I k = I k := by
  unfold z_k2
  rw [z_mov_o h2, m_sc_ne h2.1, z_k1_o h]
end RAI
