/-! reset: the class's and the model's code -/
section RZM0
variable {V : m_V} {m n : Nat} {ls st : List Value} {t N M : Nat} {I I' : m_I} {R : m_R} {L L' : m_L} {e : Option Nat} {a b u x : Nat} {Q : Option Value → Nat → m_I → m_L → m_R → Prop} {f g : Nat → Int32}
def c_rs (f : Nat → Int32) : Nat → Int32 := c_fill (c_fill (c_fill (c_fill (c_fill (m_sc (m_sc (c_fill f 0 33 (nI 0)) 1 (-1)) 2 (-1)) 15 18 (-1)) 33 49 (-1)) 65 73 (nI 0)) 73 145 (-1)) 145 559 (nI 0)
def c_rs3 (f : Nat → Int32) : Nat → Int32 := c_clear (c_clear (c_clear (c_rs f) 0) 1) 2
theorem w46_48 (ht : 55 ≤ t) (hx : x < 3) : WP V 46 48 [.ref 1, .int (nI x)] [] t I L (m_RR e a b) Q = WP V 46 48 [.ref 1, .int (nI (x + 1))] [] t (m_sc I 2 (c_clear (I 2) x)) L (m_RR e a b) Q := by
  have hh : ¬ 3 ≤ x := by omega
  rw [i46_48]
  simp (disch := first | assumption | omega | decide) only [nI_add, n_mul, n_sub, n_le, n_lt, n_eq, n_ne1, n_0, m_bl_t, m_bl_f, if_true, if_false, Nat.reduceAdd, Nat.reduceMul, Nat.reduceSub, Nat.reduceLeDiff, Nat.reduceEqDiff, Nat.add_zero, Nat.add_sub_cancel, Option.toList, List.cons_append, List.nil_append, i46_49, i46_50, i46_51, i46_52, i46_53, i46_54, i46_55, hh, c51 (h := 1) (k := 2) (hR := rv_1_0)]
def z_rs (I : m_I) : m_I := m_sc (m_sc (m_sc I 2 (c_rs3 (I 2))) 10 (m_sc (I 10) 2 (nI 0))) 2 (va_cpy (c_rs3 (I 2)) (c_rs3 (I 2)) 49 565 16)
theorem w46 (ht : 55 ≤ t) : WP V 46 0 (m_loc 46 [.ref 1]) [] t I L (m_RR e a b) Q = Q none t (z_rs I) L (m_RR e a b) := by
  rw [show m_loc 46 [.ref 1] = [.ref 1, m_u] from rfl]
  simp (disch := first | assumption | omega | decide) only [nI_add, n_mul, n_sub, n_le, n_lt, n_eq, n_ne1, n_0, m_bl_t, m_bl_f, if_true, if_false, Nat.reduceAdd, Nat.reduceMul, Nat.reduceSub, Nat.reduceLeDiff, Nat.reduceEqDiff, Nat.add_zero, Nat.add_sub_cancel, Option.toList, List.cons_append, List.nil_append, i46_0, i46_1, i46_2, i46_3, i46_4, i46_5, i46_6, i46_7, i46_8, i46_9, i46_10, i46_11, i46_12, i46_13, i46_14, i46_15, i46_16, i46_17, i46_18, i46_19, i46_20, i46_21, i46_22, i46_23, i46_24, i46_25, i46_26, i46_27, i46_28, i46_29, i46_30, i46_31, i46_32, i46_33, i46_34, i46_35, i46_36, i46_37, i46_38, i46_39, i46_40, i46_41, i46_42, i46_43, i46_44, i46_45, rv_13_0, rv_1_0, c197 (k := 2) (N := 581), s_scc, m_sc_self]
  simp (disch := first | assumption | omega | decide) only [nI_add, n_mul, n_sub, n_le, n_lt, n_eq, n_ne1, n_0, m_bl_t, m_bl_f, if_true, if_false, Nat.reduceAdd, Nat.reduceMul, Nat.reduceSub, Nat.reduceLeDiff, Nat.reduceEqDiff, Nat.add_zero, Nat.add_sub_cancel, Option.toList, List.cons_append, List.nil_append, i46_46, i46_47]
  refine (w46_48 ht (x := 0) (by omega)).trans ((w46_48 ht (x := 1) (by omega)).trans ((w46_48 ht (x := 2) (by omega)).trans ?_))
  have h3 : 3 ≤ 3 := Nat.le_refl _
  have e10 : ∀ F : Nat → Int32, m_sc I 2 F 10 = I 10 := fun F => m_sc_ne (by omega)
  rw [i46_48]
  simp (disch := first | assumption | omega | decide) only [nI_add, n_mul, n_sub, n_le, n_lt, n_eq, n_ne1, n_0, m_bl_t, m_bl_f, if_true, if_false, Nat.reduceAdd, Nat.reduceMul, Nat.reduceSub, Nat.reduceLeDiff, Nat.reduceEqDiff, Nat.add_zero, Nat.add_sub_cancel, Option.toList, List.cons_append, List.nil_append, i46_49, i46_50, i46_56, i46_57, i46_58, i46_59, i46_60, i46_61, rv_13_3, rv_1_3, h3, m_sc_self, s_scc, e10]
  simp (disch := first | assumption | omega | decide) only [nI_add, n_mul, n_sub, n_le, n_lt, n_eq, n_ne1, n_0, m_bl_t, m_bl_f, if_true, if_false, Nat.reduceAdd, Nat.reduceMul, Nat.reduceSub, Nat.reduceLeDiff, Nat.reduceEqDiff, Nat.add_zero, Nat.add_sub_cancel, Option.toList, List.cons_append, List.nil_append, i46_62, c47 ht, m_sc_self, m_sc_ne]
  rfl
theorem c46 (ht : 55 ≤ t) : WPC V 46 [.ref 1] m n ls st t I L (m_RR e a b) Q = WP V m n ls st t (z_rs I) L (m_RR e a b) Q := wpc_of (fun Q => w46 ht)
def d_cc (g : Nat → Int32) (x : Nat) : Nat → Int32 := m_sc (m_sc (m_sc (m_sc (m_sc (d_z (18 * x + 3) 12 (m_sc g (18 * x + 2) (nI 0))) (18 * x + 3) (g (18 * x))) (18 * x + 3 + 1) (g (18 * x + 1))) (18 * x + 15) (nI 1)) (18 * x + 16) (-1)) (18 * x + 17) (-1)
theorem w114_12 (ht : 55 ≤ t) (hx : x < 8) : ∀ c k, k + c = 12 → WP V 114 12 [.ref 27, .int (nI x), .int (nI (18 * x)), .int (nI (3 + k))] [] t (m_sc I 28 (d_z (18 * x + 3) k (I 28))) L (m_RR e 28 b) Q = WP V 114 24 [.ref 27, .int (nI x), .int (nI (18 * x)), .int (nI 15)] [] t (m_sc I 28 (d_z (18 * x + 3) 12 (I 28))) L (m_RR e 28 b) Q := by
  have hA := aa28
  intro c
  induction c with
  | zero =>
    intro k hk
    obtain rfl : k = 12 := by omega
    have hh : 15 ≤ 15 := Nat.le_refl _
    rw [i114_12]
    simp (disch := first | assumption | omega | decide) only [nI_add, n_mul, n_sub, n_le, n_lt, n_eq, n_ne1, n_0, m_bl_t, m_bl_f, if_true, if_false, Nat.reduceAdd, Nat.reduceMul, Nat.reduceSub, Nat.reduceLeDiff, Nat.reduceEqDiff, Nat.add_zero, Nat.add_sub_cancel, Option.toList, List.cons_append, List.nil_append, i114_13, i114_14, hh]
  | succ c ih =>
    intro k hk
    have hh : ¬ 15 ≤ 3 + k := by omega
    have hj : 18 * x + (3 + k) < 612 := by omega
    have e1 : 18 * x + (3 + k) = 18 * x + 3 + k := by omega
    have hj2 : 18 * x + 3 + k < 612 := by omega
    rw [i114_12]
    simp (disch := first | assumption | omega | decide) only [nI_add, n_mul, n_sub, n_le, n_lt, n_eq, n_ne1, n_0, m_bl_t, m_bl_f, if_true, if_false, Nat.reduceAdd, Nat.reduceMul, Nat.reduceSub, Nat.reduceLeDiff, Nat.reduceEqDiff, Nat.add_zero, Nat.add_sub_cancel, Option.toList, List.cons_append, List.nil_append, i114_13, i114_14, i114_15, i114_16, i114_17, i114_18, i114_19, i114_20, i114_21, i114_22, i114_23, rv_27_0, hh, e1, m_sc_self, s_scc, d_z1]
    exact ih (k + 1) (by omega)
theorem w114 (ht : 55 ≤ t) (hx : x < 8) : WP V 114 0 (m_loc 114 [.ref 27, .int (nI x)]) [] t I L (m_RR e 28 b) Q = Q none t (m_sc I 28 (d_cc (I 28) x)) L (m_RR e 28 b) := by
  have hA := aa28
  rw [show m_loc 114 [.ref 27, .int (nI x)] = [.ref 27, .int (nI x), m_u, m_u] from rfl]
  have hz := w114_12 (V := V) (I := m_sc I 28 (m_sc (I 28) (18 * x + 2) (nI 0))) (L := L) (e := e) (b := b) (Q := Q) ht hx 12 0 rfl
  rw [d_z0, sc_id, s_scc, m_sc_self] at hz
  simp (disch := first | assumption | omega | decide) only [nI_add, n_mul, n_sub, n_le, n_lt, n_eq, n_ne1, n_0, m_bl_t, m_bl_f, if_true, if_false, Nat.reduceAdd, Nat.reduceMul, Nat.reduceSub, Nat.reduceLeDiff, Nat.reduceEqDiff, Nat.add_zero, Nat.add_sub_cancel, Option.toList, List.cons_append, List.nil_append, i114_0, i114_1, i114_2, i114_3, i114_4, i114_5, i114_6, i114_7, i114_8, i114_9, i114_10, i114_11, rv_27_0, c112]
  refine Eq.trans hz ?_
  simp (disch := first | assumption | omega | decide) only [nI_add, n_mul, n_sub, n_le, n_lt, n_eq, n_ne1, n_0, m_bl_t, m_bl_f, if_true, if_false, Nat.reduceAdd, Nat.reduceMul, Nat.reduceSub, Nat.reduceLeDiff, Nat.reduceEqDiff, Nat.add_zero, Nat.add_sub_cancel, Option.toList, List.cons_append, List.nil_append, i114_24, i114_25, i114_26, i114_27, i114_28, i114_29, i114_30, i114_31, i114_32, i114_33, i114_34, i114_35, i114_36, i114_37, i114_38, i114_39, i114_40, i114_41, i114_42, i114_43, i114_44, i114_45, i114_46, i114_47, i114_48, i114_49, i114_50, i114_51, i114_52, i114_53, i114_54, i114_55, i114_56, i114_57, i114_58, i114_59, i114_60, i114_61, i114_62, i114_63, i114_64, i114_65, i114_66, i114_67, i114_68, i114_69, rv_27_0, m_sc_self, s_scc, m_sc_ne, d_z_o]
  rfl
theorem c114 (ht : 55 ≤ t) (hx : x < 8) : WPC V 114 [.ref 27, .int (nI x)] m n ls st t I L (m_RR e 28 b) Q = WP V m n ls st t (m_sc I 28 (d_cc (I 28) x)) L (m_RR e 28 b) Q := wpc_of (fun Q => w114 ht hx)
def z_bg (g : Nat → Int32) (x : Nat) : Nat := if g (150 + 154 * x) = nI 0 then 0 else 1
theorem w135_4 (ht : 55 ≤ t) (hx : x < 3) {q : Nat} : WP V 135 4 [.ref 27, .int (nI q), .int (nI x)] [] t I L (m_RR e 28 b) Q = WP V 135 4 [.ref 27, .int (nI (q + z_bg (I 28) x)), .int (nI (x + 1))] [] t (m_sc I 28 (d_clt (I 28) x)) L (m_RR e 28 b) Q := by
  have hA := aa28
  have hh : ¬ 3 ≤ x := by omega
  unfold z_bg
  rw [i135_4]
  by_cases hz : I 28 (150 + 154 * x) = nI 0
  · rw [if_pos hz]
    simp (disch := first | assumption | omega | decide) only [nI_add, n_mul, n_sub, n_le, n_lt, n_eq, n_ne1, n_0, m_bl_t, m_bl_f, if_true, if_false, Nat.reduceAdd, Nat.reduceMul, Nat.reduceSub, Nat.reduceLeDiff, Nat.reduceEqDiff, Nat.add_zero, Nat.add_sub_cancel, Option.toList, List.cons_append, List.nil_append, i135_5, i135_6, i135_7, i135_8, i135_9, i135_10, i135_11, i135_12, i135_13, i135_14, i135_15, rv_27_0, hh, c113, hz]
    simp (disch := first | assumption | omega | decide) only [nI_add, n_mul, n_sub, n_le, n_lt, n_eq, n_ne1, n_0, m_bl_t, m_bl_f, if_true, if_false, Nat.reduceAdd, Nat.reduceMul, Nat.reduceSub, Nat.reduceLeDiff, Nat.reduceEqDiff, Nat.add_zero, Nat.add_sub_cancel, Option.toList, List.cons_append, List.nil_append, i135_18, i135_19, i135_20, i135_21, i135_22, i135_23, i135_24, i135_25, c115 ht hx]
  · rw [if_neg hz]
    simp (disch := first | assumption | omega | decide) only [nI_add, n_mul, n_sub, n_le, n_lt, n_eq, n_ne1, n_0, m_bl_t, m_bl_f, if_true, if_false, Nat.reduceAdd, Nat.reduceMul, Nat.reduceSub, Nat.reduceLeDiff, Nat.reduceEqDiff, Nat.add_zero, Nat.add_sub_cancel, Option.toList, List.cons_append, List.nil_append, i135_5, i135_6, i135_7, i135_8, i135_9, i135_10, i135_11, i135_12, i135_13, i135_14, i135_15, rv_27_0, hh, c113, hz]
    simp (disch := first | assumption | omega | decide) only [nI_add, n_mul, n_sub, n_le, n_lt, n_eq, n_ne1, n_0, m_bl_t, m_bl_f, if_true, if_false, Nat.reduceAdd, Nat.reduceMul, Nat.reduceSub, Nat.reduceLeDiff, Nat.reduceEqDiff, Nat.add_zero, Nat.add_sub_cancel, Option.toList, List.cons_append, List.nil_append, i135_16, i135_17, i135_19, i135_20, i135_21, i135_22, i135_23, i135_24, i135_25, c115 ht hx]
def d_ccs (g : Nat → Int32) : Nat → Nat → Int32
  | 0 => g
  | x + 1 => d_cc (d_ccs g x) x
theorem w135_28 (ht : 55 ≤ t) (hx : x < 8) {q : Nat} : WP V 135 28 [.ref 27, .int (nI q), .int (nI x)] [] t I L (m_RR e 28 b) Q = WP V 135 28 [.ref 27, .int (nI q), .int (nI (x + 1))] [] t (m_sc I 28 (d_cc (I 28) x)) L (m_RR e 28 b) Q := by
  have hh : ¬ 8 ≤ x := by omega
  rw [i135_28]
  simp (disch := first | assumption | omega | decide) only [nI_add, n_mul, n_sub, n_le, n_lt, n_eq, n_ne1, n_0, m_bl_t, m_bl_f, if_true, if_false, Nat.reduceAdd, Nat.reduceMul, Nat.reduceSub, Nat.reduceLeDiff, Nat.reduceEqDiff, Nat.add_zero, Nat.add_sub_cancel, Option.toList, List.cons_append, List.nil_append, i135_29, i135_30, i135_31, i135_32, i135_33, i135_34, i135_35, hh, c114 ht hx]
def d_ct3 (g : Nat → Int32) : Nat → Int32 := d_clt (d_clt (d_clt g 0) 1) 2
def d_rs (g : Nat → Int32) : Nat → Int32 := m_sc (m_sc (m_sc (d_ccs (d_ct3 g) 8) 144 (nI 0)) 145 (-1)) 146 (-1)
def z_rsd (I : m_I) : m_I := z_rm (m_sc (m_sc I 28 (d_rs (I 28))) 27 (m_sc (m_sc (I 27) 17 (nI 0)) 4 (nI 0))) 8
theorem w135 (ht : 55 ≤ t) : WP V 135 0 (m_loc 135 [.ref 27]) [] t I L (m_RR e 28 b) Q = Q (some (.int (nI (z_bg (I 28) 0 + z_bg (I 28) 1 + z_bg (I 28) 2)))) t (z_rsd I) L (m_RR e 28 b) := by
  have hA := aa28
  rw [show m_loc 135 [.ref 27] = [.ref 27, m_u, m_u] from rfl]
  have st : ∀ x, x < 8 → WP V 135 28 [.ref 27, .int (nI (z_bg (I 28) 0 + z_bg (I 28) 1 + z_bg (I 28) 2)), .int (nI x)] [] t (m_sc I 28 (d_ccs (d_ct3 (I 28)) x)) L (m_RR e 28 b) Q = WP V 135 28 [.ref 27, .int (nI (z_bg (I 28) 0 + z_bg (I 28) 1 + z_bg (I 28) 2)), .int (nI (x + 1))] [] t (m_sc I 28 (d_ccs (d_ct3 (I 28)) (x + 1))) L (m_RR e 28 b) Q := fun x hx => by
    rw [w135_28 ht hx, s_scc, m_sc_self]
    rfl
  have z1 : z_bg (d_clt (I 28) 0) 1 = z_bg (I 28) 1 := by unfold z_bg; rw [d_clt_o (by omega)]
  have z2 : z_bg (d_clt (d_clt (I 28) 0) 1) 2 = z_bg (I 28) 2 := by unfold z_bg; rw [d_clt_o (by omega), d_clt_o (by omega)]
  simp (disch := first | assumption | omega | decide) only [nI_add, n_mul, n_sub, n_le, n_lt, n_eq, n_ne1, n_0, m_bl_t, m_bl_f, if_true, if_false, Nat.reduceAdd, Nat.reduceMul, Nat.reduceSub, Nat.reduceLeDiff, Nat.reduceEqDiff, Nat.add_zero, Nat.add_sub_cancel, Option.toList, List.cons_append, List.nil_append, i135_0, i135_1, i135_2, i135_3]
  rw [w135_4 ht (x := 0) (by omega), w135_4 ht (x := 1) (by omega), w135_4 ht (x := 2) (by omega)]
  simp only [m_sc_self, s_scc, z1, z2, Nat.zero_add, Nat.reduceAdd]
  have h3 : 3 ≤ 3 := Nat.le_refl _
  rw [i135_4]
  simp (disch := first | assumption | omega | decide) only [nI_add, n_mul, n_sub, n_le, n_lt, n_eq, n_ne1, n_0, m_bl_t, m_bl_f, if_true, if_false, Nat.reduceAdd, Nat.reduceMul, Nat.reduceSub, Nat.reduceLeDiff, Nat.reduceEqDiff, Nat.add_zero, Nat.add_sub_cancel, Option.toList, List.cons_append, List.nil_append, i135_5, i135_6, i135_26, i135_27, h3]
  refine (st 0 (by omega)).trans ((st 1 (by omega)).trans ((st 2 (by omega)).trans ((st 3 (by omega)).trans ((st 4 (by omega)).trans ((st 5 (by omega)).trans ((st 6 (by omega)).trans ((st 7 (by omega)).trans ?_)))))))
  have h8 : 8 ≤ 8 := Nat.le_refl _
  rw [i135_28]
  simp (disch := first | assumption | omega | decide) only [nI_add, n_mul, n_sub, n_le, n_lt, n_eq, n_ne1, n_0, m_bl_t, m_bl_f, if_true, if_false, Nat.reduceAdd, Nat.reduceMul, Nat.reduceSub, Nat.reduceLeDiff, Nat.reduceEqDiff, Nat.add_zero, Nat.add_sub_cancel, Option.toList, List.cons_append, List.nil_append, i135_29, i135_30, i135_36, i135_37, i135_38, i135_39, i135_40, i135_41, i135_42, i135_43, i135_44, i135_45, i135_46, i135_47, i135_48, i135_49, i135_50, i135_51, i135_52, i135_53, i135_54, i135_55, i135_56, rv_27_0, h8, m_sc_self, s_scc, m_sc_ne]
  simp (disch := first | assumption | omega | decide) only [nI_add, n_mul, n_sub, n_le, n_lt, n_eq, n_ne1, n_0, m_bl_t, m_bl_f, if_true, if_false, Nat.reduceAdd, Nat.reduceMul, Nat.reduceSub, Nat.reduceLeDiff, Nat.reduceEqDiff, Nat.add_zero, Nat.add_sub_cancel, Option.toList, List.cons_append, List.nil_append, i135_57, i135_58, i135_59, i135_60, c130 ht]
  rfl
theorem c135 (ht : 55 ≤ t) : WPC V 135 [.ref 27] m n ls st t I L (m_RR e 28 b) Q = WP V m n ls ((.int (nI (z_bg (I 28) 0 + z_bg (I 28) 1 + z_bg (I 28) 2))) :: st) t (z_rsd I) L (m_RR e 28 b) Q := wpc_of (fun Q => w135 ht)
end RZM0
