/-! explore: the class's beginning and end -/
section RBM
variable {V : m_V} {t m n : Nat} {ls st : List Value} {IB IC I : m_I} {L : m_L} {R : m_R} {e : Option Nat} {a b : Nat} {Q : Option Value → Nat → m_I → m_L → m_R → Prop} {f g h hB hu fe ag FE0 : Nat → Int32} {u k c i y N NN own s : Nat} {v : Int32}
def x_z : Nat → Int32 := fun _ => 0
def x_zl : Nat → Int64 := fun _ => 0
def x_Ic (I : m_I) : m_I := m_sc (m_sc (m_sc (m_sc (m_sc (m_sc (m_sc (m_sc I 56 x_z) 57 x_z) 58 x_z) 59 x_z) 60 x_z) 55 (m_sc (I 55) 8 (nI 0))) 61 x_z) 55 (m_sc (m_sc (I 55) 8 (nI 0)) 10 (-1))
def x_Lc (L : m_L) : m_L := m_sc (m_sc (m_sc (m_sc (m_sc (m_sc L 56 x_zl) 57 x_zl) 58 x_zl) 59 x_zl) 60 x_zl) 61 x_zl
def x_Rc (R : m_R) : m_R := m_sc R 55 (m_sc (m_sc (m_sc (m_sc (m_sc (m_sc (m_sc (m_sc (m_sc (R 55) 3 (some 56)) 4 (some 57)) 5 (some 58)) 6 (some 59)) 7 (some 60)) 9 (some 61)) 0 (some 1)) 1 (some 25)) 2 (some 2))
theorem w33 (hR : R 1 0 = some 2) : WP V 33 0 (m_loc 33 [.ref 55, .ref 1, .ref 25]) [] 56 I L R Q = Q none 62 (x_Ic I) (x_Lc L) (x_Rc R) := by
  rw [show m_loc 33 [.ref 55, .ref 1, .ref 25] = [.ref 55, .ref 1, .ref 25] from rfl]
  simp (disch := first | assumption | omega | decide) only [nI_add, n_mul, n_sub, n_le, n_lt, n_eq, n_ne1, n_0, m_bl_t, m_bl_f, if_true, if_false, Nat.reduceAdd, Nat.reduceMul, Nat.reduceSub, Nat.reduceLeDiff, Nat.reduceEqDiff, Nat.add_zero, Nat.add_sub_cancel, Option.toList, List.cons_append, List.nil_append, i33_0, i33_1, i33_2, i33_3, i33_4, i33_5, i33_5n, i33_6, i33_7, i33_8, i33_9, i33_9n, i33_10, i33_11, i33_12, i33_13, i33_13n, i33_14, i33_15, i33_16, i33_17, i33_17n, i33_18, i33_19, i33_20, i33_21, i33_21n, i33_22, i33_23, i33_24, i33_25, i33_26, i33_27, i33_28, i33_28n, i33_29, i33_30, i33_31, i33_32, i33_33, i33_34, i33_34n, i33_35, i33_36, i33_37, i33_37n, i33_38, i33_39, i33_40, i33_41, i33_41n, i33_42, rv_13_0, rv_1_0, m_sc_ne, m_sc_self, s_scc, hR, rv_s]
  rfl
def x_R0 : m_R := m_sc (m_RR none 28 48) 55 (fun _ => none)
theorem x_R_eq : m_sc (x_Rc x_R0) 0 (m_sc (x_Rc x_R0 0) 4 (some 55)) = m_RR (some 55) 28 48 := by
  have q0 : x_Rc x_R0 0 = m_RR none 28 48 0 := by
    unfold x_Rc x_R0
    rw [m_sc_ne (by omega), m_sc_ne (by omega)]
  rw [q0]
  funext k
  by_cases h0 : k = 0
  · subst h0
    rw [m_sc_self]
    funext j
    match j with
    | 0 | 1 | 2 | 3 | 4 | 5 => rfl
    | j + 6 =>
      rw [m_sc_ne (by omega)]
      rfl
  · rw [m_sc_ne h0]
    unfold x_Rc x_R0
    by_cases h5 : k = 55
    · subst h5
      rw [m_sc_self, m_sc_self]
      funext j
      match j with
      | 0 | 1 | 2 | 3 | 4 | 5 | 6 | 7 | 8 | 9 | 10 => rfl
      | j + 11 =>
        rw [m_sc_ne (by omega), m_sc_ne (by omega), m_sc_ne (by omega), m_sc_ne (by omega), m_sc_ne (by omega), m_sc_ne (by omega), m_sc_ne (by omega), m_sc_ne (by omega), m_sc_ne (by omega)]
        rfl
    · rw [m_sc_ne h5, m_sc_ne h5]
      unfold m_RR
      have : m_RT none 28 48 k = m_RT (some 55) 28 48 k := by
        unfold m_RT
        split <;> first | rfl | (exact absurd rfl h0)
      rw [this]
theorem w98_20n : ∃ I' L', (∀ Q, WP V 98 20 [.ref 0, .int v] [] 55 I L (m_RR none 28 48) Q = WP V 98 32 [.ref 0, .int v] [] 62 I' L' (m_RR (some 55) 28 48) Q) ∧ (∀ k, k < 55 → I' k = I k) ∧ (∀ k, k < 55 → L' k = L k) ∧ I' 55 10 = -1 := by
  refine ⟨x_Ic (m_sc I 55 (fun _ => nI 0)), x_Lc L, fun Q => ?_, fun k hk => ?_, fun k hk => ?_, ?_⟩
  · have hR : x_R0 1 0 = some 2 := rfl
    have c33' : ∀ {K : m_I} {m n : Nat} {ls st : List Value} {Q : Option Value → Nat → m_I → m_L → m_R → Prop}, WPC V 33 [.ref 55, .ref 1, .ref 25] m n ls st 56 K L x_R0 Q = WP V m n ls st 62 (x_Ic K) (x_Lc L) (x_Rc x_R0) Q := fun {K m n ls st Q} => wpc_of (fun Q => w33 hR)
    have r0 : x_R0 0 0 = some 1 := rfl
    have r2 : x_R0 0 2 = some 25 := rfl
    have r4 : m_rv (m_RR none 28 48 0 4) = .null := rfl
    have rr : m_sc (m_RR none 28 48) 55 (fun _ => none) = x_R0 := rfl
    simp (disch := first | assumption | omega | decide) only [nI_add, n_mul, n_sub, n_le, n_lt, n_eq, n_ne1, n_0, m_bl_t, m_bl_f, if_true, if_false, Nat.reduceAdd, Nat.reduceMul, Nat.reduceSub, Nat.reduceLeDiff, Nat.reduceEqDiff, Nat.add_zero, Nat.add_sub_cancel, Option.toList, List.cons_append, List.nil_append, i98_20, i98_21, rv_0_4, r4]
    rw [i98_22n]
    simp (disch := first | assumption | omega | decide) only [nI_add, n_mul, n_sub, n_le, n_lt, n_eq, n_ne1, n_0, m_bl_t, m_bl_f, if_true, if_false, Nat.reduceAdd, Nat.reduceMul, Nat.reduceSub, Nat.reduceLeDiff, Nat.reduceEqDiff, Nat.add_zero, Nat.add_sub_cancel, Option.toList, List.cons_append, List.nil_append, i98_23, i98_24]
    rw [rr]
    simp (disch := first | assumption | omega | decide) only [nI_add, n_mul, n_sub, n_le, n_lt, n_eq, n_ne1, n_0, m_bl_t, m_bl_f, if_true, if_false, Nat.reduceAdd, Nat.reduceMul, Nat.reduceSub, Nat.reduceLeDiff, Nat.reduceEqDiff, Nat.add_zero, Nat.add_sub_cancel, Option.toList, List.cons_append, List.nil_append, i98_25, i98_26, i98_27, i98_28, i98_29, i98_30, rv_0_0, rv_0_2, r0, r2, rv_s, c33']
    simp (disch := first | assumption | omega | decide) only [nI_add, n_mul, n_sub, n_le, n_lt, n_eq, n_ne1, n_0, m_bl_t, m_bl_f, if_true, if_false, Nat.reduceAdd, Nat.reduceMul, Nat.reduceSub, Nat.reduceLeDiff, Nat.reduceEqDiff, Nat.add_zero, Nat.add_sub_cancel, Option.toList, List.cons_append, List.nil_append, i98_31, i98_31n]
    rw [x_R_eq]
  · unfold x_Ic
    rw [m_sc_ne (by omega), m_sc_ne (by omega), m_sc_ne (by omega), m_sc_ne (by omega), m_sc_ne (by omega), m_sc_ne (by omega), m_sc_ne (by omega), m_sc_ne (by omega), m_sc_ne (by omega)]
  · unfold x_Lc
    rw [m_sc_ne (by omega), m_sc_ne (by omega), m_sc_ne (by omega), m_sc_ne (by omega), m_sc_ne (by omega), m_sc_ne (by omega)]
  · unfold x_Ic
    rw [m_sc_self, m_sc_self]
theorem w98_20r : WP V 98 20 [.ref 0, .int v] [] 62 I L (m_RR (some 55) 28 48) Q = WP V 98 32 [.ref 0, .int v] [] 62 I L (m_RR (some 55) 28 48) Q := by
  have r4 : m_rv (m_RR (some 55) 28 48 0 4) = .ref 55 := rfl
  simp (disch := first | assumption | omega | decide) only [nI_add, n_mul, n_sub, n_le, n_lt, n_eq, n_ne1, n_0, m_bl_t, m_bl_f, if_true, if_false, Nat.reduceAdd, Nat.reduceMul, Nat.reduceSub, Nat.reduceLeDiff, Nat.reduceEqDiff, Nat.add_zero, Nat.add_sub_cancel, Option.toList, List.cons_append, List.nil_append, i98_20, i98_21, rv_0_4, r4]
  rw [i98_22r]
def x_fl (f : Nat → Int32) (x : Nat) (v : Int32) : Nat → Int32 := fun j => if j < x then v else f j
theorem w196_5 (ht : 62 ≤ t) : ∀ c x, x + c = 1024 → WP V 196 5 [.ref 60, .int v, .int (nI x), .int (nI 1024)] [] t (m_sc I 60 (x_fl (I 60) x v)) L R Q = Q none t (m_sc I 60 (x_fl (I 60) 1024 v)) L R := by
  have ha : m_ar 60 2 1024 = true := by decide
  have hN : 1024 < 2 ^ 31 := by decide
  intro c
  induction c with
  | zero =>
    intro x hx
    obtain rfl : x = 1024 := by omega
    rw [i196_5]
    simp (disch := first | assumption | omega | decide) only [nI_add, n_mul, n_sub, n_le, n_lt, n_eq, n_ne1, n_0, m_bl_t, m_bl_f, if_true, if_false, Nat.reduceAdd, Nat.reduceMul, Nat.reduceSub, Nat.reduceLeDiff, Nat.reduceEqDiff, Nat.add_zero, Nat.add_sub_cancel, Option.toList, List.cons_append, List.nil_append, i196_6, i196_7, i196_14, Nat.le_refl]
  | succ c ih =>
    intro x hx
    have hx4 : ¬ 1024 ≤ x := by omega
    have hx5 : x < 1024 := by omega
    have e1 : m_sc (x_fl (I 60) x v) x v = x_fl (I 60) (x + 1) v := by
      funext j
      unfold x_fl
      by_cases q : j = x
      · subst q; rw [m_sc_self, if_pos (by omega)]
      · rw [m_sc_ne q]
        by_cases q2 : j < x
        · rw [if_pos q2, if_pos (by omega)]
        · rw [if_neg q2, if_neg (by omega)]
    rw [← ih (x + 1) (by omega), i196_5]
    simp (disch := first | assumption | omega | decide) only [nI_add, n_mul, n_sub, n_le, n_lt, n_eq, n_ne1, n_0, m_bl_t, m_bl_f, if_true, if_false, Nat.reduceAdd, Nat.reduceMul, Nat.reduceSub, Nat.reduceLeDiff, Nat.reduceEqDiff, Nat.add_zero, Nat.add_sub_cancel, Option.toList, List.cons_append, List.nil_append, i196_6, i196_7, i196_8, i196_9, i196_10, i196_12, i196_13, i196_11 (N := 1024), hx4, m_sc_self, s_scc, e1]
theorem w196 (ht : 62 ≤ t) : WP V 196 0 (m_loc 196 [.ref 60, .int v]) [] t I L R Q = Q none t (m_sc I 60 (x_fl (I 60) 1024 v)) L R := by
  rw [show m_loc 196 [.ref 60, .int v] = [.ref 60, .int v, m_u, m_u] from rfl]
  have ha : m_ar 60 2 1024 = true := by decide
  have hN : 1024 < 2 ^ 31 := by decide
  have e0 : m_sc I 60 (x_fl (I 60) 0 v) = I := by
    have : x_fl (I 60) 0 v = I 60 := by funext j; unfold x_fl; rw [if_neg (by omega)]
    rw [this, s_sce]
  have e1 := w196_5 (V := V) (I := I) (L := L) (R := R) (Q := Q) (v := v) ht 1024 0 rfl
  rw [e0] at e1
  rw [← e1]
  simp (disch := first | assumption | omega | decide) only [nI_add, n_mul, n_sub, n_le, n_lt, n_eq, n_ne1, n_0, m_bl_t, m_bl_f, if_true, if_false, Nat.reduceAdd, Nat.reduceMul, Nat.reduceSub, Nat.reduceLeDiff, Nat.reduceEqDiff, Nat.add_zero, Nat.add_sub_cancel, Option.toList, List.cons_append, List.nil_append, i196_0, i196_1, i196_2, i196_4, i196_3 (N := 1024) (ty := 2)]
/-- meetAll() before it meets the first -/
theorem c196 (ht : 62 ≤ t) : WPC V 196 [.ref 60, .int v] m n ls st t I L R Q = WP V m n ls st t (m_sc I 60 (x_fl (I 60) 1024 v)) L R Q := wpc_of (fun Q => w196 ht)
def x_I0 (I : m_I) : m_I := m_sc (m_sc (m_sc (m_sc I 56 (va_cpy (I 2) (I 56) 0 0 581)) 10 (m_sc (I 10) 3 (nI 1))) 60 (x_fl (I 60) 1024 (nI 0))) 55 (m_sc (I 55) 8 (nI 0))
theorem x_I0_o (h : k ≠ 10 ∧ k ≠ 55 ∧ k ≠ 56 ∧ k ≠ 60) : x_I0 I k = I k := by
  unfold x_I0
  rw [m_sc_ne h.2.1, m_sc_ne h.2.2.2, m_sc_ne h.1, m_sc_ne h.2.2.1]
theorem x_I0_10 : x_I0 I 10 = m_sc (I 10) 3 (nI 1) := by unfold x_I0; rw [m_sc_ne (by omega), m_sc_ne (by omega), m_sc_self]
theorem x_I0_55 : x_I0 I 55 = m_sc (I 55) 8 (nI 0) := by unfold x_I0; rw [m_sc_self]
theorem x_I0_56 : x_I0 I 56 = va_cpy (I 2) (I 56) 0 0 581 := by unfold x_I0; rw [m_sc_ne (by omega), m_sc_ne (by omega), m_sc_ne (by omega), m_sc_self]
theorem x_I0_60 : x_I0 I 60 = x_fl (I 60) 1024 (nI 0) := by unfold x_I0; rw [m_sc_ne (by omega), m_sc_self]
theorem x_HT0 : z_HT (x_I0 I) 0 := by
  have z : ∀ s, s < 1024 → x_I0 I 60 s = nI 0 := fun s hs => by rw [x_I0_60]; unfold x_fl; rw [if_pos hs]
  exact ⟨by rw [x_I0_55, m_sc_self], fun i hi => by omega, fun s hs => ⟨0, Nat.le_refl _, z s hs⟩, fun i hi => by omega, z_ct_0 1024 z⟩
theorem w34_0 (ht : 62 ≤ t) {N : Nat} (hN : N ≤ 400) (hN0 : 1 ≤ N) (hD : z_D4 (I 2)) : ∃ IC s hv, (∀ Q, WP V 34 0 (m_loc 34 [.ref 55, .int (nI N)]) [] t I L (m_RR e 28 48) Q = WP V 34 26 [.ref 55, .int (nI N), .int (m_bl true), .int (nI 0), m_u] [] t IC L (m_RR e 28 48) Q) ∧ IC = z_put (m_sc (x_I0 I) 2 (z_ags (I 2))) 0 s hv ∧ z_HT IC 1 := by
  have e2 : x_I0 I 2 = I 2 := x_I0_o (by omega)
  obtain ⟨r, IC, m1, m2⟩ := z_meet (V := V) (I := x_I0 I) (L := L) (e := e) (a := 28) (b := 48) (y := 0) ht hN (by omega) x_HT0 (by rw [e2]; exact hD)
  rcases m2 with ⟨_, _, i, hi, _⟩ | ⟨_, ⟨_, q, _⟩ | ⟨m3, _, s, hv, m4, m5⟩⟩
  · omega
  · omega
  · rw [e2] at m4
    refine ⟨IC, s, hv, fun Q => ?_, m4, m5⟩
    rw [show m_loc 34 [.ref 55, .int (nI N)] = [.ref 55, .int (nI N), m_u, m_u, m_u] from rfl]
    simp (disch := first | assumption | omega | decide) only [nI_add, n_mul, n_sub, n_le, n_lt, n_eq, n_ne1, n_0, m_bl_t, m_bl_f, if_true, if_false, Nat.reduceAdd, Nat.reduceMul, Nat.reduceSub, Nat.reduceLeDiff, Nat.reduceEqDiff, Nat.add_zero, Nat.add_sub_cancel, Option.toList, List.cons_append, List.nil_append, i34_0, i34_1, i34_2, i34_3, i34_4, i34_5, i34_6, i34_7, i34_8, i34_9, i34_10, i34_11, i34_12, i34_13, i34_14, i34_15, i34_16, i34_17, i34_18, i34_19, rv_13_3, rv_1_3, rv_55_0, rv_55_2, rv_55_3, rv_55_7, m_01_1, c196 ht, m_sc_ne]
    have ex : m_sc (m_sc (m_sc (m_sc I 56 (va_cpy (I 2) (I 56) 0 0 581)) 10 (m_sc (I 10) 3 (nI 1))) 60 (x_fl (I 60) 1024 (nI 0))) 55 (m_sc (I 55) 8 (nI 0)) = x_I0 I := rfl
    rw [ex]
    simp (disch := first | assumption | omega | decide) only [nI_add, n_mul, n_sub, n_le, n_lt, n_eq, n_ne1, n_0, m_bl_t, m_bl_f, if_true, if_false, Nat.reduceAdd, Nat.reduceMul, Nat.reduceSub, Nat.reduceLeDiff, Nat.reduceEqDiff, Nat.add_zero, Nat.add_sub_cancel, Option.toList, List.cons_append, List.nil_append, i34_20, i34_21, i34_22, i34_23, i34_24, i34_25, wpc_of m1, m3]
/-- meetAll()'s end -/
def x_I9 (I : m_I) : m_I := m_sc (m_sc I 10 (m_sc (I 10) 3 (nI 0))) 2 (va_cpy (I 56) (I 2) 0 0 581)
theorem w34_81f (ht : 62 ≤ t) {w3 w4 : Value} : WP V 34 81 [.ref 55, .int (nI N), .int (m_bl false), w3, w4] [] t I L (m_RR e 28 48) Q = Q (some (.int (-1 - nI N))) t (x_I9 I) L (m_RR e 28 48) := by
  simp (disch := first | assumption | omega | decide) only [nI_add, n_mul, n_sub, n_le, n_lt, n_eq, n_ne1, n_0, m_bl_t, m_bl_f, if_true, if_false, Nat.reduceAdd, Nat.reduceMul, Nat.reduceSub, Nat.reduceLeDiff, Nat.reduceEqDiff, Nat.add_zero, Nat.add_sub_cancel, Option.toList, List.cons_append, List.nil_append, i34_81, i34_82, i34_83, i34_84, i34_85, i34_86, i34_87, i34_88, i34_89, i34_90, i34_91, i34_92, i34_93, i34_94, i34_95, i34_96, i34_97, i34_98, i34_99, rv_13_3, rv_1_3, rv_55_0, rv_55_2, rv_55_3, m_01_0, m_sc_ne]
  rfl
theorem w34_81t (ht : 62 ≤ t) (hy : y ≤ 400) (h8 : I 55 8 = nI y) {w3 w4 : Value} : WP V 34 81 [.ref 55, .int (nI N), .int (m_bl true), w3, w4] [] t I L (m_RR e 28 48) Q = Q (some (.int (nI y))) t (z_gm (x_I9 I) (e_f (I 61) (z_er (I 57)) (z_S (I 59)) y)) L (m_RR e 28 48) := by
  have n10 : ¬ nI 1 = nI 0 := by decide
  have o : ∀ k, k ≠ 10 → k ≠ 2 → x_I9 I k = I k := fun k k1 k2 => by unfold x_I9; rw [m_sc_ne k2, m_sc_ne k1]
  have ex : m_sc (m_sc I 10 (m_sc (I 10) 3 (nI 0))) 2 (va_cpy (I 56) (I 2) 0 0 581) = x_I9 I := rfl
  have h8' : x_I9 I 55 8 = nI y := by rw [o 55 (by omega) (by omega)]; exact h8
  have e61 := o 61 (by omega) (by omega)
  have e57 := o 57 (by omega) (by omega)
  have e59 := o 59 (by omega) (by omega)
  have g8 : ∀ q : Nat × (Nat → Int32), z_gm (x_I9 I) q 55 8 = nI y := fun q => by
    unfold z_gm; rw [m_sc_self, m_sc_ne (by omega)]; exact h8'
  simp (disch := first | assumption | omega | decide) only [nI_add, n_mul, n_sub, n_le, n_lt, n_eq, n_ne1, n_0, m_bl_t, m_bl_f, if_true, if_false, Nat.reduceAdd, Nat.reduceMul, Nat.reduceSub, Nat.reduceLeDiff, Nat.reduceEqDiff, Nat.add_zero, Nat.add_sub_cancel, Option.toList, List.cons_append, List.nil_append, i34_81, i34_82, i34_83, i34_84, i34_85, i34_86, i34_87, i34_88, i34_89, i34_90, i34_91, i34_92, i34_93, rv_13_3, rv_1_3, rv_55_0, rv_55_2, rv_55_3, m_01_0, m_sc_ne]
  rw [ex]
  simp (disch := first | assumption | omega | decide) only [nI_add, n_mul, n_sub, n_le, n_lt, n_eq, n_ne1, n_0, m_bl_t, m_bl_f, if_true, if_false, Nat.reduceAdd, Nat.reduceMul, Nat.reduceSub, Nat.reduceLeDiff, Nat.reduceEqDiff, Nat.add_zero, Nat.add_sub_cancel, Option.toList, List.cons_append, List.nil_append, i34_94, i34_95, i34_100, i34_101, i34_102, i34_103, i34_104, n10, c41 ht hy h8', e61, e57, e59, g8]
end RBM
