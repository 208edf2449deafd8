/-! cell: alike -/
section RZL0
variable {f g h f' g' : Nat → Int32} {u v j r x k c b b2 n : Nat}
theorem rl_cb_fr2 (hx : x < 8) (h : rl_cb f g x c n) (hf : ∀ j, 33 ≤ j → j < 145 → (j - 33) % 8 = x → f' j = f j) (hg : ∀ j, 18 * x ≤ j → j < 18 * x + 18 → g' j = g j) : rl_cb f' g' x c n := by
  obtain ⟨h1, h2, h3, h4, h5, h6, h7, h8, h9, h10⟩ := h
  unfold rl_cb
  rw [hf (33 + x) (by omega) (by omega) (by omega), hf (41 + x) (by omega) (by omega) (by omega), hf (49 + x) (by omega) (by omega) (by omega), hf (57 + x) (by omega) (by omega) (by omega), hf (65 + x) (by omega) (by omega) (by omega), hg (18 * x + 15) (by omega) (by omega), hg (18 * x + 16) (by omega) (by omega), hg (18 * x + 17) (by omega) (by omega), hg (18 * x) (by omega) (by omega), hg (18 * x + 1) (by omega) (by omega), hg (18 * x + 2) (by omega) (by omega)]
  refine ⟨h1, h2, h3, h4, h5, h6, h7, h8, h9, fun k hk => ?_⟩
  rw [hf (49 + 24 * k + x) (by omega) (by omega) (by omega), hf (57 + 24 * k + x) (by omega) (by omega) (by omega), hf (65 + 24 * k + x) (by omega) (by omega) (by omega), hg (18 * x + 3 + 3 * k) (by omega) (by omega), hg (18 * x + 3 + 3 * k + 1) (by omega) (by omega), hg (18 * x + 3 + 3 * k + 2) (by omega) (by omega)]
  exact h10 k hk
/-- what cell() lays down -/
def c_lay (f : Nat → Int32) (x : Nat) (v w : Int32) : Nat → Int32 := m_sc (m_sc f (49 + x) v) (57 + x) w
def d_lay (g : Nat → Int32) (x : Nat) (v w : Int32) : Nat → Int32 := m_sc (m_sc (m_sc (m_sc g (18 * x) v) (18 * x + 1) w) (18 * x + 3) v) (18 * x + 3 + 1) w
theorem c_lay_o {v w : Int32} (h : j ≠ 49 + x ∧ j ≠ 57 + x) : c_lay f x v w j = f j := by
  unfold c_lay
  rw [m_sc_ne h.2, m_sc_ne h.1]
theorem d_lay_o {v w : Int32} (h : j ≠ 18 * x ∧ j ≠ 18 * x + 1 ∧ j ≠ 18 * x + 3 ∧ j ≠ 18 * x + 4) : d_lay g x v w j = g j := by
  unfold d_lay
  rw [m_sc_ne (by omega), m_sc_ne (by omega), m_sc_ne (by omega), m_sc_ne (by omega)]
theorem rl_cb_lay {v w : Int32} (hx : x < 8) (hv : rl_val v w) (h : rl_cb f g x c n) : rl_cb (c_lay f x v w) (d_lay g x v w) x c n := by
  obtain ⟨h1, h2, h3, h4, h5, h6, h7, h8, h9, h10⟩ := h
  have a0 : c_lay f x v w (49 + x) = v := by unfold c_lay; rw [m_sc_ne (by omega), m_sc_self]
  have a1 : c_lay f x v w (57 + x) = w := m_sc_self
  have b0 : d_lay g x v w (18 * x) = v := by unfold d_lay; rw [m_sc_ne (by omega), m_sc_ne (by omega), m_sc_ne (by omega), m_sc_self]
  have b1 : d_lay g x v w (18 * x + 1) = w := by unfold d_lay; rw [m_sc_ne (by omega), m_sc_ne (by omega), m_sc_self]
  have b3 : d_lay g x v w (18 * x + 3) = v := by unfold d_lay; rw [m_sc_ne (by omega), m_sc_self]
  have b4 : d_lay g x v w (18 * x + 3 + 1) = w := m_sc_self
  refine ⟨h1, h2, (d_lay_o (by omega)).trans h3, (c_lay_o (by omega)).trans (h4.trans (d_lay_o (by omega)).symm), (c_lay_o (by omega)).trans (h5.trans (d_lay_o (by omega)).symm), a0.trans b0.symm, a1.trans b1.symm, (c_lay_o (by omega)).trans (h8.trans (d_lay_o (by omega)).symm), h9, fun k hk => ?_⟩
  by_cases hk0 : k = 0
  · subst hk0
    obtain ⟨q1, q2⟩ := h10 0 hk
    refine ⟨fun q => ?_, fun q => by omega⟩
    obtain ⟨r1, r2, r3, r4, r5⟩ := q1 q
    rw [show 49 + 24 * 0 + x = 49 + x by omega, show 57 + 24 * 0 + x = 57 + x by omega, show 65 + 24 * 0 + x = 65 + x by omega, show 18 * x + 3 + 3 * 0 = 18 * x + 3 by omega] at *
    rw [a0, a1, b3, b4, c_lay_o (by omega), d_lay_o (by omega)]
    exact ⟨rfl, rfl, r3, r4, hv⟩
  · rw [c_lay_o (by omega), c_lay_o (by omega), c_lay_o (by omega), d_lay_o (by omega), d_lay_o (by omega), d_lay_o (by omega)]
    exact h10 k hk
theorem rl_lay {v w : Int32} (hL : rl_L f g h c b b2) (hx : x < 8) (hfa : ∀ u, u < 3 → f (3 + u) = nI 0 ∧ f (15 + u) = -1) (hv : rl_val v w) (hf : ∀ j, j < 565 → f' j = c_lay f x v w j) : rl_L f' (d_lay g x v w) h c b b2 := by
  obtain ⟨l1, l2, l3, l4, l5, l6⟩ := hL
  have F : ∀ j, j < 565 → j ≠ 49 + x → j ≠ 57 + x → f' j = f j := fun j j1 j2 j3 => (hf j j1).trans (c_lay_o ⟨j2, j3⟩)
  have G : ∀ j, j < 18 * x ∨ 18 * x + 18 ≤ j → d_lay g x v w j = g j := fun j hj => d_lay_o (by omega)
  refine ⟨rl_gl_fr l1 (F _ (by omega) (by omega) (by omega)) (F _ (by omega) (by omega) (by omega)) (F _ (by omega) (by omega) (by omega)) (F _ (by omega) (by omega) (by omega)) (fun j j1 j2 => G j (by omega)) rfl, fun u hu => rl_th_fr (l2 u hu) (fun j hj => F j (by unfold rl_ci at hj; omega) (by unfold rl_ci at hj; omega) (by unfold rl_ci at hj; omega)) (fun j j1 j2 => G j (by omega)), fun y hy => ?_, rl_ow_fr l4 (fun j j1 j2 => F j (by omega) (by omega) (by omega)) (fun u hu => F _ (by omega) (by omega) (by omega)), (fun _ u hu q => absurd ((F _ (by omega) (by omega) (by omega)).trans (hfa u hu).2) q), rl_ag_fr l6 (F _ (by omega) (by omega) (by omega)) rfl (fun u hu => F _ (by omega) (by omega) (by omega)) (fun u hu => F _ (by omega) (by omega) (by omega)) (fun u hu => G _ (by omega))⟩
  obtain ⟨n, hn⟩ := l3 y hy
  by_cases hyx : y = x
  · subst hyx
    exact ⟨n, rl_cb_fr2 hy (rl_cb_lay hy hv hn) (fun j j1 j2 j3 => hf j (by omega)) (fun j j1 j2 => rfl)⟩
  · exact ⟨n, rl_cb_fr2 hy hn (fun j j1 j2 j3 => F j (by omega) (by omega) (by omega)) (fun j j1 j2 => G j (by omega))⟩
end RZL0
section RZL
variable {V : m_V} {m n : Nat} {ls st : List Value} {t N M : Nat} {I I' : m_I} {R : m_R} {L L' : m_L} {e : Option Nat} {a b u x : Nat} {Q : Option Value → Nat → m_I → m_L → m_R → Prop}
theorem w44 {v : Int32} : WP V 44 0 (m_loc 44 [.int v]) [] t I L R Q = Q (some (.int (m_bl (d_in v (nI 0) (nI 2))))) t I L R := by
  rw [show m_loc 44 [.int v] = [.int v] from rfl]
  unfold d_in
  by_cases h0 : v < nI 0
  · have h1 : ¬ nI 0 ≤ v := Int32.not_le.mpr h0
    have e : (decide (nI 0 ≤ v) && decide (v ≤ nI 2)) = false := by rw [decide_eq_false h1, Bool.false_and]
    rw [e]
    simp (disch := first | assumption | omega | decide) only [nI_add, n_mul, n_sub, n_le, n_lt, n_eq, n_ne1, n_0, m_bl_t, m_bl_f, if_true, if_false, Nat.reduceAdd, Nat.reduceMul, Nat.reduceSub, Nat.reduceLeDiff, Nat.reduceEqDiff, Nat.add_zero, Nat.add_sub_cancel, Option.toList, List.cons_append, List.nil_append, i44_0, i44_1, i44_7, i44_8, h0]
  · have h1 : nI 0 ≤ v := Int32.not_lt.mp h0
    by_cases h2 : nI 2 < v
    · have e : (decide (nI 0 ≤ v) && decide (v ≤ nI 2)) = false := by rw [decide_eq_false (Int32.not_le.mpr h2), Bool.and_false]
      rw [e]
      simp (disch := first | assumption | omega | decide) only [nI_add, n_mul, n_sub, n_le, n_lt, n_eq, n_ne1, n_0, m_bl_t, m_bl_f, if_true, if_false, Nat.reduceAdd, Nat.reduceMul, Nat.reduceSub, Nat.reduceLeDiff, Nat.reduceEqDiff, Nat.add_zero, Nat.add_sub_cancel, Option.toList, List.cons_append, List.nil_append, i44_0, i44_1, i44_2, i44_3, i44_4, i44_7, i44_8, h0, h2]
    · have e : (decide (nI 0 ≤ v) && decide (v ≤ nI 2)) = true := by rw [decide_eq_true h1, decide_eq_true (Int32.not_lt.mp h2), Bool.and_true]
      rw [e]
      simp (disch := first | assumption | omega | decide) only [nI_add, n_mul, n_sub, n_le, n_lt, n_eq, n_ne1, n_0, m_bl_t, m_bl_f, if_true, if_false, Nat.reduceAdd, Nat.reduceMul, Nat.reduceSub, Nat.reduceLeDiff, Nat.reduceEqDiff, Nat.add_zero, Nat.add_sub_cancel, Option.toList, List.cons_append, List.nil_append, i44_0, i44_1, i44_2, i44_3, i44_4, i44_5, i44_6, i44_8, h0, h2]
theorem c44 {v : Int32} : WPC V 44 [.int v] m n ls st t I L R Q = WP V m n ls ((.int (m_bl (d_in v (nI 0) (nI 2)))) :: st) t I L R Q := wpc_of (fun Q => w44 )
theorem w47 (ht : 55 ≤ t) : WP V 47 0 (m_loc 47 [.ref 1]) [] t I L (m_RR e a b) Q = Q none t (m_sc I 2 (va_cpy (I 2) (I 2) 49 565 16)) L (m_RR e a b) := by
  rw [show m_loc 47 [.ref 1] = [.ref 1] from rfl]
  simp (disch := first | assumption | omega | decide) only [nI_add, n_mul, n_sub, n_le, n_lt, n_eq, n_ne1, n_0, m_bl_t, m_bl_f, if_true, if_false, Nat.reduceAdd, Nat.reduceMul, Nat.reduceSub, Nat.reduceLeDiff, Nat.reduceEqDiff, Nat.add_zero, Nat.add_sub_cancel, Option.toList, List.cons_append, List.nil_append, i47_0, i47_1, i47_2, i47_3, i47_4, i47_5, i47_6, i47_7, i47_8, rv_13_0, rv_1_0]
theorem c47 (ht : 55 ≤ t) : WPC V 47 [.ref 1] m n ls st t I L (m_RR e a b) Q = WP V m n ls st t (m_sc I 2 (va_cpy (I 2) (I 2) 49 565 16)) L (m_RR e a b) Q := wpc_of (fun Q => w47 ht)
def z_rm1 (J : m_I) (x : Nat) : m_I := m_sc (m_sc J 38 (m_sc (J 38) x (J 28 (18 * x)))) 39 (m_sc (J 39) x (J 28 (18 * x + 1)))
def z_rm (I : m_I) : Nat → m_I
  | 0 => I
  | x + 1 => z_rm1 (z_rm I x) x
theorem z_rm_o {k : Nat} (h : k ≠ 38 ∧ k ≠ 39) : z_rm I x k = I k := by
  induction x with
  | zero => rfl
  | succ x ih =>
    show z_rm1 (z_rm I x) x k = _
    unfold z_rm1
    rw [m_sc_ne h.2, m_sc_ne h.1, ih]
theorem z_rm_38 {y : Nat} : z_rm I x 38 y = if y < x then I 28 (18 * y) else I 38 y := by
  induction x with
  | zero => rw [if_neg (Nat.not_lt_zero _)]; rfl
  | succ x ih =>
    have e : z_rm I (x + 1) 38 = m_sc (z_rm I x 38) x (I 28 (18 * x)) := by
      show z_rm1 (z_rm I x) x 38 = _
      unfold z_rm1
      rw [m_sc_ne (by omega), m_sc_self, z_rm_o (k := 28) (by omega)]
    rw [e]
    by_cases h : y = x
    · subst h; rw [m_sc_self, if_pos (Nat.lt_succ_self _)]
    · rw [m_sc_ne h, ih]
      by_cases h2 : y < x
      · rw [if_pos h2, if_pos (by omega)]
      · rw [if_neg h2, if_neg (by omega)]
theorem z_rm_39 {y : Nat} : z_rm I x 39 y = if y < x then I 28 (18 * y + 1) else I 39 y := by
  induction x with
  | zero => rw [if_neg (Nat.not_lt_zero _)]; rfl
  | succ x ih =>
    have e : z_rm I (x + 1) 39 = m_sc (z_rm I x 39) x (I 28 (18 * x + 1)) := by
      show z_rm1 (z_rm I x) x 39 = _
      unfold z_rm1
      rw [m_sc_self, z_rm_o (k := 28) (by omega)]
    rw [e]
    by_cases h : y = x
    · subst h; rw [m_sc_self, if_pos (Nat.lt_succ_self _)]
    · rw [m_sc_ne h, ih]
      by_cases h2 : y < x
      · rw [if_pos h2, if_pos (by omega)]
      · rw [if_neg h2, if_neg (by omega)]
theorem w130_2 (ht : 55 ≤ t) (hx : x < 8) : WP V 130 2 [.ref 27, .int (nI x)] [] t I L (m_RR e 28 b) Q = WP V 130 2 [.ref 27, .int (nI (x + 1))] [] t (z_rm1 I x) L (m_RR e 28 b) Q := by
  have hA := aa28
  have hh : ¬ 8 ≤ x := by omega
  rw [i130_2]
  simp (disch := first | assumption | omega | decide) only [nI_add, n_mul, n_sub, n_le, n_lt, n_eq, n_ne1, n_0, m_bl_t, m_bl_f, if_true, if_false, Nat.reduceAdd, Nat.reduceMul, Nat.reduceSub, Nat.reduceLeDiff, Nat.reduceEqDiff, Nat.add_zero, Nat.add_sub_cancel, Option.toList, List.cons_append, List.nil_append, i130_3, i130_4, i130_5, i130_6, i130_7, i130_8, i130_9, i130_10, i130_11, i130_12, i130_13, i130_14, i130_15, i130_16, i130_17, i130_18, i130_19, i130_20, i130_21, i130_22, i130_23, i130_24, i130_25, i130_26, rv_27_0, rv_27_15, rv_27_16, hh, c112, m_sc_ne]
  rfl
theorem w130 (ht : 55 ≤ t) : WP V 130 0 (m_loc 130 [.ref 27]) [] t I L (m_RR e 28 b) Q = Q none t (z_rm I 8) L (m_RR e 28 b) := by
  rw [show m_loc 130 [.ref 27] = [.ref 27, m_u] from rfl]
  have st : ∀ x, x < 8 → WP V 130 2 [.ref 27, .int (nI x)] [] t (z_rm I x) L (m_RR e 28 b) Q = WP V 130 2 [.ref 27, .int (nI (x + 1))] [] t (z_rm I (x + 1)) L (m_RR e 28 b) Q := fun x hx => w130_2 ht hx
  simp (disch := first | assumption | omega | decide) only [nI_add, n_mul, n_sub, n_le, n_lt, n_eq, n_ne1, n_0, m_bl_t, m_bl_f, if_true, if_false, Nat.reduceAdd, Nat.reduceMul, Nat.reduceSub, Nat.reduceLeDiff, Nat.reduceEqDiff, Nat.add_zero, Nat.add_sub_cancel, Option.toList, List.cons_append, List.nil_append, i130_0, i130_1]
  refine (st 0 (by omega)).trans ((st 1 (by omega)).trans ((st 2 (by omega)).trans ((st 3 (by omega)).trans ((st 4 (by omega)).trans ((st 5 (by omega)).trans ((st 6 (by omega)).trans ((st 7 (by omega)).trans ?_)))))))
  have h8 : 8 ≤ 8 := Nat.le_refl _
  rw [i130_2]
  simp (disch := first | assumption | omega | decide) only [nI_add, n_mul, n_sub, n_le, n_lt, n_eq, n_ne1, n_0, m_bl_t, m_bl_f, if_true, if_false, Nat.reduceAdd, Nat.reduceMul, Nat.reduceSub, Nat.reduceLeDiff, Nat.reduceEqDiff, Nat.add_zero, Nat.add_sub_cancel, Option.toList, List.cons_append, List.nil_append, i130_3, i130_4, i130_27, h8]
theorem c130 (ht : 55 ≤ t) : WPC V 130 [.ref 27] m n ls st t I L (m_RR e 28 b) Q = WP V m n ls st t (z_rm I 8) L (m_RR e 28 b) Q := wpc_of (fun Q => w130 ht)
end RZL
