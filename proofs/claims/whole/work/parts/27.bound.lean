/-! specs: bound acts, failing, one step of a thread -/
/-- from the innermost scope on, d of them, down to a floor: the or-else that takes the retry -/
def c_rt (f : Nat → Int32) (u fl : Nat) : Nat → Option (Nat → Int32)
  | 0 => none
  | d + 1 => if d < fl then none else if f (286 + c_sc u d) = nI 14 then
      some (m_sc (m_sc (c_bring f u (c_sc u d)) (12 + u) (nI d)) (6 + u) (m_sc (c_bring f u (c_sc u d)) (12 + u) (nI d) (287 + c_sc u d)))
    else c_rt f u fl d
def c_retry (f : Nat → Int32) (u d o : Nat) : Int32 × (Nat → Int32) :=
  if ¬ f (15 + u) = nI 2 then (nI 105, f) else match c_rt f u o d with
  | some f2 => (nI 1, f2)
  | none => c_sleep f u
def c_fl3 (f : Nat → Int32) (u : Nat) (v : Int32) (o : Nat) : Int32 × (Nat → Int32) :=
  if (c_cau u 0 v o f).1 then (nI 1, (c_cau u 0 v o f).2) else (nI 3, m_sc (m_sc (c_cau u 0 v o f).2 (3 + u) (nI 3)) (9 + u) v)
def c_fail2 (h nn ww : Nat → Int32) (u k : Nat) (v : Int32) (o : Nat) : c_P :=
  if h (15 + u) = nI 3 then ((c_fl3 (c_leave (c_mk h u).1 u) u v o).1, (c_fl3 (c_leave (c_mk h u).1 u) u v o).2, c_note (c_mk h u).1 nn ww u k (c_mk h u).2)
  else if h (15 + u) = -1 then ((c_fl3 h u v o).1, (c_fl3 h u v o).2, nn, ww)
  else if c_stale h u then (nI 2, h, nn, ww)
  else ((c_fl3 (c_leave (va_cpy h h (148 + 47 * u) (21 + 4 * u) 4) u) u v o).1, (c_fl3 (c_leave (va_cpy h h (148 + 47 * u) (21 + 4 * u) 4) u) u v o).2, nn, ww)
def c_fail (f nn ww : Nat → Int32) (u k : Nat) (v : Int32) (d o : Nat) : c_P :=
  if (c_cau u o v d f).1 then (nI 1, (c_cau u o v d f).2, nn, ww) else c_fail2 (c_cau u o v d f).2 nn ww u k v o
theorem c_relx_12 {f : Nat → Int32} {lo x u j : Nat} (h : j < lo ∨ lo + x ≤ j) : c_relx f lo x u j = f j := if_neg (by omega)
theorem c_fill_o {f : Nat → Int32} {lo hi j : Nat} {v : Int32} (h : j < lo ∨ hi ≤ j) : c_fill f lo hi v j = f j := if_neg (by omega)
theorem c_clear_o {f : Nat → Int32} {u j : Nat} (h : j < 152 + 47 * u ∨ 192 + 47 * u ≤ j) : c_clear f u j = f j := by
  unfold c_clear
  rw [c_fill_o (by omega), c_fill_o (by omega), c_fill_o (by omega), c_fill_o (by omega), c_fill_o (by omega)]
theorem c_unlock_o {f : Nat → Int32} {u j : Nat} (h : j ≠ 1) : c_unlock f u j = f j := by
  unfold c_unlock; split
  · exact m_sc_ne h
  · rfl
theorem c_leave_o {f : Nat → Int32} {u j : Nat} (h0 : 2 < j) (h1 : j < 33 ∨ 49 ≤ j) (h2 : j ≠ 15 + u) (h3 : j ≠ 18 + u) (h4 : j < 152 + 47 * u ∨ 192 + 47 * u ≤ j) : c_leave f u j = f j := by
  unfold c_leave
  rw [c_clear_o h4, m_sc_ne h3, m_sc_ne h2]
  have e1 : c_leave2 (c_leave1 f u) u j = c_leave1 f u j := by
    unfold c_leave2; split
    · exact m_sc_ne (by omega)
    · rfl
  rw [e1]
  unfold c_leave1
  rw [c_unlock_o (by omega)]
  unfold c_rel
  rw [c_relx_12 (by omega), c_relx_12 (by omega)]
theorem c_chg_o {f : Nat → Int32} {x j : Nat} (hx : x < 8) (h : j < 73 ∨ 145 ≤ j) : c_chg f x j = f j := by
  unfold c_chg
  repeat rw [m_sc_ne (by omega)]
theorem c_change_o {f : Nat → Int32} {x j : Nat} {v z : Int32} (hx : x < 8) (h : j < 49 ∨ 145 ≤ j) : c_change f x v z j = f j := by
  unfold c_change
  rw [m_sc_ne (by omega), m_sc_ne (by omega), m_sc_ne (by omega), c_chg_o hx (by omega)]
theorem c_mk1_o {s : c_fm} {u x j : Nat} (hx : x < 8) (h0 : j ≠ 0) (h : j < 49 ∨ 145 ≤ j) : (c_mk1 u x s).1 j = s.1 j := by
  unfold c_mk1; split
  · rfl
  · dsimp only
    rw [c_change_o hx h]
    unfold c_mk0; split
    · exact m_sc_ne h0
    · rfl
theorem c_mk_lo {u j : Nat} (h0 : j ≠ 0) (h : j < 49 ∨ 145 ≤ j) : ∀ (c x : Nat) (s : c_fm), x + c = 8 → (s_loop (c_mk1 u) x c s).1 j = s.1 j := by
  intro c
  induction c with
  | zero => intro x s _; rfl
  | succ c ih =>
    intro x s hx
    rw [s_loop, ih (x + 1) _ (by omega), c_mk1_o (by omega) h0 h]
theorem c_mk_o {f : Nat → Int32} {u j : Nat} (h0 : j ≠ 0) (h : j < 49 ∨ 145 ≤ j) : (c_mk f u).1 j = f j := by
  have h2 := c_mk_lo (u := u) h0 h 8 0 (f, nI 0) rfl
  unfold c_mk
  exact h2
theorem c_cau_d {u fl : Nat} {v : Int32} : ∀ (d : Nat) (f : Nat → Int32), fl ≤ d → f (12 + u) = nI d → (c_cau u fl v d f).1 = false → (c_cau u fl v d f).2 (12 + u) = nI fl := by
  intro d
  induction d with
  | zero =>
    intro f h1 h2 _
    obtain rfl : fl = 0 := by omega
    exact h2
  | succ d ih =>
    intro f h1 h2 h3
    rw [c_cau] at h3 ⊢
    by_cases hd : d < fl
    · obtain rfl : fl = d + 1 := by omega
      rw [if_pos hd]; exact h2
    · rw [if_neg hd] at h3 ⊢
      by_cases h4 : f (286 + c_sc u d) = nI 14
      · rw [if_pos h4] at h3 ⊢
        exact ih (m_sc f (12 + u) (nI d)) (by omega) m_sc_self h3
      · rw [if_neg h4] at h3
        cases h3
section T27
variable {V : m_V} {t m n : Nat} {ls st : List Value} {I J : m_I} {f g nn ww : Nat → Int32} {L : m_L} {R : m_R} {e : Option Nat} {a b : Nat} {Q : Option Value → Nat → m_I → m_L → m_R → Prop} {u x k : Nat}
theorem w82_19 (ht : 55 ≤ t) (hu : u < 3) {o : Nat} (ho : c_outer f u = nI o) (ho2 : o ≤ 4) : ∀ (d : Nat) (z : Value), d ≤ 4 → WP V 82 19 [.ref 25, .int (nI u), .int (nI d - nI 1), z] [] t (mC J f g nn ww) L (m_RR e a b) Q = Q (some (.int (match c_rt f u o d with | some f2 => (nI 1, f2) | none => c_sleep f u).1)) t (mC J (match c_rt f u o d with | some f2 => (nI 1, f2) | none => c_sleep f u).2 g nn ww) L (m_RR e a b) := by
  intro d
  induction d with
  | zero =>
    intro z _
    rw [n_sm0, i82_19]
    simp (disch := first | assumption | omega | decide) only [nI_add, n_mul, n_sub, n_le, n_lt, n_eq, n_ne1, n_0, m_bl_t, m_bl_f, if_true, if_false, Nat.reduceAdd, Nat.reduceMul, Nat.reduceSub, Nat.reduceLeDiff, Nat.reduceEqDiff, Nat.add_zero, Nat.add_sub_cancel, Option.toList, List.cons_append, List.nil_append, i82_20, i82_21, i82_22, i82_23, i82_60, i82_61, i82_62, i82_63, i82_64, rv_25_2, mC_2, c78, ho, n_lm1, c_rt, c31]
  | succ d ih =>
    intro z hd
    have hd4 : d < 4 := by omega
    have hsc := c_sc_lt hu hd4
    have e0 : nI (d + 1) - nI 1 = nI d := by rw [n_sub (by omega), Nat.add_sub_cancel]
    rw [e0, i82_19]
    simp (disch := first | assumption | omega | decide) only [nI_add, n_mul, n_sub, n_le, n_lt, n_eq, n_ne1, n_0, m_bl_t, m_bl_f, if_true, if_false, Nat.reduceAdd, Nat.reduceMul, Nat.reduceSub, Nat.reduceLeDiff, Nat.reduceEqDiff, Nat.add_zero, Nat.add_sub_cancel, Option.toList, List.cons_append, List.nil_append, i82_20, i82_21, i82_22, i82_23, mC_2, c78, ho, c_rt]
    by_cases h1 : d < o
    · simp (disch := first | assumption | omega | decide) only [nI_add, n_mul, n_sub, n_le, n_lt, n_eq, n_ne1, n_0, m_bl_t, m_bl_f, if_true, if_false, Nat.reduceAdd, Nat.reduceMul, Nat.reduceSub, Nat.reduceLeDiff, Nat.reduceEqDiff, Nat.add_zero, Nat.add_sub_cancel, Option.toList, List.cons_append, List.nil_append, h1, i82_60, i82_61, i82_62, i82_63, i82_64, rv_25_2, c31]
    · simp (disch := first | assumption | omega | decide) only [nI_add, n_mul, n_sub, n_le, n_lt, n_eq, n_ne1, n_0, m_bl_t, m_bl_f, if_true, if_false, Nat.reduceAdd, Nat.reduceMul, Nat.reduceSub, Nat.reduceLeDiff, Nat.reduceEqDiff, Nat.add_zero, Nat.add_sub_cancel, Option.toList, List.cons_append, List.nil_append, h1, i82_24, i82_25, i82_26, i82_27, i82_28, i82_29, i82_30, i82_31, i82_32, i82_33, i82_34, i82_35, rv_25_1, c77, mC_2, mC_s2]
      by_cases h2 : f (286 + c_sc u d) = nI 14
      · simp (disch := first | assumption | omega | decide) only [nI_add, n_mul, n_sub, n_le, n_lt, n_eq, n_ne1, n_0, m_bl_t, m_bl_f, if_true, if_false, Nat.reduceAdd, Nat.reduceMul, Nat.reduceSub, Nat.reduceLeDiff, Nat.reduceEqDiff, Nat.add_zero, Nat.add_sub_cancel, Option.toList, List.cons_append, List.nil_append, h2, i82_37, i82_38, i82_39, i82_40, i82_41, i82_42, i82_43, i82_44, i82_45, i82_46, i82_47, i82_48, i82_49, i82_50, i82_51, i82_52, i82_53, i82_54, i82_55, i82_56, i82_57, rv_25_1, c81, mC_2, mC_s2, c74]
      · simp (disch := first | assumption | omega | decide) only [nI_add, n_mul, n_sub, n_le, n_lt, n_eq, n_ne1, n_0, m_bl_t, m_bl_f, if_true, if_false, Nat.reduceAdd, Nat.reduceMul, Nat.reduceSub, Nat.reduceLeDiff, Nat.reduceEqDiff, Nat.add_zero, Nat.add_sub_cancel, Option.toList, List.cons_append, List.nil_append, h2, i82_36, i82_58, i82_59, n_am1]
        exact ih _ (by omega)
theorem w82 (ht : 55 ≤ t) (hu : u < 3) {d o : Nat} (hd : d ≤ 4) (hf : f (12 + u) = nI d) (ho : c_outer f u = nI o) (ho2 : o ≤ 4) : WP V 82 0 (m_loc 82 [.ref 25, .int (nI u)]) [] t (mC J f g nn ww) L (m_RR e a b) Q = Q (some (.int (c_retry f u d o).1)) t (mC J (c_retry f u d o).2 g nn ww) L (m_RR e a b) := by
  rw [show m_loc 82 [.ref 25, .int (nI u)] = [.ref 25, .int (nI u), m_u, m_u] from rfl]
  simp (disch := first | assumption | omega | decide) only [nI_add, n_mul, n_sub, n_le, n_lt, n_eq, n_ne1, n_0, m_bl_t, m_bl_f, if_true, if_false, Nat.reduceAdd, Nat.reduceMul, Nat.reduceSub, Nat.reduceLeDiff, Nat.reduceEqDiff, Nat.add_zero, Nat.add_sub_cancel, Option.toList, List.cons_append, List.nil_append, i82_0, i82_1, i82_2, i82_3, i82_4, i82_5, i82_6, i82_7, rv_25_1, mC_2]
  unfold c_retry
  by_cases h : f (15 + u) = nI 2
  · simp (disch := first | assumption | omega | decide) only [nI_add, n_mul, n_sub, n_le, n_lt, n_eq, n_ne1, n_0, m_bl_t, m_bl_f, if_true, if_false, Nat.reduceAdd, Nat.reduceMul, Nat.reduceSub, Nat.reduceLeDiff, Nat.reduceEqDiff, Nat.add_zero, Nat.add_sub_cancel, Option.toList, List.cons_append, List.nil_append, h, i82_10, i82_11, i82_12, i82_13, i82_14, i82_15, i82_16, rv_25_1, mC_2, hf, not_true]
    simp (disch := first | assumption | omega | decide) only [i82_17, i82_18]
    exact w82_19 ht hu ho ho2 d _ hd
  · simp (disch := first | assumption | omega | decide) only [nI_add, n_mul, n_sub, n_le, n_lt, n_eq, n_ne1, n_0, m_bl_t, m_bl_f, if_true, if_false, Nat.reduceAdd, Nat.reduceMul, Nat.reduceSub, Nat.reduceLeDiff, Nat.reduceEqDiff, Nat.add_zero, Nat.add_sub_cancel, Option.toList, List.cons_append, List.nil_append, h, i82_8, i82_9, not_false_iff]
theorem c82 (ht : 55 ≤ t) (hu : u < 3) {d o : Nat} (hd : d ≤ 4) (hf : f (12 + u) = nI d) (ho : c_outer f u = nI o) (ho2 : o ≤ 4) : WPC V 82 [.ref 25, .int (nI u)] m n ls st t (mC J f g nn ww) L (m_RR e a b) Q = WP V m n ls ((.int (c_retry f u d o).1) :: st) t (mC J (c_retry f u d o).2 g nn ww) L (m_RR e a b) Q := wpc_of (fun Q => w82 ht hu hd hf ho ho2)
theorem w83_46 (ht : 55 ≤ t) (hu : u < 3) {v : Int32} {o : Nat} (ho2 : o ≤ 4) (hf : f (12 + u) = nI o) {z : Value} : WP V 83 46 [.ref 25, .int (nI u), .int v, z] [] t (mC J f g nn ww) L (m_RR e a b) Q = Q (some (.int (c_fl3 f u v o).1)) t (mC J (c_fl3 f u v o).2 g nn ww) L (m_RR e a b) := by
  have h0 : (0 : Nat) ≤ 4 := by omega
  simp (disch := first | assumption | omega | decide) only [nI_add, n_mul, n_sub, n_le, n_lt, n_eq, n_ne1, n_0, m_bl_t, m_bl_f, if_true, if_false, Nat.reduceAdd, Nat.reduceMul, Nat.reduceSub, Nat.reduceLeDiff, Nat.reduceEqDiff, Nat.add_zero, Nat.add_sub_cancel, Option.toList, List.cons_append, List.nil_append, i83_46, i83_47, i83_48, i83_49, i83_50, c84 ht hu (d := o), b_0, Bool.false_eq_true, Bool.true_eq_false]
  unfold c_fl3
  cases h : (c_cau u 0 v o f).1
  · simp (disch := first | assumption | omega | decide) only [nI_add, n_mul, n_sub, n_le, n_lt, n_eq, n_ne1, n_0, m_bl_t, m_bl_f, if_true, if_false, Nat.reduceAdd, Nat.reduceMul, Nat.reduceSub, Nat.reduceLeDiff, Nat.reduceEqDiff, Nat.add_zero, Nat.add_sub_cancel, Option.toList, List.cons_append, List.nil_append, i83_51, i83_52, i83_53, i83_54, i83_55, i83_56, i83_57, i83_58, i83_59, i83_60, i83_61, i83_62, i83_63, i83_64, i83_65, i83_66, i83_67, i83_68, i83_69, rv_25_1, mC_2, mC_s2, b_0, Bool.false_eq_true, Bool.true_eq_false]
  · simp (disch := first | assumption | omega | decide) only [nI_add, n_mul, n_sub, n_le, n_lt, n_eq, n_ne1, n_0, m_bl_t, m_bl_f, if_true, if_false, Nat.reduceAdd, Nat.reduceMul, Nat.reduceSub, Nat.reduceLeDiff, Nat.reduceEqDiff, Nat.add_zero, Nat.add_sub_cancel, Option.toList, List.cons_append, List.nil_append, i83_51, i83_52, i83_53, b_0, Bool.false_eq_true, Bool.true_eq_false]
theorem w83_10 (ht : 55 ≤ t) (hu : u < 3) (hk : nn 2 = nI k) (hk2 : k < 1000000) {v : Int32} {o : Nat} (ho2 : o ≤ 4) (hf : f (12 + u) = nI o) : WP V 83 10 [.ref 25, .int (nI u), .int v, m_u] [] t (mC J f g nn ww) L (m_RR e a b) Q = Q (some (.int (c_fail2 f nn ww u k v o).1)) t (mC J (c_fail2 f nn ww u k v o).2.1 g (c_fail2 f nn ww u k v o).2.2.1 (c_fail2 f nn ww u k v o).2.2.2) L (m_RR e a b) := by
  simp (disch := first | assumption | omega | decide) only [nI_add, n_mul, n_sub, n_le, n_lt, n_eq, n_ne1, n_0, m_bl_t, m_bl_f, if_true, if_false, Nat.reduceAdd, Nat.reduceMul, Nat.reduceSub, Nat.reduceLeDiff, Nat.reduceEqDiff, Nat.add_zero, Nat.add_sub_cancel, Option.toList, List.cons_append, List.nil_append, i83_10, i83_11, i83_12, i83_13, i83_14, i83_15, i83_16, i83_17, i83_18, i83_19, rv_25_1, mC_2]
  unfold c_fail2
  by_cases h1 : f (15 + u) = nI 3
  · have e1 : ¬ nI 3 = -1 := by decide
    have e2 : c_leave (c_mk f u).1 u (12 + u) = nI o := by
      rw [c_leave_o (by omega) (by omega) (by omega) (by omega) (by omega), c_mk_o (by omega) (by omega), hf]
    simp (disch := first | assumption | omega | decide) only [nI_add, n_mul, n_sub, n_le, n_lt, n_eq, n_ne1, n_0, m_bl_t, m_bl_f, if_true, if_false, Nat.reduceAdd, Nat.reduceMul, Nat.reduceSub, Nat.reduceLeDiff, Nat.reduceEqDiff, Nat.add_zero, Nat.add_sub_cancel, Option.toList, List.cons_append, List.nil_append, h1, e1, i83_20, i83_21, i83_22, i83_23, i83_24, i83_39, i83_40, i83_41, i83_42, i83_43, i83_44, i83_45, rv_25_2, c25 (k := k), c27, mC_2, mC_s2, Bool.false_eq_true, Bool.true_eq_false, w83_46 ht hu (o := o)]
  · by_cases h2 : f (15 + u) = -1
    · have e1 : ¬ (-1 : Int32) = nI 3 := by decide
      simp (disch := first | assumption | omega | decide) only [nI_add, n_mul, n_sub, n_le, n_lt, n_eq, n_ne1, n_0, m_bl_t, m_bl_f, if_true, if_false, Nat.reduceAdd, Nat.reduceMul, Nat.reduceSub, Nat.reduceLeDiff, Nat.reduceEqDiff, Nat.add_zero, Nat.add_sub_cancel, Option.toList, List.cons_append, List.nil_append, h2, e1, i83_25, i83_26, i83_27, i83_39, i83_40, i83_41, w83_46 ht hu (o := o)]
    · simp (disch := first | assumption | omega | decide) only [nI_add, n_mul, n_sub, n_le, n_lt, n_eq, n_ne1, n_0, m_bl_t, m_bl_f, if_true, if_false, Nat.reduceAdd, Nat.reduceMul, Nat.reduceSub, Nat.reduceLeDiff, Nat.reduceEqDiff, Nat.add_zero, Nat.add_sub_cancel, Option.toList, List.cons_append, List.nil_append, h1, h2, i83_25, i83_26, i83_27, i83_28, i83_29, i83_30, i83_31, i83_32, rv_25_2, c24, b_0, mC_2]
      cases h3 : c_stale f u
      · have e2 : c_leave (va_cpy f f (148 + 47 * u) (21 + 4 * u) 4) u (12 + u) = nI o := by
          rw [c_leave_o (by omega) (by omega) (by omega) (by omega) (by omega), ← hf]
          exact if_neg (by omega)
        simp (disch := first | assumption | omega | decide) only [nI_add, n_mul, n_sub, n_le, n_lt, n_eq, n_ne1, n_0, m_bl_t, m_bl_f, if_true, if_false, Nat.reduceAdd, Nat.reduceMul, Nat.reduceSub, Nat.reduceLeDiff, Nat.reduceEqDiff, Nat.add_zero, Nat.add_sub_cancel, Option.toList, List.cons_append, List.nil_append, h1, h2, i83_35, i83_36, i83_37, i83_38, i83_39, i83_40, i83_41, i83_42, i83_43, i83_44, i83_45, rv_25_2, c26, c27, mC_2, mC_s2, Bool.false_eq_true, Bool.true_eq_false, w83_46 ht hu (o := o)]
      · simp (disch := first | assumption | omega | decide) only [nI_add, n_mul, n_sub, n_le, n_lt, n_eq, n_ne1, n_0, m_bl_t, m_bl_f, if_true, if_false, Nat.reduceAdd, Nat.reduceMul, Nat.reduceSub, Nat.reduceLeDiff, Nat.reduceEqDiff, Nat.add_zero, Nat.add_sub_cancel, Option.toList, List.cons_append, List.nil_append, h3, i83_33, i83_34, Bool.false_eq_true, Bool.true_eq_false]
theorem w83 (ht : 55 ≤ t) (hu : u < 3) (hk : nn 2 = nI k) (hk2 : k < 1000000) {v : Int32} {d o : Nat} (hd : d ≤ 4) (hf : f (12 + u) = nI d) (ho : c_outer f u = nI o) (ho2 : o ≤ d) : WP V 83 0 (m_loc 83 [.ref 25, .int (nI u), .int v]) [] t (mC J f g nn ww) L (m_RR e a b) Q = Q (some (.int (c_fail f nn ww u k v d o).1)) t (mC J (c_fail f nn ww u k v d o).2.1 g (c_fail f nn ww u k v d o).2.2.1 (c_fail f nn ww u k v d o).2.2.2) L (m_RR e a b) := by
  have ho4 : o ≤ 4 := by omega
  rw [show m_loc 83 [.ref 25, .int (nI u), .int v] = [.ref 25, .int (nI u), .int v, m_u] from rfl]
  simp (disch := first | assumption | omega | decide) only [nI_add, n_mul, n_sub, n_le, n_lt, n_eq, n_ne1, n_0, m_bl_t, m_bl_f, if_true, if_false, Nat.reduceAdd, Nat.reduceMul, Nat.reduceSub, Nat.reduceLeDiff, Nat.reduceEqDiff, Nat.add_zero, Nat.add_sub_cancel, Option.toList, List.cons_append, List.nil_append, i83_0, i83_1, i83_2, i83_3, i83_4, i83_5, i83_6, c78, mC_2, ho, c84 ht hu (d := d), b_0, Bool.false_eq_true, Bool.true_eq_false]
  unfold c_fail
  cases h : (c_cau u o v d f).1
  · have e1 := c_cau_d d f ho2 hf h
    simp (disch := first | assumption | omega | decide) only [nI_add, n_mul, n_sub, n_le, n_lt, n_eq, n_ne1, n_0, m_bl_t, m_bl_f, if_true, if_false, Nat.reduceAdd, Nat.reduceMul, Nat.reduceSub, Nat.reduceLeDiff, Nat.reduceEqDiff, Nat.add_zero, Nat.add_sub_cancel, Option.toList, List.cons_append, List.nil_append, i83_7, b_0, Bool.false_eq_true, w83_10 ht hu hk hk2 (o := o)]
  · simp (disch := first | assumption | omega | decide) only [nI_add, n_mul, n_sub, n_le, n_lt, n_eq, n_ne1, n_0, m_bl_t, m_bl_f, if_true, if_false, Nat.reduceAdd, Nat.reduceMul, Nat.reduceSub, Nat.reduceLeDiff, Nat.reduceEqDiff, Nat.add_zero, Nat.add_sub_cancel, Option.toList, List.cons_append, List.nil_append, i83_7, i83_8, i83_9, b_0, Bool.false_eq_true, Bool.true_eq_false]
theorem c83 (ht : 55 ≤ t) (hu : u < 3) (hk : nn 2 = nI k) (hk2 : k < 1000000) {v : Int32} {d o : Nat} (hd : d ≤ 4) (hf : f (12 + u) = nI d) (ho : c_outer f u = nI o) (ho2 : o ≤ d) : WPC V 83 [.ref 25, .int (nI u), .int v] m n ls st t (mC J f g nn ww) L (m_RR e a b) Q = WP V m n ls ((.int (c_fail f nn ww u k v d o).1) :: st) t (mC J (c_fail f nn ww u k v d o).2.1 g (c_fail f nn ww u k v d o).2.2.1 (c_fail f nn ww u k v d o).2.2.2) L (m_RR e a b) Q := wpc_of (fun Q => w83 ht hu hk hk2 hd hf ho ho2)
end T27
/-- a bound act -/
def c_gq (g nn ww : Nat → Int32) (q : Int32 × (Nat → Int32)) : c_R := (q.1, q.2, g, nn, ww)
def c_cloj (q : Int32 × (Nat → Int32)) (u p : Nat) : Int32 × (Nat → Int32) := if q.1 = nI 6 then (nI 1, m_sc q.2 (6 + u) (nI p)) else q
def c_bound (f g nn ww : Nat → Int32) (u kk i1 i2 d o k : Nat) : c_R := match kk with
  | 11 => c_gq g nn ww (c_begin f u i1)
  | 12 => c_gp g (c_finish f nn ww u k)
  | 13 => c_gq g nn ww (c_retry f u d o)
  | 14 => c_gq g nn ww (c_open f u 14 i1 d)
  | 15 => c_gq g nn ww (c_cloj (c_clo f u (nI 14) d o) u i1)
  | 16 => c_gq g nn ww (c_open f u 16 i1 d)
  | 17 => c_gq g nn ww (c_clo f u (nI 16) d o)
  | 18 => c_gq g nn ww (c_open f u 18 i1 d)
  | 19 => c_gq g nn ww (c_clo f u (nI 18) d o)
  | 20 => (nI 110 + (f (21 + 4 * u + i1) &&& nI 7), f, g, nn, ww)
  | _ => (nI 6, m_sc f (21 + 4 * u + i1) (m_bl (decide (f (21 + 4 * u + i1) < f (21 + 4 * u + i2)))), g, nn, ww)
section T27b
variable {V : m_V} {t m n : Nat} {ls st : List Value} {I J : m_I} {f g nn ww : Nat → Int32} {L : m_L} {R : m_R} {e : Option Nat} {a b : Nat} {Q : Option Value → Nat → m_I → m_L → m_R → Prop} {u x k : Nat}
theorem w73_k11 (ht : 55 ≤ t) (hu : u < 3) {p i1 i2 i3 d o : Nat} {B : Int32} (hp : p + 3 < 960) (hact : c_act (J 4) p 11 i1 i2 i3 B) (hk : nn 2 = nI k) (hk2 : k < 1000000) (hd : d ≤ 4) (hf : f (12 + u) = nI d) (ho : c_outer f u = nI o) (ho2 : o ≤ d) : WP V 73 0 (m_loc 73 [.ref 25, .int (nI u), .int (nI p)]) [] t (mC J f g nn ww) L (m_RR e a b) Q = Q (some (.int (c_bound f g nn ww u 11 i1 i2 d o k).1)) t (mC J (c_bound f g nn ww u 11 i1 i2 d o k).2.1 (c_bound f g nn ww u 11 i1 i2 d o k).2.2.1 (c_bound f g nn ww u 11 i1 i2 d o k).2.2.2.1 (c_bound f g nn ww u 11 i1 i2 d o k).2.2.2.2) L (m_RR e a b) := by
  rw [show m_loc 73 [.ref 25, .int (nI u), .int (nI p)] = [.ref 25, .int (nI u), .int (nI p), m_u, m_u, m_u, m_u, m_u] from rfl]
  have ho4 : o ≤ 4 := by omega
  obtain ⟨a0, a2, a1, ab, ac⟩ := hact
  have h1 := (a1 (by decide)).1
  have h1l : i1 < 4 := (a1 (by decide)).2
  simp (disch := first | assumption | omega | decide) only [nI_add, n_mul, n_sub, n_le, n_lt, n_eq, n_ne1, n_0, m_bl_t, m_bl_f, if_true, if_false, Nat.reduceAdd, Nat.reduceMul, Nat.reduceSub, Nat.reduceLeDiff, Nat.reduceEqDiff, Nat.add_zero, Nat.add_sub_cancel, Option.toList, List.cons_append, List.nil_append, i73_0, i73_1, i73_2, i73_3, i73_4, i73_5, i73_6, i73_7, i73_8, i73_9, rv_13_1, rv_15_0, rv_1_1, rv_25_0, rv_3_0, i73_10, i73_11, i73_12, i73_13, i73_14, i73_15, i73_16, i73_17, i73_18, i73_19, i73_20, i73_21, i73_22, i73_23, i73_24, i73_25, i73_26, i73_27, mC_2, mC_4, a0, a2, h1, i73_28s11, i73_29, i73_30, i73_31, i73_32, i73_33, i73_34, rv_25_2, c10]
  all_goals simp only [c_bound, c_gp, c_gq]
theorem c73_k11 (ht : 55 ≤ t) (hu : u < 3) {p i1 i2 i3 d o : Nat} {B : Int32} (hp : p + 3 < 960) (hact : c_act (J 4) p 11 i1 i2 i3 B) (hk : nn 2 = nI k) (hk2 : k < 1000000) (hd : d ≤ 4) (hf : f (12 + u) = nI d) (ho : c_outer f u = nI o) (ho2 : o ≤ d) : WPC V 73 [.ref 25, .int (nI u), .int (nI p)] m n ls st t (mC J f g nn ww) L (m_RR e a b) Q = WP V m n ls ((.int (c_bound f g nn ww u 11 i1 i2 d o k).1) :: st) t (mC J (c_bound f g nn ww u 11 i1 i2 d o k).2.1 (c_bound f g nn ww u 11 i1 i2 d o k).2.2.1 (c_bound f g nn ww u 11 i1 i2 d o k).2.2.2.1 (c_bound f g nn ww u 11 i1 i2 d o k).2.2.2.2) L (m_RR e a b) Q := wpc_of (fun Q => w73_k11 ht hu hp hact hk hk2 hd hf ho ho2)
theorem w73_k12 (ht : 55 ≤ t) (hu : u < 3) {p i1 i2 i3 d o : Nat} {B : Int32} (hp : p + 3 < 960) (hact : c_act (J 4) p 12 i1 i2 i3 B) (hk : nn 2 = nI k) (hk2 : k < 1000000) (hd : d ≤ 4) (hf : f (12 + u) = nI d) (ho : c_outer f u = nI o) (ho2 : o ≤ d) : WP V 73 0 (m_loc 73 [.ref 25, .int (nI u), .int (nI p)]) [] t (mC J f g nn ww) L (m_RR e a b) Q = Q (some (.int (c_bound f g nn ww u 12 i1 i2 d o k).1)) t (mC J (c_bound f g nn ww u 12 i1 i2 d o k).2.1 (c_bound f g nn ww u 12 i1 i2 d o k).2.2.1 (c_bound f g nn ww u 12 i1 i2 d o k).2.2.2.1 (c_bound f g nn ww u 12 i1 i2 d o k).2.2.2.2) L (m_RR e a b) := by
  rw [show m_loc 73 [.ref 25, .int (nI u), .int (nI p)] = [.ref 25, .int (nI u), .int (nI p), m_u, m_u, m_u, m_u, m_u] from rfl]
  have ho4 : o ≤ 4 := by omega
  obtain ⟨a0, a2, a1, ab, ac⟩ := hact
  simp (disch := first | assumption | omega | decide) only [nI_add, n_mul, n_sub, n_le, n_lt, n_eq, n_ne1, n_0, m_bl_t, m_bl_f, if_true, if_false, Nat.reduceAdd, Nat.reduceMul, Nat.reduceSub, Nat.reduceLeDiff, Nat.reduceEqDiff, Nat.add_zero, Nat.add_sub_cancel, Option.toList, List.cons_append, List.nil_append, i73_0, i73_1, i73_2, i73_3, i73_4, i73_5, i73_6, i73_7, i73_8, i73_9, rv_13_1, rv_15_0, rv_1_1, rv_25_0, rv_3_0, i73_10, i73_11, i73_12, i73_13, i73_14, i73_15, i73_16, i73_17, i73_18, i73_19, i73_20, i73_21, i73_22, i73_23, i73_24, i73_25, i73_26, i73_27, mC_2, mC_4, a0, a2, i73_28s12, i73_35, i73_36, i73_37, i73_38, i73_39, rv_25_2, c22 (k := k)]
  all_goals simp only [c_bound, c_gp, c_gq]
theorem c73_k12 (ht : 55 ≤ t) (hu : u < 3) {p i1 i2 i3 d o : Nat} {B : Int32} (hp : p + 3 < 960) (hact : c_act (J 4) p 12 i1 i2 i3 B) (hk : nn 2 = nI k) (hk2 : k < 1000000) (hd : d ≤ 4) (hf : f (12 + u) = nI d) (ho : c_outer f u = nI o) (ho2 : o ≤ d) : WPC V 73 [.ref 25, .int (nI u), .int (nI p)] m n ls st t (mC J f g nn ww) L (m_RR e a b) Q = WP V m n ls ((.int (c_bound f g nn ww u 12 i1 i2 d o k).1) :: st) t (mC J (c_bound f g nn ww u 12 i1 i2 d o k).2.1 (c_bound f g nn ww u 12 i1 i2 d o k).2.2.1 (c_bound f g nn ww u 12 i1 i2 d o k).2.2.2.1 (c_bound f g nn ww u 12 i1 i2 d o k).2.2.2.2) L (m_RR e a b) Q := wpc_of (fun Q => w73_k12 ht hu hp hact hk hk2 hd hf ho ho2)
theorem w73_k13 (ht : 55 ≤ t) (hu : u < 3) {p i1 i2 i3 d o : Nat} {B : Int32} (hp : p + 3 < 960) (hact : c_act (J 4) p 13 i1 i2 i3 B) (hk : nn 2 = nI k) (hk2 : k < 1000000) (hd : d ≤ 4) (hf : f (12 + u) = nI d) (ho : c_outer f u = nI o) (ho2 : o ≤ d) : WP V 73 0 (m_loc 73 [.ref 25, .int (nI u), .int (nI p)]) [] t (mC J f g nn ww) L (m_RR e a b) Q = Q (some (.int (c_bound f g nn ww u 13 i1 i2 d o k).1)) t (mC J (c_bound f g nn ww u 13 i1 i2 d o k).2.1 (c_bound f g nn ww u 13 i1 i2 d o k).2.2.1 (c_bound f g nn ww u 13 i1 i2 d o k).2.2.2.1 (c_bound f g nn ww u 13 i1 i2 d o k).2.2.2.2) L (m_RR e a b) := by
  rw [show m_loc 73 [.ref 25, .int (nI u), .int (nI p)] = [.ref 25, .int (nI u), .int (nI p), m_u, m_u, m_u, m_u, m_u] from rfl]
  have ho4 : o ≤ 4 := by omega
  obtain ⟨a0, a2, a1, ab, ac⟩ := hact
  simp (disch := first | assumption | omega | decide) only [nI_add, n_mul, n_sub, n_le, n_lt, n_eq, n_ne1, n_0, m_bl_t, m_bl_f, if_true, if_false, Nat.reduceAdd, Nat.reduceMul, Nat.reduceSub, Nat.reduceLeDiff, Nat.reduceEqDiff, Nat.add_zero, Nat.add_sub_cancel, Option.toList, List.cons_append, List.nil_append, i73_0, i73_1, i73_2, i73_3, i73_4, i73_5, i73_6, i73_7, i73_8, i73_9, rv_13_1, rv_15_0, rv_1_1, rv_25_0, rv_3_0, i73_10, i73_11, i73_12, i73_13, i73_14, i73_15, i73_16, i73_17, i73_18, i73_19, i73_20, i73_21, i73_22, i73_23, i73_24, i73_25, i73_26, i73_27, mC_2, mC_4, a0, a2, i73_28s13, i73_40, i73_41, i73_42, i73_43, c82 ht hu (d := d) (o := o)]
  all_goals simp only [c_bound, c_gp, c_gq]
theorem c73_k13 (ht : 55 ≤ t) (hu : u < 3) {p i1 i2 i3 d o : Nat} {B : Int32} (hp : p + 3 < 960) (hact : c_act (J 4) p 13 i1 i2 i3 B) (hk : nn 2 = nI k) (hk2 : k < 1000000) (hd : d ≤ 4) (hf : f (12 + u) = nI d) (ho : c_outer f u = nI o) (ho2 : o ≤ d) : WPC V 73 [.ref 25, .int (nI u), .int (nI p)] m n ls st t (mC J f g nn ww) L (m_RR e a b) Q = WP V m n ls ((.int (c_bound f g nn ww u 13 i1 i2 d o k).1) :: st) t (mC J (c_bound f g nn ww u 13 i1 i2 d o k).2.1 (c_bound f g nn ww u 13 i1 i2 d o k).2.2.1 (c_bound f g nn ww u 13 i1 i2 d o k).2.2.2.1 (c_bound f g nn ww u 13 i1 i2 d o k).2.2.2.2) L (m_RR e a b) Q := wpc_of (fun Q => w73_k13 ht hu hp hact hk hk2 hd hf ho ho2)
theorem w73_k14 (ht : 55 ≤ t) (hu : u < 3) {p i1 i2 i3 d o : Nat} {B : Int32} (hp : p + 3 < 960) (hact : c_act (J 4) p 14 i1 i2 i3 B) (hk : nn 2 = nI k) (hk2 : k < 1000000) (hd : d ≤ 4) (hf : f (12 + u) = nI d) (ho : c_outer f u = nI o) (ho2 : o ≤ d) : WP V 73 0 (m_loc 73 [.ref 25, .int (nI u), .int (nI p)]) [] t (mC J f g nn ww) L (m_RR e a b) Q = Q (some (.int (c_bound f g nn ww u 14 i1 i2 d o k).1)) t (mC J (c_bound f g nn ww u 14 i1 i2 d o k).2.1 (c_bound f g nn ww u 14 i1 i2 d o k).2.2.1 (c_bound f g nn ww u 14 i1 i2 d o k).2.2.2.1 (c_bound f g nn ww u 14 i1 i2 d o k).2.2.2.2) L (m_RR e a b) := by
  rw [show m_loc 73 [.ref 25, .int (nI u), .int (nI p)] = [.ref 25, .int (nI u), .int (nI p), m_u, m_u, m_u, m_u, m_u] from rfl]
  have ho4 : o ≤ 4 := by omega
  obtain ⟨a0, a2, a1, ab, ac⟩ := hact
  have h1 := (a1 (by decide)).1
  have h1l : i1 < 41 := (a1 (by decide)).2
  simp (disch := first | assumption | omega | decide) only [nI_add, n_mul, n_sub, n_le, n_lt, n_eq, n_ne1, n_0, m_bl_t, m_bl_f, if_true, if_false, Nat.reduceAdd, Nat.reduceMul, Nat.reduceSub, Nat.reduceLeDiff, Nat.reduceEqDiff, Nat.add_zero, Nat.add_sub_cancel, Option.toList, List.cons_append, List.nil_append, i73_0, i73_1, i73_2, i73_3, i73_4, i73_5, i73_6, i73_7, i73_8, i73_9, rv_13_1, rv_15_0, rv_1_1, rv_25_0, rv_3_0, i73_10, i73_11, i73_12, i73_13, i73_14, i73_15, i73_16, i73_17, i73_18, i73_19, i73_20, i73_21, i73_22, i73_23, i73_24, i73_25, i73_26, i73_27, mC_2, mC_4, a0, a2, h1, i73_28s14, i73_44, i73_45, i73_46, i73_47, i73_48, i73_49, i73_50, i73_51, c79 ht hu (d := d)]
  all_goals simp only [c_bound, c_gp, c_gq]
theorem c73_k14 (ht : 55 ≤ t) (hu : u < 3) {p i1 i2 i3 d o : Nat} {B : Int32} (hp : p + 3 < 960) (hact : c_act (J 4) p 14 i1 i2 i3 B) (hk : nn 2 = nI k) (hk2 : k < 1000000) (hd : d ≤ 4) (hf : f (12 + u) = nI d) (ho : c_outer f u = nI o) (ho2 : o ≤ d) : WPC V 73 [.ref 25, .int (nI u), .int (nI p)] m n ls st t (mC J f g nn ww) L (m_RR e a b) Q = WP V m n ls ((.int (c_bound f g nn ww u 14 i1 i2 d o k).1) :: st) t (mC J (c_bound f g nn ww u 14 i1 i2 d o k).2.1 (c_bound f g nn ww u 14 i1 i2 d o k).2.2.1 (c_bound f g nn ww u 14 i1 i2 d o k).2.2.2.1 (c_bound f g nn ww u 14 i1 i2 d o k).2.2.2.2) L (m_RR e a b) Q := wpc_of (fun Q => w73_k14 ht hu hp hact hk hk2 hd hf ho ho2)
theorem w73_k15 (ht : 55 ≤ t) (hu : u < 3) {p i1 i2 i3 d o : Nat} {B : Int32} (hp : p + 3 < 960) (hact : c_act (J 4) p 15 i1 i2 i3 B) (hk : nn 2 = nI k) (hk2 : k < 1000000) (hd : d ≤ 4) (hf : f (12 + u) = nI d) (ho : c_outer f u = nI o) (ho2 : o ≤ d) : WP V 73 0 (m_loc 73 [.ref 25, .int (nI u), .int (nI p)]) [] t (mC J f g nn ww) L (m_RR e a b) Q = Q (some (.int (c_bound f g nn ww u 15 i1 i2 d o k).1)) t (mC J (c_bound f g nn ww u 15 i1 i2 d o k).2.1 (c_bound f g nn ww u 15 i1 i2 d o k).2.2.1 (c_bound f g nn ww u 15 i1 i2 d o k).2.2.2.1 (c_bound f g nn ww u 15 i1 i2 d o k).2.2.2.2) L (m_RR e a b) := by
  rw [show m_loc 73 [.ref 25, .int (nI u), .int (nI p)] = [.ref 25, .int (nI u), .int (nI p), m_u, m_u, m_u, m_u, m_u] from rfl]
  have ho4 : o ≤ 4 := by omega
  obtain ⟨a0, a2, a1, ab, ac⟩ := hact
  have h1 := (a1 (by decide)).1
  have h1l : i1 < 41 := (a1 (by decide)).2
  simp (disch := first | assumption | omega | decide) only [nI_add, n_mul, n_sub, n_le, n_lt, n_eq, n_ne1, n_0, m_bl_t, m_bl_f, if_true, if_false, Nat.reduceAdd, Nat.reduceMul, Nat.reduceSub, Nat.reduceLeDiff, Nat.reduceEqDiff, Nat.add_zero, Nat.add_sub_cancel, Option.toList, List.cons_append, List.nil_append, i73_0, i73_1, i73_2, i73_3, i73_4, i73_5, i73_6, i73_7, i73_8, i73_9, rv_13_1, rv_15_0, rv_1_1, rv_25_0, rv_3_0, i73_10, i73_11, i73_12, i73_13, i73_14, i73_15, i73_16, i73_17, i73_18, i73_19, i73_20, i73_21, i73_22, i73_23, i73_24, i73_25, i73_26, i73_27, mC_2, mC_4, a0, a2, h1, i73_28s15, i73_52, i73_53, i73_54, i73_55, i73_56, i73_57, i73_58, i73_59, c80 ht hu (d := d) (o := o)]
  by_cases h : (c_clo f u (nI 14) d o).1 = nI 6
  · simp (disch := first | assumption | omega | decide) only [nI_add, n_mul, n_sub, n_le, n_lt, n_eq, n_ne1, n_0, m_bl_t, m_bl_f, if_true, if_false, Nat.reduceAdd, Nat.reduceMul, Nat.reduceSub, Nat.reduceLeDiff, Nat.reduceEqDiff, Nat.add_zero, Nat.add_sub_cancel, Option.toList, List.cons_append, List.nil_append, h, i73_60, i73_61, i73_62, i73_63, i73_64, i73_65, i73_66, c74]
    simp only [c_bound, c_gq, c_cloj, h, if_true]
  · simp (disch := first | assumption | omega | decide) only [nI_add, n_mul, n_sub, n_le, n_lt, n_eq, n_ne1, n_0, m_bl_t, m_bl_f, if_true, if_false, Nat.reduceAdd, Nat.reduceMul, Nat.reduceSub, Nat.reduceLeDiff, Nat.reduceEqDiff, Nat.add_zero, Nat.add_sub_cancel, Option.toList, List.cons_append, List.nil_append, h, i73_65, i73_66]
    simp only [c_bound, c_gq, c_cloj, h, if_false]
theorem c73_k15 (ht : 55 ≤ t) (hu : u < 3) {p i1 i2 i3 d o : Nat} {B : Int32} (hp : p + 3 < 960) (hact : c_act (J 4) p 15 i1 i2 i3 B) (hk : nn 2 = nI k) (hk2 : k < 1000000) (hd : d ≤ 4) (hf : f (12 + u) = nI d) (ho : c_outer f u = nI o) (ho2 : o ≤ d) : WPC V 73 [.ref 25, .int (nI u), .int (nI p)] m n ls st t (mC J f g nn ww) L (m_RR e a b) Q = WP V m n ls ((.int (c_bound f g nn ww u 15 i1 i2 d o k).1) :: st) t (mC J (c_bound f g nn ww u 15 i1 i2 d o k).2.1 (c_bound f g nn ww u 15 i1 i2 d o k).2.2.1 (c_bound f g nn ww u 15 i1 i2 d o k).2.2.2.1 (c_bound f g nn ww u 15 i1 i2 d o k).2.2.2.2) L (m_RR e a b) Q := wpc_of (fun Q => w73_k15 ht hu hp hact hk hk2 hd hf ho ho2)
theorem w73_k16 (ht : 55 ≤ t) (hu : u < 3) {p i1 i2 i3 d o : Nat} {B : Int32} (hp : p + 3 < 960) (hact : c_act (J 4) p 16 i1 i2 i3 B) (hk : nn 2 = nI k) (hk2 : k < 1000000) (hd : d ≤ 4) (hf : f (12 + u) = nI d) (ho : c_outer f u = nI o) (ho2 : o ≤ d) : WP V 73 0 (m_loc 73 [.ref 25, .int (nI u), .int (nI p)]) [] t (mC J f g nn ww) L (m_RR e a b) Q = Q (some (.int (c_bound f g nn ww u 16 i1 i2 d o k).1)) t (mC J (c_bound f g nn ww u 16 i1 i2 d o k).2.1 (c_bound f g nn ww u 16 i1 i2 d o k).2.2.1 (c_bound f g nn ww u 16 i1 i2 d o k).2.2.2.1 (c_bound f g nn ww u 16 i1 i2 d o k).2.2.2.2) L (m_RR e a b) := by
  rw [show m_loc 73 [.ref 25, .int (nI u), .int (nI p)] = [.ref 25, .int (nI u), .int (nI p), m_u, m_u, m_u, m_u, m_u] from rfl]
  have ho4 : o ≤ 4 := by omega
  obtain ⟨a0, a2, a1, ab, ac⟩ := hact
  have h1 := (a1 (by decide)).1
  have h1l : i1 < 41 := (a1 (by decide)).2
  simp (disch := first | assumption | omega | decide) only [nI_add, n_mul, n_sub, n_le, n_lt, n_eq, n_ne1, n_0, m_bl_t, m_bl_f, if_true, if_false, Nat.reduceAdd, Nat.reduceMul, Nat.reduceSub, Nat.reduceLeDiff, Nat.reduceEqDiff, Nat.add_zero, Nat.add_sub_cancel, Option.toList, List.cons_append, List.nil_append, i73_0, i73_1, i73_2, i73_3, i73_4, i73_5, i73_6, i73_7, i73_8, i73_9, rv_13_1, rv_15_0, rv_1_1, rv_25_0, rv_3_0, i73_10, i73_11, i73_12, i73_13, i73_14, i73_15, i73_16, i73_17, i73_18, i73_19, i73_20, i73_21, i73_22, i73_23, i73_24, i73_25, i73_26, i73_27, mC_2, mC_4, a0, a2, h1, i73_28s16, i73_44, i73_45, i73_46, i73_47, i73_48, i73_49, i73_50, i73_51, c79 ht hu (d := d)]
  all_goals simp only [c_bound, c_gp, c_gq]
theorem c73_k16 (ht : 55 ≤ t) (hu : u < 3) {p i1 i2 i3 d o : Nat} {B : Int32} (hp : p + 3 < 960) (hact : c_act (J 4) p 16 i1 i2 i3 B) (hk : nn 2 = nI k) (hk2 : k < 1000000) (hd : d ≤ 4) (hf : f (12 + u) = nI d) (ho : c_outer f u = nI o) (ho2 : o ≤ d) : WPC V 73 [.ref 25, .int (nI u), .int (nI p)] m n ls st t (mC J f g nn ww) L (m_RR e a b) Q = WP V m n ls ((.int (c_bound f g nn ww u 16 i1 i2 d o k).1) :: st) t (mC J (c_bound f g nn ww u 16 i1 i2 d o k).2.1 (c_bound f g nn ww u 16 i1 i2 d o k).2.2.1 (c_bound f g nn ww u 16 i1 i2 d o k).2.2.2.1 (c_bound f g nn ww u 16 i1 i2 d o k).2.2.2.2) L (m_RR e a b) Q := wpc_of (fun Q => w73_k16 ht hu hp hact hk hk2 hd hf ho ho2)
theorem w73_k17 (ht : 55 ≤ t) (hu : u < 3) {p i1 i2 i3 d o : Nat} {B : Int32} (hp : p + 3 < 960) (hact : c_act (J 4) p 17 i1 i2 i3 B) (hk : nn 2 = nI k) (hk2 : k < 1000000) (hd : d ≤ 4) (hf : f (12 + u) = nI d) (ho : c_outer f u = nI o) (ho2 : o ≤ d) : WP V 73 0 (m_loc 73 [.ref 25, .int (nI u), .int (nI p)]) [] t (mC J f g nn ww) L (m_RR e a b) Q = Q (some (.int (c_bound f g nn ww u 17 i1 i2 d o k).1)) t (mC J (c_bound f g nn ww u 17 i1 i2 d o k).2.1 (c_bound f g nn ww u 17 i1 i2 d o k).2.2.1 (c_bound f g nn ww u 17 i1 i2 d o k).2.2.2.1 (c_bound f g nn ww u 17 i1 i2 d o k).2.2.2.2) L (m_RR e a b) := by
  rw [show m_loc 73 [.ref 25, .int (nI u), .int (nI p)] = [.ref 25, .int (nI u), .int (nI p), m_u, m_u, m_u, m_u, m_u] from rfl]
  have ho4 : o ≤ 4 := by omega
  obtain ⟨a0, a2, a1, ab, ac⟩ := hact
  simp (disch := first | assumption | omega | decide) only [nI_add, n_mul, n_sub, n_le, n_lt, n_eq, n_ne1, n_0, m_bl_t, m_bl_f, if_true, if_false, Nat.reduceAdd, Nat.reduceMul, Nat.reduceSub, Nat.reduceLeDiff, Nat.reduceEqDiff, Nat.add_zero, Nat.add_sub_cancel, Option.toList, List.cons_append, List.nil_append, i73_0, i73_1, i73_2, i73_3, i73_4, i73_5, i73_6, i73_7, i73_8, i73_9, rv_13_1, rv_15_0, rv_1_1, rv_25_0, rv_3_0, i73_10, i73_11, i73_12, i73_13, i73_14, i73_15, i73_16, i73_17, i73_18, i73_19, i73_20, i73_21, i73_22, i73_23, i73_24, i73_25, i73_26, i73_27, mC_2, mC_4, a0, a2, i73_28s17, i73_67, i73_68, i73_69, i73_70, i73_71, c80 ht hu (d := d) (o := o)]
  all_goals simp only [c_bound, c_gp, c_gq]
theorem c73_k17 (ht : 55 ≤ t) (hu : u < 3) {p i1 i2 i3 d o : Nat} {B : Int32} (hp : p + 3 < 960) (hact : c_act (J 4) p 17 i1 i2 i3 B) (hk : nn 2 = nI k) (hk2 : k < 1000000) (hd : d ≤ 4) (hf : f (12 + u) = nI d) (ho : c_outer f u = nI o) (ho2 : o ≤ d) : WPC V 73 [.ref 25, .int (nI u), .int (nI p)] m n ls st t (mC J f g nn ww) L (m_RR e a b) Q = WP V m n ls ((.int (c_bound f g nn ww u 17 i1 i2 d o k).1) :: st) t (mC J (c_bound f g nn ww u 17 i1 i2 d o k).2.1 (c_bound f g nn ww u 17 i1 i2 d o k).2.2.1 (c_bound f g nn ww u 17 i1 i2 d o k).2.2.2.1 (c_bound f g nn ww u 17 i1 i2 d o k).2.2.2.2) L (m_RR e a b) Q := wpc_of (fun Q => w73_k17 ht hu hp hact hk hk2 hd hf ho ho2)
theorem w73_k18 (ht : 55 ≤ t) (hu : u < 3) {p i1 i2 i3 d o : Nat} {B : Int32} (hp : p + 3 < 960) (hact : c_act (J 4) p 18 i1 i2 i3 B) (hk : nn 2 = nI k) (hk2 : k < 1000000) (hd : d ≤ 4) (hf : f (12 + u) = nI d) (ho : c_outer f u = nI o) (ho2 : o ≤ d) : WP V 73 0 (m_loc 73 [.ref 25, .int (nI u), .int (nI p)]) [] t (mC J f g nn ww) L (m_RR e a b) Q = Q (some (.int (c_bound f g nn ww u 18 i1 i2 d o k).1)) t (mC J (c_bound f g nn ww u 18 i1 i2 d o k).2.1 (c_bound f g nn ww u 18 i1 i2 d o k).2.2.1 (c_bound f g nn ww u 18 i1 i2 d o k).2.2.2.1 (c_bound f g nn ww u 18 i1 i2 d o k).2.2.2.2) L (m_RR e a b) := by
  rw [show m_loc 73 [.ref 25, .int (nI u), .int (nI p)] = [.ref 25, .int (nI u), .int (nI p), m_u, m_u, m_u, m_u, m_u] from rfl]
  have ho4 : o ≤ 4 := by omega
  obtain ⟨a0, a2, a1, ab, ac⟩ := hact
  have h1 := (a1 (by decide)).1
  have h1l : i1 < 41 := (a1 (by decide)).2
  simp (disch := first | assumption | omega | decide) only [nI_add, n_mul, n_sub, n_le, n_lt, n_eq, n_ne1, n_0, m_bl_t, m_bl_f, if_true, if_false, Nat.reduceAdd, Nat.reduceMul, Nat.reduceSub, Nat.reduceLeDiff, Nat.reduceEqDiff, Nat.add_zero, Nat.add_sub_cancel, Option.toList, List.cons_append, List.nil_append, i73_0, i73_1, i73_2, i73_3, i73_4, i73_5, i73_6, i73_7, i73_8, i73_9, rv_13_1, rv_15_0, rv_1_1, rv_25_0, rv_3_0, i73_10, i73_11, i73_12, i73_13, i73_14, i73_15, i73_16, i73_17, i73_18, i73_19, i73_20, i73_21, i73_22, i73_23, i73_24, i73_25, i73_26, i73_27, mC_2, mC_4, a0, a2, h1, i73_28s18, i73_44, i73_45, i73_46, i73_47, i73_48, i73_49, i73_50, i73_51, c79 ht hu (d := d)]
  all_goals simp only [c_bound, c_gp, c_gq]
theorem c73_k18 (ht : 55 ≤ t) (hu : u < 3) {p i1 i2 i3 d o : Nat} {B : Int32} (hp : p + 3 < 960) (hact : c_act (J 4) p 18 i1 i2 i3 B) (hk : nn 2 = nI k) (hk2 : k < 1000000) (hd : d ≤ 4) (hf : f (12 + u) = nI d) (ho : c_outer f u = nI o) (ho2 : o ≤ d) : WPC V 73 [.ref 25, .int (nI u), .int (nI p)] m n ls st t (mC J f g nn ww) L (m_RR e a b) Q = WP V m n ls ((.int (c_bound f g nn ww u 18 i1 i2 d o k).1) :: st) t (mC J (c_bound f g nn ww u 18 i1 i2 d o k).2.1 (c_bound f g nn ww u 18 i1 i2 d o k).2.2.1 (c_bound f g nn ww u 18 i1 i2 d o k).2.2.2.1 (c_bound f g nn ww u 18 i1 i2 d o k).2.2.2.2) L (m_RR e a b) Q := wpc_of (fun Q => w73_k18 ht hu hp hact hk hk2 hd hf ho ho2)
theorem w73_k19 (ht : 55 ≤ t) (hu : u < 3) {p i1 i2 i3 d o : Nat} {B : Int32} (hp : p + 3 < 960) (hact : c_act (J 4) p 19 i1 i2 i3 B) (hk : nn 2 = nI k) (hk2 : k < 1000000) (hd : d ≤ 4) (hf : f (12 + u) = nI d) (ho : c_outer f u = nI o) (ho2 : o ≤ d) : WP V 73 0 (m_loc 73 [.ref 25, .int (nI u), .int (nI p)]) [] t (mC J f g nn ww) L (m_RR e a b) Q = Q (some (.int (c_bound f g nn ww u 19 i1 i2 d o k).1)) t (mC J (c_bound f g nn ww u 19 i1 i2 d o k).2.1 (c_bound f g nn ww u 19 i1 i2 d o k).2.2.1 (c_bound f g nn ww u 19 i1 i2 d o k).2.2.2.1 (c_bound f g nn ww u 19 i1 i2 d o k).2.2.2.2) L (m_RR e a b) := by
  rw [show m_loc 73 [.ref 25, .int (nI u), .int (nI p)] = [.ref 25, .int (nI u), .int (nI p), m_u, m_u, m_u, m_u, m_u] from rfl]
  have ho4 : o ≤ 4 := by omega
  obtain ⟨a0, a2, a1, ab, ac⟩ := hact
  simp (disch := first | assumption | omega | decide) only [nI_add, n_mul, n_sub, n_le, n_lt, n_eq, n_ne1, n_0, m_bl_t, m_bl_f, if_true, if_false, Nat.reduceAdd, Nat.reduceMul, Nat.reduceSub, Nat.reduceLeDiff, Nat.reduceEqDiff, Nat.add_zero, Nat.add_sub_cancel, Option.toList, List.cons_append, List.nil_append, i73_0, i73_1, i73_2, i73_3, i73_4, i73_5, i73_6, i73_7, i73_8, i73_9, rv_13_1, rv_15_0, rv_1_1, rv_25_0, rv_3_0, i73_10, i73_11, i73_12, i73_13, i73_14, i73_15, i73_16, i73_17, i73_18, i73_19, i73_20, i73_21, i73_22, i73_23, i73_24, i73_25, i73_26, i73_27, mC_2, mC_4, a0, a2, i73_28s19, i73_72, i73_73, i73_74, i73_75, i73_76, c80 ht hu (d := d) (o := o)]
  all_goals simp only [c_bound, c_gp, c_gq]
theorem c73_k19 (ht : 55 ≤ t) (hu : u < 3) {p i1 i2 i3 d o : Nat} {B : Int32} (hp : p + 3 < 960) (hact : c_act (J 4) p 19 i1 i2 i3 B) (hk : nn 2 = nI k) (hk2 : k < 1000000) (hd : d ≤ 4) (hf : f (12 + u) = nI d) (ho : c_outer f u = nI o) (ho2 : o ≤ d) : WPC V 73 [.ref 25, .int (nI u), .int (nI p)] m n ls st t (mC J f g nn ww) L (m_RR e a b) Q = WP V m n ls ((.int (c_bound f g nn ww u 19 i1 i2 d o k).1) :: st) t (mC J (c_bound f g nn ww u 19 i1 i2 d o k).2.1 (c_bound f g nn ww u 19 i1 i2 d o k).2.2.1 (c_bound f g nn ww u 19 i1 i2 d o k).2.2.2.1 (c_bound f g nn ww u 19 i1 i2 d o k).2.2.2.2) L (m_RR e a b) Q := wpc_of (fun Q => w73_k19 ht hu hp hact hk hk2 hd hf ho ho2)
theorem w73_k20 (ht : 55 ≤ t) (hu : u < 3) {p i1 i2 i3 d o : Nat} {B : Int32} (hp : p + 3 < 960) (hact : c_act (J 4) p 20 i1 i2 i3 B) (hk : nn 2 = nI k) (hk2 : k < 1000000) (hd : d ≤ 4) (hf : f (12 + u) = nI d) (ho : c_outer f u = nI o) (ho2 : o ≤ d) : WP V 73 0 (m_loc 73 [.ref 25, .int (nI u), .int (nI p)]) [] t (mC J f g nn ww) L (m_RR e a b) Q = Q (some (.int (c_bound f g nn ww u 20 i1 i2 d o k).1)) t (mC J (c_bound f g nn ww u 20 i1 i2 d o k).2.1 (c_bound f g nn ww u 20 i1 i2 d o k).2.2.1 (c_bound f g nn ww u 20 i1 i2 d o k).2.2.2.1 (c_bound f g nn ww u 20 i1 i2 d o k).2.2.2.2) L (m_RR e a b) := by
  rw [show m_loc 73 [.ref 25, .int (nI u), .int (nI p)] = [.ref 25, .int (nI u), .int (nI p), m_u, m_u, m_u, m_u, m_u] from rfl]
  have ho4 : o ≤ 4 := by omega
  obtain ⟨a0, a2, a1, ab, ac⟩ := hact
  have h1 := (a1 (by decide)).1
  have h1l : i1 < 4 := (a1 (by decide)).2
  simp (disch := first | assumption | omega | decide) only [nI_add, n_mul, n_sub, n_le, n_lt, n_eq, n_ne1, n_0, m_bl_t, m_bl_f, if_true, if_false, Nat.reduceAdd, Nat.reduceMul, Nat.reduceSub, Nat.reduceLeDiff, Nat.reduceEqDiff, Nat.add_zero, Nat.add_sub_cancel, Option.toList, List.cons_append, List.nil_append, i73_0, i73_1, i73_2, i73_3, i73_4, i73_5, i73_6, i73_7, i73_8, i73_9, rv_13_1, rv_15_0, rv_1_1, rv_25_0, rv_3_0, i73_10, i73_11, i73_12, i73_13, i73_14, i73_15, i73_16, i73_17, i73_18, i73_19, i73_20, i73_21, i73_22, i73_23, i73_24, i73_25, i73_26, i73_27, mC_2, mC_4, a0, a2, h1, i73_28s20, i73_77, i73_78, i73_79, i73_80, i73_81, i73_82, i73_83, i73_84, i73_85, i73_86, i73_87, rv_25_1]
  all_goals simp only [c_bound, c_gp, c_gq]
theorem c73_k20 (ht : 55 ≤ t) (hu : u < 3) {p i1 i2 i3 d o : Nat} {B : Int32} (hp : p + 3 < 960) (hact : c_act (J 4) p 20 i1 i2 i3 B) (hk : nn 2 = nI k) (hk2 : k < 1000000) (hd : d ≤ 4) (hf : f (12 + u) = nI d) (ho : c_outer f u = nI o) (ho2 : o ≤ d) : WPC V 73 [.ref 25, .int (nI u), .int (nI p)] m n ls st t (mC J f g nn ww) L (m_RR e a b) Q = WP V m n ls ((.int (c_bound f g nn ww u 20 i1 i2 d o k).1) :: st) t (mC J (c_bound f g nn ww u 20 i1 i2 d o k).2.1 (c_bound f g nn ww u 20 i1 i2 d o k).2.2.1 (c_bound f g nn ww u 20 i1 i2 d o k).2.2.2.1 (c_bound f g nn ww u 20 i1 i2 d o k).2.2.2.2) L (m_RR e a b) Q := wpc_of (fun Q => w73_k20 ht hu hp hact hk hk2 hd hf ho ho2)
theorem w73_k21 (ht : 55 ≤ t) (hu : u < 3) {p i1 i2 i3 d o : Nat} {B : Int32} (hp : p + 3 < 960) (hact : c_act (J 4) p 21 i1 i2 i3 B) (hk : nn 2 = nI k) (hk2 : k < 1000000) (hd : d ≤ 4) (hf : f (12 + u) = nI d) (ho : c_outer f u = nI o) (ho2 : o ≤ d) : WP V 73 0 (m_loc 73 [.ref 25, .int (nI u), .int (nI p)]) [] t (mC J f g nn ww) L (m_RR e a b) Q = Q (some (.int (c_bound f g nn ww u 21 i1 i2 d o k).1)) t (mC J (c_bound f g nn ww u 21 i1 i2 d o k).2.1 (c_bound f g nn ww u 21 i1 i2 d o k).2.2.1 (c_bound f g nn ww u 21 i1 i2 d o k).2.2.2.1 (c_bound f g nn ww u 21 i1 i2 d o k).2.2.2.2) L (m_RR e a b) := by
  rw [show m_loc 73 [.ref 25, .int (nI u), .int (nI p)] = [.ref 25, .int (nI u), .int (nI p), m_u, m_u, m_u, m_u, m_u] from rfl]
  have ho4 : o ≤ 4 := by omega
  obtain ⟨a0, a2, a1, ab, ac⟩ := hact
  have h1 := (a1 (by decide)).1
  have h1l : i1 < 4 := (a1 (by decide)).2
  have hb := (ab (by decide)).1
  have hbl : i2 < 4 := (ab (by decide)).2
  have e21 : (nI 21).toInt < 11 ∨ 20 < (nI 21).toInt := by decide
  simp (disch := first | assumption | omega | decide) only [nI_add, n_mul, n_sub, n_le, n_lt, n_eq, n_ne1, n_0, m_bl_t, m_bl_f, if_true, if_false, Nat.reduceAdd, Nat.reduceMul, Nat.reduceSub, Nat.reduceLeDiff, Nat.reduceEqDiff, Nat.add_zero, Nat.add_sub_cancel, Option.toList, List.cons_append, List.nil_append, i73_0, i73_1, i73_2, i73_3, i73_4, i73_5, i73_6, i73_7, i73_8, i73_9, rv_13_1, rv_15_0, rv_1_1, rv_25_0, rv_3_0, i73_10, i73_11, i73_12, i73_13, i73_14, i73_15, i73_16, i73_17, i73_18, i73_19, i73_20, i73_21, i73_22, i73_23, i73_24, i73_25, i73_26, i73_27, mC_2, mC_4, a0, a2, h1, hb, i73_28sd, i73_88, i73_89, i73_90, i73_91, i73_92, i73_93, i73_94, i73_95, i73_96, i73_97, i73_98, i73_99, i73_100, i73_101, i73_102, i73_103, i73_104, i73_105, i73_106, i73_107, i73_108, i73_109, i73_110, i73_111, rv_25_1, mC_s2]
  by_cases h : f (21 + 4 * u + i1) < f (21 + 4 * u + i2)
  · simp [h, Int32.not_le.mpr h, c_bound, m_bl]
  · have h3 : (f (21 + 4 * u + i1) < f (21 + 4 * u + i2)) = False := eq_false h
    simp [Int32.not_lt.mp h, c_bound, m_bl, h3]
theorem c73_k21 (ht : 55 ≤ t) (hu : u < 3) {p i1 i2 i3 d o : Nat} {B : Int32} (hp : p + 3 < 960) (hact : c_act (J 4) p 21 i1 i2 i3 B) (hk : nn 2 = nI k) (hk2 : k < 1000000) (hd : d ≤ 4) (hf : f (12 + u) = nI d) (ho : c_outer f u = nI o) (ho2 : o ≤ d) : WPC V 73 [.ref 25, .int (nI u), .int (nI p)] m n ls st t (mC J f g nn ww) L (m_RR e a b) Q = WP V m n ls ((.int (c_bound f g nn ww u 21 i1 i2 d o k).1) :: st) t (mC J (c_bound f g nn ww u 21 i1 i2 d o k).2.1 (c_bound f g nn ww u 21 i1 i2 d o k).2.2.1 (c_bound f g nn ww u 21 i1 i2 d o k).2.2.2.1 (c_bound f g nn ww u 21 i1 i2 d o k).2.2.2.2) L (m_RR e a b) Q := wpc_of (fun Q => w73_k21 ht hu hp hact hk hk2 hd hf ho ho2)
end T27b
/-- one act, whatever its kind -/
def c_do (J : m_I) (L : m_L) (f g nn ww : Nat → Int32) (u kk i1 i2 i3 d o k : Nat) (B : Int32) : c_R :=
  if kk ≤ 10 then c_plain J L f g nn ww u kk i1 i2 i3 k B else c_bound f g nn ww u kk i1 i2 d o k
def c_take (J : m_I) (L : m_L) (f g nn ww : Nat → Int32) (u : Nat) (w : Bool) (kk i1 i2 i3 d o k : Nat) (B : Int32) : c_R :=
  if f (3 + u) = nI 4 then c_gq g nn ww (c_wake f u)
  else if w then c_do J L f g nn ww u kk i1 i2 i3 d o k B
  else c_gq g nn ww (c_stop f u)
def c_ad1 (q : c_R) (u d o k : Nat) : c_R := if nI 100 ≤ q.1 then ((c_fail q.2.1 q.2.2.2.1 q.2.2.2.2 u k (q.1 - nI 100) d o).1, (c_fail q.2.1 q.2.2.2.1 q.2.2.2.2 u k (q.1 - nI 100) d o).2.1, q.2.2.1, (c_fail q.2.1 q.2.2.2.1 q.2.2.2.2 u k (q.1 - nI 100) d o).2.2.1, (c_fail q.2.1 q.2.2.2.1 q.2.2.2.2 u k (q.1 - nI 100) d o).2.2.2) else q
def c_ad2 (q : c_R) (u : Nat) : c_R := if q.1 = nI 2 then (q.1, c_anew q.2.1 u, q.2.2) else q
def c_ad3 (q : c_R) (u : Nat) : c_R := if q.1 = nI 6 then (nI 1, m_sc q.2.1 (6 + u) (q.2.1 (6 + u) + nI 1), q.2.2) else q
def c_ad4 (q : c_R) (u : Nat) : c_R := if q.1 = nI 0 then (q.1, m_sc q.2.1 (556 + u) (q.2.1 (556 + u) + nI 1), q.2.2) else (q.1, m_sc q.2.1 (553 + u) (q.2.1 (553 + u) + nI 1), q.2.2)
def c_adv (q : c_R) (u d o k : Nat) : c_R := c_ad4 (c_ad3 (c_ad2 (c_ad1 q u d o k) u) u) u
section T27c
variable {V : m_V} {t m n : Nat} {ls st : List Value} {I J : m_I} {f g nn ww : Nat → Int32} {L : m_L} {R : m_R} {e : Option Nat} {a b : Nat} {Q : Option Value → Nat → m_I → m_L → m_R → Prop} {u x k : Nat}
theorem w70_90 (ht : 55 ≤ t) (hu : u < 3) {y : Int32} {q : c_R} : WP V 70 90 [.ref 25, .int (nI u), .int y, .int q.1] [] t (mC J q.2.1 q.2.2.1 q.2.2.2.1 q.2.2.2.2) L (m_RR e a b) Q = Q (some (.int (c_ad4 q u).1)) t (mC J (c_ad4 q u).2.1 (c_ad4 q u).2.2.1 (c_ad4 q u).2.2.2.1 (c_ad4 q u).2.2.2.2) L (m_RR e a b) := by
  obtain ⟨r, f, g, nn, ww⟩ := q
  dsimp only
  simp (disch := first | assumption | omega | decide) only [nI_add, n_mul, n_sub, n_le, n_lt, n_eq, n_ne1, n_0, m_bl_t, m_bl_f, if_true, if_false, Nat.reduceAdd, Nat.reduceMul, Nat.reduceSub, Nat.reduceLeDiff, Nat.reduceEqDiff, Nat.add_zero, Nat.add_sub_cancel, Option.toList, List.cons_append, List.nil_append, i70_90, i70_91, i70_92, i70_93, rv_25_1, mC_2]
  unfold c_ad4
  by_cases h : r = nI 0
  · simp (disch := first | assumption | omega | decide) only [nI_add, n_mul, n_sub, n_le, n_lt, n_eq, n_ne1, n_0, m_bl_t, m_bl_f, if_true, if_false, Nat.reduceAdd, Nat.reduceMul, Nat.reduceSub, Nat.reduceLeDiff, Nat.reduceEqDiff, Nat.add_zero, Nat.add_sub_cancel, Option.toList, List.cons_append, List.nil_append, h, i70_94, i70_95, i70_96, i70_97, i70_98, i70_99, i70_100, i70_101, i70_102, i70_103, i70_104, i70_105, mC_2, mC_s2]
  · simp (disch := first | assumption | omega | decide) only [nI_add, n_mul, n_sub, n_le, n_lt, n_eq, n_ne1, n_0, m_bl_t, m_bl_f, if_true, if_false, Nat.reduceAdd, Nat.reduceMul, Nat.reduceSub, Nat.reduceLeDiff, Nat.reduceEqDiff, Nat.add_zero, Nat.add_sub_cancel, Option.toList, List.cons_append, List.nil_append, h, i70_96, i70_97, i70_98, i70_99, i70_100, i70_101, i70_102, i70_103, i70_104, i70_105, mC_2, mC_s2]
theorem w70_75 (ht : 55 ≤ t) (hu : u < 3) {y : Int32} {q : c_R} : WP V 70 75 [.ref 25, .int (nI u), .int y, .int q.1] [] t (mC J q.2.1 q.2.2.1 q.2.2.2.1 q.2.2.2.2) L (m_RR e a b) Q = Q (some (.int (c_ad4 (c_ad3 q u) u).1)) t (mC J (c_ad4 (c_ad3 q u) u).2.1 (c_ad4 (c_ad3 q u) u).2.2.1 (c_ad4 (c_ad3 q u) u).2.2.2.1 (c_ad4 (c_ad3 q u) u).2.2.2.2) L (m_RR e a b) := by
  rw [← w70_90 (V := V) (L := L) (e := e) (a := a) (b := b) (J := J) (y := y) (Q := Q) ht hu]
  obtain ⟨r, f, g, nn, ww⟩ := q
  dsimp only
  simp (disch := first | assumption | omega | decide) only [nI_add, n_mul, n_sub, n_le, n_lt, n_eq, n_ne1, n_0, m_bl_t, m_bl_f, if_true, if_false, Nat.reduceAdd, Nat.reduceMul, Nat.reduceSub, Nat.reduceLeDiff, Nat.reduceEqDiff, Nat.add_zero, Nat.add_sub_cancel, Option.toList, List.cons_append, List.nil_append, i70_75, i70_76, i70_77]
  unfold c_ad3
  by_cases h : r = nI 6
  · simp (disch := first | assumption | omega | decide) only [nI_add, n_mul, n_sub, n_le, n_lt, n_eq, n_ne1, n_0, m_bl_t, m_bl_f, if_true, if_false, Nat.reduceAdd, Nat.reduceMul, Nat.reduceSub, Nat.reduceLeDiff, Nat.reduceEqDiff, Nat.add_zero, Nat.add_sub_cancel, Option.toList, List.cons_append, List.nil_append, h, i70_78, i70_79, i70_80, i70_81, i70_82, i70_83, i70_84, i70_85, i70_86, i70_87, i70_88, i70_89, rv_25_1, mC_2, mC_s2]
  · simp (disch := first | assumption | omega | decide) only [nI_add, n_mul, n_sub, n_le, n_lt, n_eq, n_ne1, n_0, m_bl_t, m_bl_f, if_true, if_false, Nat.reduceAdd, Nat.reduceMul, Nat.reduceSub, Nat.reduceLeDiff, Nat.reduceEqDiff, Nat.add_zero, Nat.add_sub_cancel, Option.toList, List.cons_append, List.nil_append, h]
theorem w70_68 (ht : 55 ≤ t) (hu : u < 3) {y : Int32} {q : c_R} : WP V 70 68 [.ref 25, .int (nI u), .int y, .int q.1] [] t (mC J q.2.1 q.2.2.1 q.2.2.2.1 q.2.2.2.2) L (m_RR e a b) Q = Q (some (.int (c_ad4 (c_ad3 (c_ad2 q u) u) u).1)) t (mC J (c_ad4 (c_ad3 (c_ad2 q u) u) u).2.1 (c_ad4 (c_ad3 (c_ad2 q u) u) u).2.2.1 (c_ad4 (c_ad3 (c_ad2 q u) u) u).2.2.2.1 (c_ad4 (c_ad3 (c_ad2 q u) u) u).2.2.2.2) L (m_RR e a b) := by
  rw [← w70_75 (V := V) (L := L) (e := e) (a := a) (b := b) (J := J) (y := y) (Q := Q) ht hu]
  obtain ⟨r, f, g, nn, ww⟩ := q
  dsimp only
  simp (disch := first | assumption | omega | decide) only [nI_add, n_mul, n_sub, n_le, n_lt, n_eq, n_ne1, n_0, m_bl_t, m_bl_f, if_true, if_false, Nat.reduceAdd, Nat.reduceMul, Nat.reduceSub, Nat.reduceLeDiff, Nat.reduceEqDiff, Nat.add_zero, Nat.add_sub_cancel, Option.toList, List.cons_append, List.nil_append, i70_68, i70_69, i70_70]
  unfold c_ad2
  by_cases h : r = nI 2
  · simp (disch := first | assumption | omega | decide) only [nI_add, n_mul, n_sub, n_le, n_lt, n_eq, n_ne1, n_0, m_bl_t, m_bl_f, if_true, if_false, Nat.reduceAdd, Nat.reduceMul, Nat.reduceSub, Nat.reduceLeDiff, Nat.reduceEqDiff, Nat.add_zero, Nat.add_sub_cancel, Option.toList, List.cons_append, List.nil_append, h, i70_71, i70_72, i70_73, i70_74, rv_25_2, c30, mC_2, mC_s2]
  · simp (disch := first | assumption | omega | decide) only [nI_add, n_mul, n_sub, n_le, n_lt, n_eq, n_ne1, n_0, m_bl_t, m_bl_f, if_true, if_false, Nat.reduceAdd, Nat.reduceMul, Nat.reduceSub, Nat.reduceLeDiff, Nat.reduceEqDiff, Nat.add_zero, Nat.add_sub_cancel, Option.toList, List.cons_append, List.nil_append, h]
theorem w70_58 (ht : 55 ≤ t) (hu : u < 3) {y : Int32} {q : c_R} {k d o : Nat} (hq : nI 100 ≤ q.1 → (q.2.2.2.1 2 = nI k ∧ k < 1000000) ∧ (d ≤ 4 ∧ q.2.1 (12 + u) = nI d) ∧ c_outer q.2.1 u = nI o ∧ o ≤ d) : WP V 70 58 [.ref 25, .int (nI u), .int y, .int q.1] [] t (mC J q.2.1 q.2.2.1 q.2.2.2.1 q.2.2.2.2) L (m_RR e a b) Q = Q (some (.int (c_adv q u d o k).1)) t (mC J (c_adv q u d o k).2.1 (c_adv q u d o k).2.2.1 (c_adv q u d o k).2.2.2.1 (c_adv q u d o k).2.2.2.2) L (m_RR e a b) := by
  unfold c_adv
  rw [← w70_68 (V := V) (L := L) (e := e) (a := a) (b := b) (J := J) (y := y) (Q := Q) ht hu]
  obtain ⟨r, f, g, nn, ww⟩ := q
  dsimp only at hq ⊢
  simp (disch := first | assumption | omega | decide) only [nI_add, n_mul, n_sub, n_le, n_lt, n_eq, n_ne1, n_0, m_bl_t, m_bl_f, if_true, if_false, Nat.reduceAdd, Nat.reduceMul, Nat.reduceSub, Nat.reduceLeDiff, Nat.reduceEqDiff, Nat.add_zero, Nat.add_sub_cancel, Option.toList, List.cons_append, List.nil_append, i70_58, i70_59, i70_60]
  unfold c_ad1
  by_cases h : nI 100 ≤ r
  · obtain ⟨⟨hk, hk2⟩, ⟨hd, hf⟩, ho, ho2⟩ := hq h
    have h' : ¬ r < nI 100 := Int32.not_lt.mpr h
    simp (disch := first | assumption | omega | decide) only [nI_add, n_mul, n_sub, n_le, n_lt, n_eq, n_ne1, n_0, m_bl_t, m_bl_f, if_true, if_false, Nat.reduceAdd, Nat.reduceMul, Nat.reduceSub, Nat.reduceLeDiff, Nat.reduceEqDiff, Nat.add_zero, Nat.add_sub_cancel, Option.toList, List.cons_append, List.nil_append, h, h', i70_61, i70_62, i70_63, i70_64, i70_65, i70_66, i70_67, c83 ht hu hk hk2 (d := d) (o := o)]
  · have h' : r < nI 100 := Int32.not_le.mp h
    simp (disch := first | assumption | omega | decide) only [nI_add, n_mul, n_sub, n_le, n_lt, n_eq, n_ne1, n_0, m_bl_t, m_bl_f, if_true, if_false, Nat.reduceAdd, Nat.reduceMul, Nat.reduceSub, Nat.reduceLeDiff, Nat.reduceEqDiff, Nat.add_zero, Nat.add_sub_cancel, Option.toList, List.cons_append, List.nil_append, h, h']
theorem w72 (ht : 55 ≤ t) (hu : u < 3) {kk p i1 i2 i3 : Nat} {B : Int32} (hkk : kk ≤ 10) (hp : p + 3 < 960) (hact : c_act (J 4) p kk i1 i2 i3 B) (hO : ∀ x, x < 8 → c_owned f x) (hz : ∀ y, y < 6 → ∃ s, s ≤ 16 ∧ J 8 y = nI s) (hk : nn 2 = nI k) (hk2 : k < 1000000) : WP V 72 0 (m_loc 72 [.ref 25, .int (nI u), .int (nI p)]) [] t (mC J f g nn ww) L (m_RR e a b) Q = Q (some (.int (c_plain J L f g nn ww u kk i1 i2 i3 k B).1)) t (mC J (c_plain J L f g nn ww u kk i1 i2 i3 k B).2.1 (c_plain J L f g nn ww u kk i1 i2 i3 k B).2.2.1 (c_plain J L f g nn ww u kk i1 i2 i3 k B).2.2.2.1 (c_plain J L f g nn ww u kk i1 i2 i3 k B).2.2.2.2) L (m_RR e a b) := by
  rcases (show kk = 0 ∨ kk = 1 ∨ kk = 2 ∨ kk = 3 ∨ kk = 4 ∨ kk = 5 ∨ kk = 6 ∨ kk = 7 ∨ kk = 8 ∨ kk = 9 ∨ kk = 10 by omega) with rfl | rfl | rfl | rfl | rfl | rfl | rfl | rfl | rfl | rfl | rfl
  · exact w72_k0 ht hu hp hact
  · exact w72_k1 ht hu hp hact
  · exact w72_k2 ht hu hp hact
  · exact w72_k3 ht hu hp hact
  · exact w72_k4 ht hu hp hact (hO i2 (hact.2.2.2.1 (by decide)).2)
  · exact w72_k5 ht hu hp hact (hO i1 (hact.2.2.1 (by decide)).2) hk hk2
  · exact w72_k6 ht hu hp hact (hO i1 (hact.2.2.1 (by decide)).2) hk hk2
  · exact w72_k7 ht hu hp hact (hO i1 (hact.2.2.1 (by decide)).2) hk hk2
  · exact w72_k8 ht hu hp hact (hO i2 (hact.2.2.2.1 (by decide)).2) hz
  · exact w72_k9 ht hu hp hact
  · exact w72_k10 ht hu hp hact
theorem c72 (ht : 55 ≤ t) (hu : u < 3) {kk p i1 i2 i3 : Nat} {B : Int32} (hkk : kk ≤ 10) (hp : p + 3 < 960) (hact : c_act (J 4) p kk i1 i2 i3 B) (hO : ∀ x, x < 8 → c_owned f x) (hz : ∀ y, y < 6 → ∃ s, s ≤ 16 ∧ J 8 y = nI s) (hk : nn 2 = nI k) (hk2 : k < 1000000) : WPC V 72 [.ref 25, .int (nI u), .int (nI p)] m n ls st t (mC J f g nn ww) L (m_RR e a b) Q = WP V m n ls ((.int (c_plain J L f g nn ww u kk i1 i2 i3 k B).1) :: st) t (mC J (c_plain J L f g nn ww u kk i1 i2 i3 k B).2.1 (c_plain J L f g nn ww u kk i1 i2 i3 k B).2.2.1 (c_plain J L f g nn ww u kk i1 i2 i3 k B).2.2.2.1 (c_plain J L f g nn ww u kk i1 i2 i3 k B).2.2.2.2) L (m_RR e a b) Q := wpc_of (fun Q => w72 ht hu hkk hp hact hO hz hk hk2)
theorem w73 (ht : 55 ≤ t) (hu : u < 3) {kk p i1 i2 i3 d o : Nat} {B : Int32} (hkk : 10 < kk) (hkk2 : kk ≤ 21) (hp : p + 3 < 960) (hact : c_act (J 4) p kk i1 i2 i3 B) (hk : nn 2 = nI k) (hk2 : k < 1000000) (hd : d ≤ 4) (hf : f (12 + u) = nI d) (ho : c_outer f u = nI o) (ho2 : o ≤ d) : WP V 73 0 (m_loc 73 [.ref 25, .int (nI u), .int (nI p)]) [] t (mC J f g nn ww) L (m_RR e a b) Q = Q (some (.int (c_bound f g nn ww u kk i1 i2 d o k).1)) t (mC J (c_bound f g nn ww u kk i1 i2 d o k).2.1 (c_bound f g nn ww u kk i1 i2 d o k).2.2.1 (c_bound f g nn ww u kk i1 i2 d o k).2.2.2.1 (c_bound f g nn ww u kk i1 i2 d o k).2.2.2.2) L (m_RR e a b) := by
  rcases (show kk = 11 ∨ kk = 12 ∨ kk = 13 ∨ kk = 14 ∨ kk = 15 ∨ kk = 16 ∨ kk = 17 ∨ kk = 18 ∨ kk = 19 ∨ kk = 20 ∨ kk = 21 by omega) with rfl | rfl | rfl | rfl | rfl | rfl | rfl | rfl | rfl | rfl | rfl
  · exact w73_k11 ht hu hp hact hk hk2 hd hf ho ho2
  · exact w73_k12 ht hu hp hact hk hk2 hd hf ho ho2
  · exact w73_k13 ht hu hp hact hk hk2 hd hf ho ho2
  · exact w73_k14 ht hu hp hact hk hk2 hd hf ho ho2
  · exact w73_k15 ht hu hp hact hk hk2 hd hf ho ho2
  · exact w73_k16 ht hu hp hact hk hk2 hd hf ho ho2
  · exact w73_k17 ht hu hp hact hk hk2 hd hf ho ho2
  · exact w73_k18 ht hu hp hact hk hk2 hd hf ho ho2
  · exact w73_k19 ht hu hp hact hk hk2 hd hf ho ho2
  · exact w73_k20 ht hu hp hact hk hk2 hd hf ho ho2
  · exact w73_k21 ht hu hp hact hk hk2 hd hf ho ho2
theorem c73 (ht : 55 ≤ t) (hu : u < 3) {kk p i1 i2 i3 d o : Nat} {B : Int32} (hkk : 10 < kk) (hkk2 : kk ≤ 21) (hp : p + 3 < 960) (hact : c_act (J 4) p kk i1 i2 i3 B) (hk : nn 2 = nI k) (hk2 : k < 1000000) (hd : d ≤ 4) (hf : f (12 + u) = nI d) (ho : c_outer f u = nI o) (ho2 : o ≤ d) : WPC V 73 [.ref 25, .int (nI u), .int (nI p)] m n ls st t (mC J f g nn ww) L (m_RR e a b) Q = WP V m n ls ((.int (c_bound f g nn ww u kk i1 i2 d o k).1) :: st) t (mC J (c_bound f g nn ww u kk i1 i2 d o k).2.1 (c_bound f g nn ww u kk i1 i2 d o k).2.2.1 (c_bound f g nn ww u kk i1 i2 d o k).2.2.2.1 (c_bound f g nn ww u kk i1 i2 d o k).2.2.2.2) L (m_RR e a b) Q := wpc_of (fun Q => w73 ht hu hkk hkk2 hp hact hk hk2 hd hf ho ho2)
theorem w70 (ht : 55 ≤ t) (hu : u < 3) {cc pp s kk i1 i2 i3 d o k2 d2 o2 : Nat} {B : Int32} (hcc : f (561 + u) = nI cc) (hcc2 : cc < 6) (hpp : f (6 + u) = nI pp) (hpp2 : pp < 1000) (hs : J 5 cc = nI s) (hs2 : s ≤ 40) (hact : pp < s → kk ≤ 21 ∧ c_act (J 4) ((cc * 40 + pp) * 4) kk i1 i2 i3 B) (hO : ∀ x, x < 8 → c_owned f x) (hz : ∀ y, y < 6 → ∃ s, s ≤ 16 ∧ J 8 y = nI s) (hk : nn 2 = nI k) (hk2 : k < 1000000) (hd : d ≤ 4) (hf : f (12 + u) = nI d) (ho : c_outer f u = nI o) (ho2 : o ≤ d) (hq : nI 100 ≤ (c_take J L f g nn ww u (decide (pp < s)) kk i1 i2 i3 d o k B).1 → ((c_take J L f g nn ww u (decide (pp < s)) kk i1 i2 i3 d o k B).2.2.2.1 2 = nI k2 ∧ k2 < 1000000) ∧ (d2 ≤ 4 ∧ (c_take J L f g nn ww u (decide (pp < s)) kk i1 i2 i3 d o k B).2.1 (12 + u) = nI d2) ∧ c_outer (c_take J L f g nn ww u (decide (pp < s)) kk i1 i2 i3 d o k B).2.1 u = nI o2 ∧ o2 ≤ d2) : WP V 70 0 (m_loc 70 [.ref 25, .int (nI u)]) [] t (mC J f g nn ww) L (m_RR e a b) Q = Q (some (.int (c_adv (c_take J L f g nn ww u (decide (pp < s)) kk i1 i2 i3 d o k B) u d2 o2 k2).1)) t (mC J (c_adv (c_take J L f g nn ww u (decide (pp < s)) kk i1 i2 i3 d o k B) u d2 o2 k2).2.1 (c_adv (c_take J L f g nn ww u (decide (pp < s)) kk i1 i2 i3 d o k B) u d2 o2 k2).2.2.1 (c_adv (c_take J L f g nn ww u (decide (pp < s)) kk i1 i2 i3 d o k B) u d2 o2 k2).2.2.2.1 (c_adv (c_take J L f g nn ww u (decide (pp < s)) kk i1 i2 i3 d o k B) u d2 o2 k2).2.2.2.2) L (m_RR e a b) := by
  rw [show m_loc 70 [.ref 25, .int (nI u)] = [.ref 25, .int (nI u), m_u, m_u] from rfl]
  have hs5 : mC J f g nn ww 5 cc = nI s := hs
  simp (disch := first | assumption | omega | decide) only [nI_add, n_mul, n_sub, n_le, n_lt, n_eq, n_ne1, n_0, m_bl_t, m_bl_f, if_true, if_false, Nat.reduceAdd, Nat.reduceMul, Nat.reduceSub, Nat.reduceLeDiff, Nat.reduceEqDiff, Nat.add_zero, Nat.add_sub_cancel, Option.toList, List.cons_append, List.nil_append, i70_0, i70_1, i70_2, i70_3, i70_4, i70_5, i70_6, i70_7, i70_8, i70_9, i70_10, i70_11, i70_12, i70_13, i70_14, i70_15, i70_16, i70_17, i70_18, i70_19, i70_20, i70_21, i70_22, i70_23, i70_24, rv_13_1, rv_1_1, rv_25_0, rv_25_1, mC_2, hcc, hpp, c3 ht hcc2 hpp2 hs5 hs2]
  rw [← w70_58 (V := V) (L := L) (e := e) (a := a) (b := b) (J := J) (y := c_at pp s cc) (Q := Q) ht hu hq]
  unfold c_take c_gq
  by_cases h4 : f (3 + u) = nI 4
  · simp (disch := first | assumption | omega | decide) only [nI_add, n_mul, n_sub, n_le, n_lt, n_eq, n_ne1, n_0, m_bl_t, m_bl_f, if_true, if_false, Nat.reduceAdd, Nat.reduceMul, Nat.reduceSub, Nat.reduceLeDiff, Nat.reduceEqDiff, Nat.add_zero, Nat.add_sub_cancel, Option.toList, List.cons_append, List.nil_append, h4, i70_25, i70_26, i70_27, i70_28, i70_29, i70_30, rv_25_2, c32]
  · by_cases h5 : pp < s
    · obtain ⟨hkk, hac⟩ := hact h5
      have e1 : c_at pp s cc = nI ((cc * 40 + pp) * 4) := if_pos h5
      have e2 : (cc * 40 + pp) * 4 + 3 < 960 := by omega
      have e3 : J 4 ((cc * 40 + pp) * 4) = nI kk := hac.1
      unfold c_do
      by_cases h6 : kk ≤ 10
      · have h7 : ¬ 11 ≤ kk := by omega
        simp (disch := first | assumption | omega | decide) only [nI_add, n_mul, n_sub, n_le, n_lt, n_eq, n_ne1, n_0, m_bl_t, m_bl_f, if_true, if_false, Nat.reduceAdd, Nat.reduceMul, Nat.reduceSub, Nat.reduceLeDiff, Nat.reduceEqDiff, Nat.add_zero, Nat.add_sub_cancel, Option.toList, List.cons_append, List.nil_append, h4, h5, h6, h7, e1, e3, decide_true, i70_31, i70_32, i70_33, i70_39, i70_40, i70_41, i70_42, i70_43, i70_44, i70_45, i70_46, i70_47, i70_48, i70_49, i70_50, i70_51, i70_52, rv_13_1, rv_15_0, rv_1_1, rv_25_0, rv_3_0, mC_4, c72 ht hu h6 e2 hac hO hz hk hk2]
      · have h7 : 11 ≤ kk := by omega
        have h8 : 10 < kk := by omega
        simp (disch := first | assumption | omega | decide) only [nI_add, n_mul, n_sub, n_le, n_lt, n_eq, n_ne1, n_0, m_bl_t, m_bl_f, if_true, if_false, Nat.reduceAdd, Nat.reduceMul, Nat.reduceSub, Nat.reduceLeDiff, Nat.reduceEqDiff, Nat.add_zero, Nat.add_sub_cancel, Option.toList, List.cons_append, List.nil_append, h4, h5, h6, h7, e1, e3, decide_true, i70_31, i70_32, i70_33, i70_39, i70_40, i70_41, i70_42, i70_43, i70_44, i70_45, i70_46, i70_53, i70_54, i70_55, i70_56, i70_57, rv_13_1, rv_15_0, rv_1_1, rv_25_0, rv_3_0, mC_4, c73 ht hu h8 hkk e2 hac hk hk2 hd hf ho ho2]
    · have e1 : c_at pp s cc = -1 := if_neg h5
      simp (disch := first | assumption | omega | decide) only [nI_add, n_mul, n_sub, n_le, n_lt, n_eq, n_ne1, n_0, m_bl_t, m_bl_f, if_true, if_false, Nat.reduceAdd, Nat.reduceMul, Nat.reduceSub, Nat.reduceLeDiff, Nat.reduceEqDiff, Nat.add_zero, Nat.add_sub_cancel, Option.toList, List.cons_append, List.nil_append, h4, h5, e1, decide_false, Bool.false_eq_true, i70_31, i70_32, i70_33, i70_34, i70_35, i70_36, i70_37, i70_38, c71]
theorem c70 (ht : 55 ≤ t) (hu : u < 3) {cc pp s kk i1 i2 i3 d o k2 d2 o2 : Nat} {B : Int32} (hcc : f (561 + u) = nI cc) (hcc2 : cc < 6) (hpp : f (6 + u) = nI pp) (hpp2 : pp < 1000) (hs : J 5 cc = nI s) (hs2 : s ≤ 40) (hact : pp < s → kk ≤ 21 ∧ c_act (J 4) ((cc * 40 + pp) * 4) kk i1 i2 i3 B) (hO : ∀ x, x < 8 → c_owned f x) (hz : ∀ y, y < 6 → ∃ s, s ≤ 16 ∧ J 8 y = nI s) (hk : nn 2 = nI k) (hk2 : k < 1000000) (hd : d ≤ 4) (hf : f (12 + u) = nI d) (ho : c_outer f u = nI o) (ho2 : o ≤ d) (hq : nI 100 ≤ (c_take J L f g nn ww u (decide (pp < s)) kk i1 i2 i3 d o k B).1 → ((c_take J L f g nn ww u (decide (pp < s)) kk i1 i2 i3 d o k B).2.2.2.1 2 = nI k2 ∧ k2 < 1000000) ∧ (d2 ≤ 4 ∧ (c_take J L f g nn ww u (decide (pp < s)) kk i1 i2 i3 d o k B).2.1 (12 + u) = nI d2) ∧ c_outer (c_take J L f g nn ww u (decide (pp < s)) kk i1 i2 i3 d o k B).2.1 u = nI o2 ∧ o2 ≤ d2) : WPC V 70 [.ref 25, .int (nI u)] m n ls st t (mC J f g nn ww) L (m_RR e a b) Q = WP V m n ls ((.int (c_adv (c_take J L f g nn ww u (decide (pp < s)) kk i1 i2 i3 d o k B) u d2 o2 k2).1) :: st) t (mC J (c_adv (c_take J L f g nn ww u (decide (pp < s)) kk i1 i2 i3 d o k B) u d2 o2 k2).2.1 (c_adv (c_take J L f g nn ww u (decide (pp < s)) kk i1 i2 i3 d o k B) u d2 o2 k2).2.2.1 (c_adv (c_take J L f g nn ww u (decide (pp < s)) kk i1 i2 i3 d o k B) u d2 o2 k2).2.2.2.1 (c_adv (c_take J L f g nn ww u (decide (pp < s)) kk i1 i2 i3 d o k B) u d2 o2 k2).2.2.2.2) L (m_RR e a b) Q := wpc_of (fun Q => w70 ht hu hcc hcc2 hpp hpp2 hs hs2 hact hO hz hk hk2 hd hf ho ho2 hq)
end T27c
