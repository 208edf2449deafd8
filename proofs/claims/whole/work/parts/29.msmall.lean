/-! specs: the model's smaller methods -/
def d_cp1 (lo hi x : Nat) (g : Nat → Int32) : Nat → Int32 := m_sc g (hi + x) (g (lo + x))
/-- n ints from lo on, copied to hi on, one by one -/
def d_cp (g : Nat → Int32) (lo hi n : Nat) : Nat → Int32 := s_loop (d_cp1 lo hi) 0 n g
def d_beg1 (g : Nat → Int32) (u : Nat) : Nat → Int32 := m_sc (d_dis (d_el (d_er g u) u) u) (150 + 154 * u + 103) (d_dis (d_el (d_er g u) u) u 144)
def d_beg2 (g : Nat → Int32) (u d k : Nat) : Nat → Int32 := d_drop (d_cp (d_beg1 g u) (150 + 154 * u + 106) (150 + 154 * u + 3) 4) u d k
/-- a transaction begun anew; d scopes, k of them from outside -/
def d_anew (g : Nat → Int32) (u d k : Nat) : Nat → Int32 := m_sc (m_sc (d_beg2 g u d k) (150 + 154 * u + 1) (d_beg2 g u d k (150 + 154 * u + 105))) (150 + 154 * u + 151) (m_sc (d_beg2 g u d k) (150 + 154 * u + 1) (d_beg2 g u d k (150 + 154 * u + 105)) (150 + 154 * u + 151) + nI 1)
def d_anh (h : Nat → Int32) : Nat → Int32 := m_sc h 3 (h 3 + (if h 5 = nI 0 then nI 1 else nI 0))
def d_endx (u x : Nat) (g : Nat → Int32) : Nat → Int32 := m_sc g (18 * x + 17) (if g (18 * x + 17) = nI u then -1 else g (18 * x + 17))
def d_end1 (g : Nat → Int32) (u : Nat) : Nat → Int32 := d_unlock (s_loop (d_endx u) 0 8 (d_dis g u)) u
def d_end (g : Nat → Int32) (u : Nat) : Nat → Int32 := d_clear (m_sc (d_end1 g u) 146 (if d_end1 g u 146 = nI u then -1 else d_end1 g u 146)) u
def d_load (g : Nat → Int32) (u d : Nat) : Nat → Int32 := d_cp (d_cp g (150 + 154 * u + 9 + 23 * d + 3) (150 + 154 * u + 3) 4) (150 + 154 * u + 9 + 23 * d + 7) (150 + 154 * u + 135) 16
def d_seen (g : Nat → Int32) (u x : Nat) (v z : Int32) : Nat → Int32 :=
  if g (150 + 154 * u + 119 + 2 * x) = -1 then m_sc (m_sc g (150 + 154 * u + 119 + 2 * x) v) (150 + 154 * u + 119 + 2 * x + 1) z else g
theorem s_lo {f : Nat → (Nat → Int32) → Nat → Int32} {j : Nat} : ∀ (c x : Nat) (g : Nat → Int32), (∀ y, x ≤ y → y < x + c → ∀ g, f y g j = g j) → s_loop f x c g j = g j := by
  intro c
  induction c with
  | zero => intro x g _; rfl
  | succ c ih =>
    intro x g h1
    rw [s_loop, ih (x + 1) _ (fun y hy hy2 => h1 y (by omega) (by omega)), h1 x (Nat.le_refl _) (by omega)]
theorem d_er_o {g : Nat → Int32} {u j : Nat} (h : j < 150 + 154 * u + 111 ∨ 150 + 154 * u + 135 ≤ j) : d_er g u j = g j :=
  s_lo 8 0 g (fun y _ h2 g => by unfold d_er1; rw [m_sc_ne (by omega), m_sc_ne (by omega), m_sc_ne (by omega)])
theorem d_el_o {g : Nat → Int32} {u j : Nat} (h : j < 150 + 154 * u + 135 ∨ 150 + 154 * u + 151 ≤ j) : d_el g u j = g j :=
  s_lo 8 0 g (fun y _ h2 g => by unfold d_el1; rw [m_sc_ne (by omega), m_sc_ne (by omega)])
theorem d_dis_o {g : Nat → Int32} {u j : Nat} (h : ∀ x, x < 8 → j ≠ 18 * x + 16) : d_dis g u j = g j :=
  s_lo 8 0 g (fun y _ h2 g => by unfold d_dis1; rw [m_sc_ne (h y (by omega))])
theorem d_cp_o {g : Nat → Int32} {lo hi n j : Nat} (h : j < hi ∨ hi + n ≤ j) : d_cp g lo hi n j = g j :=
  s_lo n 0 g (fun y _ h2 g => by unfold d_cp1; rw [m_sc_ne (by omega)])
theorem d_z_o {lo k j : Nat} {g : Nat → Int32} (h : j < lo ∨ lo + k ≤ j) : d_z lo k g j = g j := if_neg (by omega)
theorem d_unlock_o {g : Nat → Int32} {u j : Nat} (h : j ≠ 145) : d_unlock g u j = g j := m_sc_ne h
theorem d_clear_o {g : Nat → Int32} {u j : Nat} (h : j < 150 + 154 * u + 101 ∨ 150 + 154 * u + 151 ≤ j) : d_clear g u j = g j := by
  unfold d_clear
  rw [d_el_o (by omega), d_er_o (by omega), d_z_o (by omega)]
theorem d_end_o {g : Nat → Int32} {u j : Nat} (h : j < 150 + 154 * u + 101 ∨ 150 + 154 * u + 151 ≤ j) (h2 : 147 ≤ j) : d_end g u j = g j := by
  unfold d_end
  rw [d_clear_o h, m_sc_ne (by omega)]
  unfold d_end1
  rw [d_unlock_o (by omega), s_lo 8 0 _ (fun y _ h3 g => by unfold d_endx; rw [m_sc_ne (by omega)]), d_dis_o (by omega)]
section T29
variable {V : m_V} {t m n : Nat} {ls st : List Value} {I J : m_I} {g h : Nat → Int32} {o : m_I} {L : m_L} {R : m_R} {e : Option Nat} {a b : Nat} {Q : Option Value → Nat → m_I → m_L → m_R → Prop} {u x k : Nat}
theorem w139 (ht : 55 ≤ t) (ha : m_aa a) : WP V 139 0 (m_loc 139 [.ref 27, .int (nI u)]) [] t (mM J a g h o) L (m_RR e a b) Q = Q none t (mM J a (d_unlock g u) h o) L (m_RR e a b) := by
  have hA := mA_of ha
  have hat := mA_lt ha ht
  rw [show m_loc 139 [.ref 27, .int (nI u)] = [.ref 27, .int (nI u)] from rfl]
  unfold d_unlock
  simp (disch := first | assumption | omega | decide) only [nI_add, n_mul, n_sub, n_le, n_lt, n_eq, n_ne1, n_0, m_bl_t, m_bl_f, if_true, if_false, Nat.reduceAdd, Nat.reduceMul, Nat.reduceSub, Nat.reduceLeDiff, Nat.reduceEqDiff, Nat.add_zero, Nat.add_sub_cancel, Option.toList, List.cons_append, List.nil_append, i139_0, i139_1, i139_2, i139_3, i139_4, i139_5, i139_6, i139_7, i139_8, rv_27_0, mM_a]
  by_cases h1 : g 145 = nI u
  · simp (disch := first | assumption | omega | decide) only [nI_add, n_mul, n_sub, n_le, n_lt, n_eq, n_ne1, n_0, m_bl_t, m_bl_f, if_true, if_false, Nat.reduceAdd, Nat.reduceMul, Nat.reduceSub, Nat.reduceLeDiff, Nat.reduceEqDiff, Nat.add_zero, Nat.add_sub_cancel, Option.toList, List.cons_append, List.nil_append, h1, i139_9, i139_10, i139_11, i139_12, i139_13, i139_14, i139_15, i139_16, rv_27_0, mM_a, mM_sa]
  · simp (disch := first | assumption | omega | decide) only [nI_add, n_mul, n_sub, n_le, n_lt, n_eq, n_ne1, n_0, m_bl_t, m_bl_f, if_true, if_false, Nat.reduceAdd, Nat.reduceMul, Nat.reduceSub, Nat.reduceLeDiff, Nat.reduceEqDiff, Nat.add_zero, Nat.add_sub_cancel, Option.toList, List.cons_append, List.nil_append, h1, i139_11, i139_12, i139_13, i139_14, i139_15, i139_16, rv_27_0, mM_a, mM_sa]
theorem c139 (ht : 55 ≤ t) (ha : m_aa a) : WPC V 139 [.ref 27, .int (nI u)] m n ls st t (mM J a g h o) L (m_RR e a b) Q = WP V m n ls st t (mM J a (d_unlock g u) h o) L (m_RR e a b) Q := wpc_of (fun Q => w139 ht ha)
theorem w140_4 (ht : 55 ≤ t) (hu : u < 3) (ha : m_aa a) : ∀ (c x : Nat) (y : Bool) (z : Value), x + c = 8 → WP V 140 4 [.ref 27, .int (nI u), .int (m_bl y), .int (nI x), z] [] t (mM J a g h o) L (m_RR e a b) Q = Q (some (.int (m_bl (y || s_any (d_ch1 g u) x c)))) t (mM J a g h o) L (m_RR e a b) := by
  have hA := mA_of ha
  have hat := mA_lt ha ht
  intro c
  induction c with
  | zero =>
    intro x y z hx
    obtain rfl : x = 8 := by omega
    rw [i140_4]
    have hy : m_01 (m_bl y) = true := by cases y <;> rfl
    simp (disch := first | assumption | omega | decide) only [nI_add, n_mul, n_sub, n_le, n_lt, n_eq, n_ne1, n_0, m_bl_t, m_bl_f, if_true, if_false, Nat.reduceAdd, Nat.reduceMul, Nat.reduceSub, Nat.reduceLeDiff, Nat.reduceEqDiff, Nat.add_zero, Nat.add_sub_cancel, Option.toList, List.cons_append, List.nil_append, i140_5, i140_6, i140_37, i140_38, Nat.le_refl, s_any, Bool.or_false]
  | succ c ih =>
    intro x y z hx
    have hx8 : ¬ 8 ≤ x := by omega
    have hx7 : x < 8 := by omega
    rw [i140_4, s_any]
    have i1 := fun z => ih (x + 1) true z (by omega)
    have i0 := fun z => ih (x + 1) false z (by omega)
    rw [m_bl_t] at i1
    rw [m_bl_f] at i0
    cases y
    · simp (disch := first | assumption | omega | decide) only [nI_add, n_mul, n_sub, n_le, n_lt, n_eq, n_ne1, n_0, m_bl_t, m_bl_f, if_true, if_false, Nat.reduceAdd, Nat.reduceMul, Nat.reduceSub, Nat.reduceLeDiff, Nat.reduceEqDiff, Nat.add_zero, Nat.add_sub_cancel, Option.toList, List.cons_append, List.nil_append, i140_5, i140_6, i140_7, i140_8, i140_9, i140_10, i140_11, i140_12, i140_13, i140_14, i140_15, i140_16, i140_17, i140_18, i140_19, i140_20, i140_21, rv_27_0, hx8, mM_a, c113, c112]
      by_cases h1 : g (150 + 154 * u + 111 + x) = -1
      · simp (disch := first | assumption | omega | decide) only [nI_add, n_mul, n_sub, n_le, n_lt, n_eq, n_ne1, n_0, m_bl_t, m_bl_f, if_true, if_false, Nat.reduceAdd, Nat.reduceMul, Nat.reduceSub, Nat.reduceLeDiff, Nat.reduceEqDiff, Nat.add_zero, Nat.add_sub_cancel, Option.toList, List.cons_append, List.nil_append, h1, i140_33, i140_34, i140_35, i140_36, i0]
        simp [d_ch1, h1]
      · by_cases h2 : g (150 + 154 * u + 111 + x) = g (18 * x + 2)
        · simp (disch := first | assumption | omega | decide) only [nI_add, n_mul, n_sub, n_le, n_lt, n_eq, n_ne1, n_0, m_bl_t, m_bl_f, if_true, if_false, Nat.reduceAdd, Nat.reduceMul, Nat.reduceSub, Nat.reduceLeDiff, Nat.reduceEqDiff, Nat.add_zero, Nat.add_sub_cancel, Option.toList, List.cons_append, List.nil_append, h1, h2, i140_22, i140_23, i140_24, i140_25, i140_26, i140_27, i140_28, i140_29, i140_30, i140_33, i140_34, i140_35, i140_36, rv_27_0, mM_a, c112, i0]
          simp [d_ch1, h2]
        · simp (disch := first | assumption | omega | decide) only [nI_add, n_mul, n_sub, n_le, n_lt, n_eq, n_ne1, n_0, m_bl_t, m_bl_f, if_true, if_false, Nat.reduceAdd, Nat.reduceMul, Nat.reduceSub, Nat.reduceLeDiff, Nat.reduceEqDiff, Nat.add_zero, Nat.add_sub_cancel, Option.toList, List.cons_append, List.nil_append, h1, h2, i140_22, i140_23, i140_24, i140_25, i140_26, i140_27, i140_28, i140_29, i140_30, i140_31, i140_32, i140_34, i140_35, i140_36, rv_27_0, mM_a, c112, i1]
          simp [d_ch1, h1, h2]
    · simp (disch := first | assumption | omega | decide) only [nI_add, n_mul, n_sub, n_le, n_lt, n_eq, n_ne1, n_0, m_bl_t, m_bl_f, if_true, if_false, Nat.reduceAdd, Nat.reduceMul, Nat.reduceSub, Nat.reduceLeDiff, Nat.reduceEqDiff, Nat.add_zero, Nat.add_sub_cancel, Option.toList, List.cons_append, List.nil_append, i140_5, i140_6, i140_7, i140_8, i140_9, i140_10, i140_11, i140_12, i140_13, i140_14, i140_15, i140_16, i140_17, i140_18, i140_31, i140_32, i140_34, i140_35, i140_36, rv_27_0, hx8, mM_a, c113, i1]
      simp
theorem w140 (ht : 55 ≤ t) (hu : u < 3) (ha : m_aa a) : WP V 140 0 (m_loc 140 [.ref 27, .int (nI u)]) [] t (mM J a g h o) L (m_RR e a b) Q = Q (some (.int (m_bl (d_ch g u)))) t (mM J a g h o) L (m_RR e a b) := by
  rw [show m_loc 140 [.ref 27, .int (nI u)] = [.ref 27, .int (nI u), m_u, m_u, m_u] from rfl]
  simp (disch := first | assumption | omega | decide) only [nI_add, n_mul, n_sub, n_le, n_lt, n_eq, n_ne1, n_0, m_bl_t, m_bl_f, if_true, if_false, Nat.reduceAdd, Nat.reduceMul, Nat.reduceSub, Nat.reduceLeDiff, Nat.reduceEqDiff, Nat.add_zero, Nat.add_sub_cancel, Option.toList, List.cons_append, List.nil_append, i140_0, i140_1, i140_2, i140_3]
  have h1 := w140_4 (V := V) (J := J) (g := g) (h := h) (o := o) (L := L) (e := e) (b := b) (Q := Q) ht hu ha 8 0 false m_u rfl
  rw [m_bl_f] at h1
  rw [h1, Bool.false_or]
  rfl
theorem c140 (ht : 55 ≤ t) (hu : u < 3) (ha : m_aa a) : WPC V 140 [.ref 27, .int (nI u)] m n ls st t (mM J a g h o) L (m_RR e a b) Q = WP V m n ls ((.int (m_bl (d_ch g u))) :: st) t (mM J a g h o) L (m_RR e a b) Q := wpc_of (fun Q => w140 ht hu ha)
theorem w141_15 (ht : 55 ≤ t) (hu : u < 3) (ha : m_aa a) {d q k : Nat} (hd : d < 4) : ∀ (c x : Nat) (g : Nat → Int32), x + c = 23 → WP V 141 15 [.ref 27, .int (nI u), .int (nI k), .int (nI (150 + 154 * u)), .int (nI d), .int (nI x)] [] t (mM J a (d_z (150 + 154 * u + 9 + 23 * d) x g) h o) L (m_RR e a b) Q = WP V 141 33 [.ref 27, .int (nI u), .int (nI k), .int (nI (150 + 154 * u)), .int (nI d), .int (nI 23)] [] t (mM J a (d_z (150 + 154 * u + 9 + 23 * d) 23 g) h o) L (m_RR e a b) Q := by
  have hA := mA_of ha
  have hat := mA_lt ha ht
  intro c
  induction c with
  | zero =>
    intro x g hx
    obtain rfl : x = 23 := by omega
    rw [i141_15]
    simp (disch := first | assumption | omega | decide) only [nI_add, n_mul, n_sub, n_le, n_lt, n_eq, n_ne1, n_0, m_bl_t, m_bl_f, if_true, if_false, Nat.reduceAdd, Nat.reduceMul, Nat.reduceSub, Nat.reduceLeDiff, Nat.reduceEqDiff, Nat.add_zero, Nat.add_sub_cancel, Option.toList, List.cons_append, List.nil_append, i141_16, i141_17, Nat.le_refl]
  | succ c ih =>
    intro x g hx
    have hx8 : ¬ 23 ≤ x := by omega
    have hx7 : x < 23 := by omega
    rw [i141_15]
    simp (disch := first | assumption | omega | decide) only [nI_add, n_mul, n_sub, n_le, n_lt, n_eq, n_ne1, n_0, m_bl_t, m_bl_f, if_true, if_false, Nat.reduceAdd, Nat.reduceMul, Nat.reduceSub, Nat.reduceLeDiff, Nat.reduceEqDiff, Nat.add_zero, Nat.add_sub_cancel, Option.toList, List.cons_append, List.nil_append, i141_16, i141_17, i141_18, i141_19, i141_20, i141_21, i141_22, i141_23, i141_24, i141_25, i141_26, i141_27, i141_28, i141_29, i141_30, i141_31, i141_32, rv_27_0, hx8, mM_a, mM_sa, d_z1]
    exact ih (x + 1) g (by omega)
theorem d_zz {lo k c : Nat} {g : Nat → Int32} : d_z (lo + k) c (d_z lo k g) = d_z lo (k + c) g := by
  funext j
  unfold d_z
  by_cases h1 : lo + k ≤ j ∧ j < lo + k + c
  · rw [if_pos h1, if_pos (by omega)]
  · rw [if_neg h1]
    by_cases h2 : lo ≤ j ∧ j < lo + k
    · rw [if_pos h2, if_pos (by omega)]
    · rw [if_neg h2, if_neg (by omega)]
theorem w141_5 (ht : 55 ≤ t) (hu : u < 3) (ha : m_aa a) {d k : Nat} (hd : d ≤ 4) (hg : g (150 + 154 * u + 8) = nI d) (hk : k ≤ d) : ∀ (c y : Nat) (z : Value), k + y + c = d → WP V 141 5 [.ref 27, .int (nI u), .int (nI k), .int (nI (150 + 154 * u)), .int (nI (k + y)), z] [] t (mM J a (d_z (150 + 154 * u + 9 + 23 * k) (23 * y) g) h o) L (m_RR e a b) Q = Q none t (mM J a (d_drop g u d k) h o) L (m_RR e a b) := by
  have hA := mA_of ha
  have hat := mA_lt ha ht
  intro c
  induction c with
  | zero =>
    intro y z hx
    obtain rfl : d = k + y := by omega
    have e1 : d_z (150 + 154 * u + 9 + 23 * k) (23 * y) g (150 + 154 * u + 8) = nI (k + y) := by
      rw [← hg]; exact if_neg (by omega)
    have e2 : k + y - k = y := by omega
    rw [i141_5]
    simp (disch := first | assumption | omega | decide) only [nI_add, n_mul, n_sub, n_le, n_lt, n_eq, n_ne1, n_0, m_bl_t, m_bl_f, if_true, if_false, Nat.reduceAdd, Nat.reduceMul, Nat.reduceSub, Nat.reduceLeDiff, Nat.reduceEqDiff, Nat.add_zero, Nat.add_sub_cancel, Option.toList, List.cons_append, List.nil_append, i141_6, i141_7, i141_8, i141_9, i141_10, i141_11, i141_12, i141_35, i141_36, i141_37, i141_38, i141_39, i141_40, i141_41, i141_42, rv_27_0, mM_a, mM_sa, e1, Nat.le_refl]
    unfold d_drop
    rw [e2]
  | succ c ih =>
    intro y z hx
    have hx8 : ¬ d ≤ k + y := by omega
    have e1 : d_z (150 + 154 * u + 9 + 23 * k) (23 * y) g (150 + 154 * u + 8) = nI d := by
      rw [← hg]; exact if_neg (by omega)
    have h1 := w141_15 (V := V) (J := J) (h := h) (o := o) (L := L) (e := e) (b := b) (Q := Q) (q := 0) (k := k) (d := k + y) ht hu ha (by omega) 23 0 (d_z (150 + 154 * u + 9 + 23 * k) (23 * y) g) rfl
    rw [d_z0, show 150 + 154 * u + 9 + 23 * (k + y) = 150 + 154 * u + 9 + 23 * k + 23 * y by omega, d_zz] at h1
    rw [i141_5]
    simp (disch := first | assumption | omega | decide) only [nI_add, n_mul, n_sub, n_le, n_lt, n_eq, n_ne1, n_0, m_bl_t, m_bl_f, if_true, if_false, Nat.reduceAdd, Nat.reduceMul, Nat.reduceSub, Nat.reduceLeDiff, Nat.reduceEqDiff, Nat.add_zero, Nat.add_sub_cancel, Option.toList, List.cons_append, List.nil_append, i141_6, i141_7, i141_8, i141_9, i141_10, i141_11, i141_12, i141_13, i141_14, rv_27_0, mM_a, mM_sa, e1, hx8, h1, i141_33, i141_34]
    exact ih (y + 1) (.int (nI 23)) (by omega)
theorem w141 (ht : 55 ≤ t) (hu : u < 3) (ha : m_aa a) {d k : Nat} (hd : d ≤ 4) (hg : g (150 + 154 * u + 8) = nI d) (hk : k ≤ d) : WP V 141 0 (m_loc 141 [.ref 27, .int (nI u), .int (nI k)]) [] t (mM J a g h o) L (m_RR e a b) Q = Q none t (mM J a (d_drop g u d k) h o) L (m_RR e a b) := by
  rw [show m_loc 141 [.ref 27, .int (nI u), .int (nI k)] = [.ref 27, .int (nI u), .int (nI k), m_u, m_u, m_u] from rfl]
  simp (disch := first | assumption | omega | decide) only [nI_add, n_mul, n_sub, n_le, n_lt, n_eq, n_ne1, n_0, m_bl_t, m_bl_f, if_true, if_false, Nat.reduceAdd, Nat.reduceMul, Nat.reduceSub, Nat.reduceLeDiff, Nat.reduceEqDiff, Nat.add_zero, Nat.add_sub_cancel, Option.toList, List.cons_append, List.nil_append, i141_0, i141_1, i141_2, i141_3, i141_4, c113]
  have h1 := w141_5 (V := V) (J := J) (h := h) (o := o) (L := L) (e := e) (b := b) (Q := Q) ht hu ha hd hg hk (d - k) 0 m_u (by omega)
  rw [show 23 * 0 = 0 from rfl, d_z0, Nat.add_zero] at h1
  exact h1
theorem c141 (ht : 55 ≤ t) (hu : u < 3) (ha : m_aa a) {d k : Nat} (hd : d ≤ 4) (hg : g (150 + 154 * u + 8) = nI d) (hk : k ≤ d) : WPC V 141 [.ref 27, .int (nI u), .int (nI k)] m n ls st t (mM J a g h o) L (m_RR e a b) Q = WP V m n ls st t (mM J a (d_drop g u d k) h o) L (m_RR e a b) Q := wpc_of (fun Q => w141 ht hu ha hd hg hk)
theorem w145 (ht : 55 ≤ t) (hu : u < 3) (ha : m_aa a) {v : Nat} (hv : v < 3) : WP V 145 0 (m_loc 145 [.ref 27, .int (nI u), .int (nI v)]) [] t (mM J a g h o) L (m_RR e a b) Q = Q (some (.int (m_bl (d_eld g u v)))) t (mM J a g h o) L (m_RR e a b) := by
  have hA := mA_of ha
  have hat := mA_lt ha ht
  rw [show m_loc 145 [.ref 27, .int (nI u), .int (nI v)] = [.ref 27, .int (nI u), .int (nI v), m_u, m_u] from rfl]
  simp (disch := first | assumption | omega | decide) only [nI_add, n_mul, n_sub, n_le, n_lt, n_eq, n_ne1, n_0, m_bl_t, m_bl_f, if_true, if_false, Nat.reduceAdd, Nat.reduceMul, Nat.reduceSub, Nat.reduceLeDiff, Nat.reduceEqDiff, Nat.add_zero, Nat.add_sub_cancel, Option.toList, List.cons_append, List.nil_append, i145_0, i145_1, i145_2, i145_3, i145_4, i145_5, i145_6, i145_7, i145_8, i145_9, i145_10, i145_11, i145_12, i145_13, i145_14, i145_15, i145_16, i145_17, i145_18, i145_19, i145_20, i145_21, i145_22, i145_23, i145_24, i145_25, i145_26, i145_27, i145_28, i145_29, i145_30, i145_31, i145_32, i145_33, i145_34, i145_35, i145_36, i145_37, i145_38, i145_39, i145_40, i145_41, i145_42, i145_43, i145_44, i145_45, i145_46, i145_47, i145_48, i145_49, i145_50, rv_27_0, mM_a, c113]
  unfold d_eld
  by_cases h1 : g (150 + 154 * u + 102) = nI 3
  · simp [h1, m_bl]
  · by_cases h2 : g (150 + 154 * v + 102) = nI 3
    · simp [h1, h2, m_bl]
    · by_cases h3 : g (150 + 154 * u + 104) < g (150 + 154 * v + 104)
      · simp [h1, h2, h3, Int32.not_le.mpr h3, m_bl]
      · simp [h1, h2, h3, Int32.not_lt.mp h3, m_bl]
theorem c145 (ht : 55 ≤ t) (hu : u < 3) (ha : m_aa a) {v : Nat} (hv : v < 3) : WPC V 145 [.ref 27, .int (nI u), .int (nI v)] m n ls st t (mM J a g h o) L (m_RR e a b) Q = WP V m n ls ((.int (m_bl (d_eld g u v))) :: st) t (mM J a g h o) L (m_RR e a b) Q := wpc_of (fun Q => w145 ht hu ha hv)
theorem w147 (ht : 55 ≤ t) (ha : m_aa a) (hx : x < 8) : WP V 147 0 (m_loc 147 [.ref 27, .int (nI u), .int (nI x)]) [] t (mM J a g h o) L (m_RR e a b) Q = Q (some (.int (m_bl (d_held g u x)))) t (mM J a g h o) L (m_RR e a b) := by
  have hA := mA_of ha
  have hat := mA_lt ha ht
  rw [show m_loc 147 [.ref 27, .int (nI u), .int (nI x)] = [.ref 27, .int (nI u), .int (nI x), m_u] from rfl]
  simp (disch := first | assumption | omega | decide) only [nI_add, n_mul, n_sub, n_le, n_lt, n_eq, n_ne1, n_0, m_bl_t, m_bl_f, if_true, if_false, Nat.reduceAdd, Nat.reduceMul, Nat.reduceSub, Nat.reduceLeDiff, Nat.reduceEqDiff, Nat.add_zero, Nat.add_sub_cancel, Option.toList, List.cons_append, List.nil_append, i147_0, i147_1, i147_2, i147_3, i147_4, i147_5, i147_6, i147_7, i147_8, i147_9, i147_10, i147_11, i147_12, i147_13, i147_14, i147_15, i147_16, i147_17, rv_27_0, mM_a, c112]
  unfold d_held
  by_cases h1 : g (18 * x + 17) = -1
  · simp [h1, m_bl]
  · by_cases h2 : g (18 * x + 17) = nI u <;> simp [h1, h2, m_bl]
theorem c147 (ht : 55 ≤ t) (ha : m_aa a) (hx : x < 8) : WPC V 147 [.ref 27, .int (nI u), .int (nI x)] m n ls st t (mM J a g h o) L (m_RR e a b) Q = WP V m n ls ((.int (m_bl (d_held g u x))) :: st) t (mM J a g h o) L (m_RR e a b) Q := wpc_of (fun Q => w147 ht ha hx)
theorem w148 (ht : 55 ≤ t) (ha : m_aa a) : WP V 148 0 (m_loc 148 [.ref 27, .int (nI u)]) [] t (mM J a g h o) L (m_RR e a b) Q = Q (some (.int (m_bl (d_lkd g u)))) t (mM J a g h o) L (m_RR e a b) := by
  have hA := mA_of ha
  have hat := mA_lt ha ht
  rw [show m_loc 148 [.ref 27, .int (nI u)] = [.ref 27, .int (nI u)] from rfl]
  simp (disch := first | assumption | omega | decide) only [nI_add, n_mul, n_sub, n_le, n_lt, n_eq, n_ne1, n_0, m_bl_t, m_bl_f, if_true, if_false, Nat.reduceAdd, Nat.reduceMul, Nat.reduceSub, Nat.reduceLeDiff, Nat.reduceEqDiff, Nat.add_zero, Nat.add_sub_cancel, Option.toList, List.cons_append, List.nil_append, i148_0, i148_1, i148_2, i148_3, i148_4, i148_5, i148_6, i148_7, i148_8, i148_9, i148_10, i148_11, i148_12, i148_13, i148_14, i148_15, rv_27_0, mM_a]
  unfold d_lkd
  by_cases h1 : g 145 = -1
  · simp [h1, m_bl]
  · by_cases h2 : g 145 = nI u <;> simp [h1, h2, m_bl]
theorem c148 (ht : 55 ≤ t) (ha : m_aa a) : WPC V 148 [.ref 27, .int (nI u)] m n ls st t (mM J a g h o) L (m_RR e a b) Q = WP V m n ls ((.int (m_bl (d_lkd g u))) :: st) t (mM J a g h o) L (m_RR e a b) Q := wpc_of (fun Q => w148 ht ha)
theorem w142_24 (ht : 55 ≤ t) (hu : u < 3) (ha : m_aa a) : ∀ (c x : Nat) (g : Nat → Int32), x + c = 4 → WP V 142 24 [.ref 27, .int (nI u), .int (nI (150 + 154 * u)), .int (nI x)] [] t (mM J a g h o) L (m_RR e a b) Q = WP V 142 45 [.ref 27, .int (nI u), .int (nI (150 + 154 * u)), .int (nI 4)] [] t (mM J a (s_loop (d_cp1 (150 + 154 * u + 106) (150 + 154 * u + 3)) x c g) h o) L (m_RR e a b) Q := by
  have hA := mA_of ha
  have hat := mA_lt ha ht
  intro c
  induction c with
  | zero =>
    intro x g hx
    obtain rfl : x = 4 := by omega
    rw [i142_24]
    simp (disch := first | assumption | omega | decide) only [nI_add, n_mul, n_sub, n_le, n_lt, n_eq, n_ne1, n_0, m_bl_t, m_bl_f, if_true, if_false, Nat.reduceAdd, Nat.reduceMul, Nat.reduceSub, Nat.reduceLeDiff, Nat.reduceEqDiff, Nat.add_zero, Nat.add_sub_cancel, Option.toList, List.cons_append, List.nil_append, i142_25, i142_26, Nat.le_refl, s_loop]
  | succ c ih =>
    intro x g hx
    have hx8 : ¬ 4 ≤ x := by omega
    have hx7 : x < 4 := by omega
    rw [i142_24, s_loop]
    simp (disch := first | assumption | omega | decide) only [nI_add, n_mul, n_sub, n_le, n_lt, n_eq, n_ne1, n_0, m_bl_t, m_bl_f, if_true, if_false, Nat.reduceAdd, Nat.reduceMul, Nat.reduceSub, Nat.reduceLeDiff, Nat.reduceEqDiff, Nat.add_zero, Nat.add_sub_cancel, Option.toList, List.cons_append, List.nil_append, i142_25, i142_26, i142_27, i142_28, i142_29, i142_30, i142_31, i142_32, i142_33, i142_34, i142_35, i142_36, i142_37, i142_38, i142_39, i142_40, i142_41, i142_42, i142_43, i142_44, rv_27_0, hx8, mM_a, mM_sa]
    exact ih (x + 1) (d_cp1 (150 + 154 * u + 106) (150 + 154 * u + 3) x g) (by omega)
theorem w142 (ht : 55 ≤ t) (hu : u < 3) (ha : m_aa a) {d k : Nat} (hd : d ≤ 4) (hg : g (150 + 154 * u + 8) = nI d) (hk : k ≤ d) (hg2 : g (150 + 154 * u + 110) = nI k) : WP V 142 0 (m_loc 142 [.ref 27, .int (nI u)]) [] t (mM J a g h o) L (m_RR e a b) Q = Q none t (mM J a (d_anew g u d k) (d_anh h) o) L (m_RR e a b) := by
  have hA := mA_of ha
  have hat := mA_lt ha ht
  rw [show m_loc 142 [.ref 27, .int (nI u)] = [.ref 27, .int (nI u), m_u, m_u] from rfl]
  simp (disch := first | assumption | omega | decide) only [nI_add, n_mul, n_sub, n_le, n_lt, n_eq, n_ne1, n_0, m_bl_t, m_bl_f, if_true, if_false, Nat.reduceAdd, Nat.reduceMul, Nat.reduceSub, Nat.reduceLeDiff, Nat.reduceEqDiff, Nat.add_zero, Nat.add_sub_cancel, Option.toList, List.cons_append, List.nil_append, i142_0, i142_1, i142_2, i142_3, i142_4, i142_5, i142_6, i142_7, i142_8, i142_9, i142_10, i142_11, i142_12, i142_13, i142_14, i142_15, i142_16, i142_17, i142_18, i142_19, i142_20, i142_21, i142_22, i142_23, rv_27_0, c113, c117, c118, c138, mM_a, mM_sa]
  have h1 := w142_24 (V := V) (J := J) (h := h) (o := o) (L := L) (e := e) (b := b) (Q := Q) ht hu ha 4 0 (d_beg1 g u) rfl
  have e1 : d_cp (d_beg1 g u) (150 + 154 * u + 106) (150 + 154 * u + 3) 4 (150 + 154 * u + 110) = nI k := by
    rw [d_cp_o (by omega), ← hg2]
    unfold d_beg1
    rw [m_sc_ne (by omega), d_dis_o (by omega), d_el_o (by omega), d_er_o (by omega)]
  have e2 : d_cp (d_beg1 g u) (150 + 154 * u + 106) (150 + 154 * u + 3) 4 (150 + 154 * u + 8) = nI d := by
    rw [d_cp_o (by omega), ← hg]
    unfold d_beg1
    rw [m_sc_ne (by omega), d_dis_o (by omega), d_el_o (by omega), d_er_o (by omega)]
  have e3 : s_loop (d_cp1 (150 + 154 * u + 106) (150 + 154 * u + 3)) 0 4 (d_beg1 g u) = d_cp (d_beg1 g u) (150 + 154 * u + 106) (150 + 154 * u + 3) 4 := rfl
  rw [e3] at h1
  obtain ⟨gg, hgg⟩ : ∃ gg, gg = d_cp (d_beg1 g u) (150 + 154 * u + 106) (150 + 154 * u + 3) 4 := ⟨_, rfl⟩
  rw [← hgg] at h1 e1 e2
  unfold d_beg1 at h1
  rw [h1]
  unfold d_anew d_beg2 d_anh
  rw [← hgg]
  simp (disch := first | assumption | omega | decide) only [nI_add, n_mul, n_sub, n_le, n_lt, n_eq, n_ne1, n_0, m_bl_t, m_bl_f, if_true, if_false, Nat.reduceAdd, Nat.reduceMul, Nat.reduceSub, Nat.reduceLeDiff, Nat.reduceEqDiff, Nat.add_zero, Nat.add_sub_cancel, Option.toList, List.cons_append, List.nil_append, i142_45, i142_46, i142_47, i142_48, i142_49, i142_50, i142_51, i142_52, i142_53, i142_54, i142_55, i142_56, i142_57, i142_58, i142_59, i142_60, i142_61, i142_62, i142_63, i142_64, i142_65, i142_66, i142_67, i142_68, i142_69, i142_70, i142_71, i142_72, i142_73, i142_74, i142_75, i142_76, i142_77, i142_78, i142_79, i142_80, i142_81, rv_27_0, mM_a, mM_sa, mM_27, e1, c141 ht hu ha hd e2 hk]
  by_cases h5 : h 5 = nI 0
  · simp (disch := first | assumption | omega | decide) only [nI_add, n_mul, n_sub, n_le, n_lt, n_eq, n_ne1, n_0, m_bl_t, m_bl_f, if_true, if_false, Nat.reduceAdd, Nat.reduceMul, Nat.reduceSub, Nat.reduceLeDiff, Nat.reduceEqDiff, Nat.add_zero, Nat.add_sub_cancel, Option.toList, List.cons_append, List.nil_append, h5, i142_84, i142_85, i142_86, i142_87, mM_27, mM_s27]
  · simp (disch := first | assumption | omega | decide) only [nI_add, n_mul, n_sub, n_le, n_lt, n_eq, n_ne1, n_0, m_bl_t, m_bl_f, if_true, if_false, Nat.reduceAdd, Nat.reduceMul, Nat.reduceSub, Nat.reduceLeDiff, Nat.reduceEqDiff, Nat.add_zero, Nat.add_sub_cancel, Option.toList, List.cons_append, List.nil_append, h5, i142_82, i142_83, i142_84, i142_85, i142_86, i142_87, mM_27, mM_s27]
theorem c142 (ht : 55 ≤ t) (hu : u < 3) (ha : m_aa a) {d k : Nat} (hd : d ≤ 4) (hg : g (150 + 154 * u + 8) = nI d) (hk : k ≤ d) (hg2 : g (150 + 154 * u + 110) = nI k) : WPC V 142 [.ref 27, .int (nI u)] m n ls st t (mM J a g h o) L (m_RR e a b) Q = WP V m n ls st t (mM J a (d_anew g u d k) (d_anh h) o) L (m_RR e a b) Q := wpc_of (fun Q => w142 ht hu ha hd hg hk hg2)
theorem w144_5 (ht : 55 ≤ t) (hu : u < 3) (ha : m_aa a) : ∀ (c x : Nat) (g : Nat → Int32) (z : Value), x + c = 8 → WP V 144 5 [.ref 27, .int (nI u), .int (nI x), z] [] t (mM J a g h o) L (m_RR e a b) Q = WP V 144 35 [.ref 27, .int (nI u), .int (nI 8), (if c = 0 then z else .int (nI 126))] [] t (mM J a (s_loop (d_endx u) x c g) h o) L (m_RR e a b) Q := by
  have hA := mA_of ha
  have hat := mA_lt ha ht
  intro c
  induction c with
  | zero =>
    intro x g z hx
    obtain rfl : x = 8 := by omega
    rw [i144_5]
    simp (disch := first | assumption | omega | decide) only [nI_add, n_mul, n_sub, n_le, n_lt, n_eq, n_ne1, n_0, m_bl_t, m_bl_f, if_true, if_false, Nat.reduceAdd, Nat.reduceMul, Nat.reduceSub, Nat.reduceLeDiff, Nat.reduceEqDiff, Nat.add_zero, Nat.add_sub_cancel, Option.toList, List.cons_append, List.nil_append, i144_6, i144_7, Nat.le_refl, s_loop]
  | succ c ih =>
    intro x g z hx
    have hx8 : ¬ 8 ≤ x := by omega
    have hx7 : x < 8 := by omega
    have e9 : (if c = 0 then Value.int (nI (18 * x)) else Value.int (nI 126)) = Value.int (nI 126) := by
      split
      · obtain rfl : x = 7 := by omega
        rfl
      · rfl
    rw [i144_5, s_loop, if_neg (by omega)]
    simp (disch := first | assumption | omega | decide) only [nI_add, n_mul, n_sub, n_le, n_lt, n_eq, n_ne1, n_0, m_bl_t, m_bl_f, if_true, if_false, Nat.reduceAdd, Nat.reduceMul, Nat.reduceSub, Nat.reduceLeDiff, Nat.reduceEqDiff, Nat.add_zero, Nat.add_sub_cancel, Option.toList, List.cons_append, List.nil_append, i144_6, i144_7, i144_8, i144_9, i144_10, i144_11, i144_12, i144_13, i144_14, i144_15, i144_16, i144_17, i144_18, i144_19, i144_20, i144_21, i144_22, i144_23, rv_27_0, hx8, mM_a, mM_sa, c112]
    by_cases h1 : g (18 * x + 17) = nI u
    · have e1 : d_endx u x g = m_sc g (18 * x + 17) (-1) := by unfold d_endx; rw [if_pos h1]
      simp (disch := first | assumption | omega | decide) only [nI_add, n_mul, n_sub, n_le, n_lt, n_eq, n_ne1, n_0, m_bl_t, m_bl_f, if_true, if_false, Nat.reduceAdd, Nat.reduceMul, Nat.reduceSub, Nat.reduceLeDiff, Nat.reduceEqDiff, Nat.add_zero, Nat.add_sub_cancel, Option.toList, List.cons_append, List.nil_append, h1, i144_24, i144_25, i144_32, i144_33, i144_34, mM_a, mM_sa]
      rw [e1, ih (x + 1) _ _ (by omega), e9]
    · have e1 : d_endx u x g = m_sc g (18 * x + 17) (g (18 * x + 17)) := by unfold d_endx; rw [if_neg h1]
      simp (disch := first | assumption | omega | decide) only [nI_add, n_mul, n_sub, n_le, n_lt, n_eq, n_ne1, n_0, m_bl_t, m_bl_f, if_true, if_false, Nat.reduceAdd, Nat.reduceMul, Nat.reduceSub, Nat.reduceLeDiff, Nat.reduceEqDiff, Nat.add_zero, Nat.add_sub_cancel, Option.toList, List.cons_append, List.nil_append, h1, i144_26, i144_27, i144_28, i144_29, i144_30, i144_31, i144_32, i144_33, i144_34, rv_27_0, mM_a, mM_sa]
      rw [e1, ih (x + 1) _ _ (by omega), e9]
theorem w144 (ht : 55 ≤ t) (hu : u < 3) (ha : m_aa a) : WP V 144 0 (m_loc 144 [.ref 27, .int (nI u)]) [] t (mM J a g h o) L (m_RR e a b) Q = Q none t (mM J a (d_end g u) h o) L (m_RR e a b) := by
  have hA := mA_of ha
  have hat := mA_lt ha ht
  rw [show m_loc 144 [.ref 27, .int (nI u)] = [.ref 27, .int (nI u), m_u, m_u] from rfl]
  simp (disch := first | assumption | omega | decide) only [nI_add, n_mul, n_sub, n_le, n_lt, n_eq, n_ne1, n_0, m_bl_t, m_bl_f, if_true, if_false, Nat.reduceAdd, Nat.reduceMul, Nat.reduceSub, Nat.reduceLeDiff, Nat.reduceEqDiff, Nat.add_zero, Nat.add_sub_cancel, Option.toList, List.cons_append, List.nil_append, i144_0, i144_1, i144_2, i144_3, i144_4, c138]
  rw [w144_5 ht hu ha 8 0 _ _ rfl, if_neg (by decide)]
  simp (disch := first | assumption | omega | decide) only [nI_add, n_mul, n_sub, n_le, n_lt, n_eq, n_ne1, n_0, m_bl_t, m_bl_f, if_true, if_false, Nat.reduceAdd, Nat.reduceMul, Nat.reduceSub, Nat.reduceLeDiff, Nat.reduceEqDiff, Nat.add_zero, Nat.add_sub_cancel, Option.toList, List.cons_append, List.nil_append, i144_35, i144_36, i144_37, i144_38, i144_39, i144_40, i144_41, i144_42, i144_43, i144_44, i144_45, i144_46, rv_27_0, c139, mM_a]
  unfold d_end
  rw [show d_unlock (s_loop (d_endx u) 0 8 (d_dis g u)) u = d_end1 g u from rfl]
  by_cases h1 : d_end1 g u 146 = nI u
  · simp (disch := first | assumption | omega | decide) only [nI_add, n_mul, n_sub, n_le, n_lt, n_eq, n_ne1, n_0, m_bl_t, m_bl_f, if_true, if_false, Nat.reduceAdd, Nat.reduceMul, Nat.reduceSub, Nat.reduceLeDiff, Nat.reduceEqDiff, Nat.add_zero, Nat.add_sub_cancel, Option.toList, List.cons_append, List.nil_append, h1, i144_47, i144_48, i144_53, i144_54, i144_55, i144_56, i144_57, c116, mM_a, mM_sa]
  · simp (disch := first | assumption | omega | decide) only [nI_add, n_mul, n_sub, n_le, n_lt, n_eq, n_ne1, n_0, m_bl_t, m_bl_f, if_true, if_false, Nat.reduceAdd, Nat.reduceMul, Nat.reduceSub, Nat.reduceLeDiff, Nat.reduceEqDiff, Nat.add_zero, Nat.add_sub_cancel, Option.toList, List.cons_append, List.nil_append, h1, i144_49, i144_50, i144_51, i144_52, i144_53, i144_54, i144_55, i144_56, i144_57, rv_27_0, c116, mM_a, mM_sa]
theorem c144 (ht : 55 ≤ t) (hu : u < 3) (ha : m_aa a) : WPC V 144 [.ref 27, .int (nI u)] m n ls st t (mM J a g h o) L (m_RR e a b) Q = WP V m n ls st t (mM J a (d_end g u) h o) L (m_RR e a b) Q := wpc_of (fun Q => w144 ht hu ha)
theorem w150 (ht : 55 ≤ t) (hu : u < 3) (ha : m_aa a) (hx : x < 8) : WP V 150 0 (m_loc 150 [.ref 27, .int (nI u), .int (nI x)]) [] t (mM J a g h o) L (m_RR e a b) Q = Q none t (mM J a (d_seen g u x (h 22) (h 23)) h o) L (m_RR e a b) := by
  have hA := mA_of ha
  have hat := mA_lt ha ht
  rw [show m_loc 150 [.ref 27, .int (nI u), .int (nI x)] = [.ref 27, .int (nI u), .int (nI x), m_u] from rfl]
  simp (disch := first | assumption | omega | decide) only [nI_add, n_mul, n_sub, n_le, n_lt, n_eq, n_ne1, n_0, m_bl_t, m_bl_f, if_true, if_false, Nat.reduceAdd, Nat.reduceMul, Nat.reduceSub, Nat.reduceLeDiff, Nat.reduceEqDiff, Nat.add_zero, Nat.add_sub_cancel, Option.toList, List.cons_append, List.nil_append, i150_0, i150_1, i150_2, i150_3, i150_4, i150_5, i150_6, i150_7, i150_8, i150_9, i150_10, i150_11, i150_12, i150_13, i150_14, rv_27_0, c113, mM_a]
  unfold d_seen
  by_cases h1 : g (150 + 154 * u + 119 + 2 * x) = -1
  · simp (disch := first | assumption | omega | decide) only [nI_add, n_mul, n_sub, n_le, n_lt, n_eq, n_ne1, n_0, m_bl_t, m_bl_f, if_true, if_false, Nat.reduceAdd, Nat.reduceMul, Nat.reduceSub, Nat.reduceLeDiff, Nat.reduceEqDiff, Nat.add_zero, Nat.add_sub_cancel, Option.toList, List.cons_append, List.nil_append, h1, i150_15, i150_16, i150_17, i150_18, i150_19, i150_20, i150_21, i150_22, i150_23, i150_24, i150_25, i150_26, i150_27, i150_28, i150_29, i150_30, i150_31, i150_32, i150_33, i150_34, i150_35, i150_36, i150_37, i150_38, i150_39, i150_40, i150_41, rv_27_0, mM_a, mM_sa, mM_27]
  · simp (disch := first | assumption | omega | decide) only [nI_add, n_mul, n_sub, n_le, n_lt, n_eq, n_ne1, n_0, m_bl_t, m_bl_f, if_true, if_false, Nat.reduceAdd, Nat.reduceMul, Nat.reduceSub, Nat.reduceLeDiff, Nat.reduceEqDiff, Nat.add_zero, Nat.add_sub_cancel, Option.toList, List.cons_append, List.nil_append, h1, i150_41]
theorem c150 (ht : 55 ≤ t) (hu : u < 3) (ha : m_aa a) (hx : x < 8) : WPC V 150 [.ref 27, .int (nI u), .int (nI x)] m n ls st t (mM J a g h o) L (m_RR e a b) Q = WP V m n ls st t (mM J a (d_seen g u x (h 22) (h 23)) h o) L (m_RR e a b) Q := wpc_of (fun Q => w150 ht hu ha hx)
end T29
