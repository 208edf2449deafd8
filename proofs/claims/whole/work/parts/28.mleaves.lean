/-! specs: the model's leaves -/
/-- the model's memory: its state in cell a, its own fields in 27, its notes in 40..44 -/
def mM (J : m_I) (a : Nat) (g h : Nat → Int32) (o : m_I) : m_I := fun k => if k = a then g else if k = 27 then h else if 40 ≤ k ∧ k ≤ 44 then o k else J k
def m_aa (a : Nat) : Prop := a = 28 ∨ a = 48
theorem mA_of {a : Nat} (h : m_aa a) : m_ar a 2 612 = true := by
  rcases h with rfl | rfl <;> decide
theorem mA_lt {a t : Nat} (h : m_aa a) (ht : 55 ≤ t) : a < t := by
  rcases h with rfl | rfl <;> omega
section TM0
variable {J : m_I} {a k : Nat} {g h g' : Nat → Int32} {o : m_I}
theorem mM_a : mM J a g h o a = g := if_pos rfl
theorem mM_27 (ha : m_aa a) : mM J a g h o 27 = h := by
  rcases ha with rfl | rfl <;> rfl
theorem mM_n (ha : m_aa a) (hk : 40 ≤ k ∧ k ≤ 44) : mM J a g h o k = o k := by
  unfold mM
  rw [if_neg (by rcases ha with rfl | rfl <;> omega), if_neg (by omega), if_pos hk]
theorem mM_o (h1 : k ≠ a) (h2 : k ≠ 27) (h3 : ¬ (40 ≤ k ∧ k ≤ 44)) : mM J a g h o k = J k := by
  unfold mM
  rw [if_neg h1, if_neg h2, if_neg h3]
theorem mM_sa : m_sc (mM J a g h o) a g' = mM J a g' h o := by
  funext k
  by_cases hk : k = a <;> simp [m_sc, mM, hk]
theorem mM_s27 (ha : m_aa a) : m_sc (mM J a g h o) 27 g' = mM J a g g' o := by
  funext k
  have h1 : ¬ 27 = a := by rcases ha with rfl | rfl <;> omega
  by_cases hk : k = 27
  · subst hk; simp [m_sc, mM, h1]
  · simp [m_sc, mM, hk]
theorem mM_sn (ha : m_aa a) (hk : 40 ≤ k ∧ k ≤ 44) : m_sc (mM J a g h o) k g' = mM J a g h (m_sc o k g') := by
  funext j
  have h1 : ¬ k = a := by rcases ha with rfl | rfl <;> omega
  have h2 : ¬ k = 27 := by omega
  by_cases hj : j = k
  · subst hj; simp [m_sc, mM, h1, h2, hk]
  · simp [m_sc, mM, hj]
theorem mM_self {I : m_I} : mM I a (I a) (I 27) I = I := by
  funext j
  unfold mM
  split
  · rename_i hj; rw [hj]
  · split
    · rename_i hj; rw [hj]
    · split <;> rfl
end TM0
def d_in (v lo hi : Int32) : Bool := decide (lo ≤ v) && decide (v ≤ hi)
def d_er1 (u x : Nat) (g : Nat → Int32) : Nat → Int32 := m_sc (m_sc (m_sc g (150 + 154 * u + 111 + x) (-1)) (150 + 154 * u + 119 + 2 * x) (-1)) (150 + 154 * u + 119 + 2 * x + 1) (nI 0)
def d_er (g : Nat → Int32) (u : Nat) : Nat → Int32 := s_loop (d_er1 u) 0 8 g
def d_el1 (u x : Nat) (g : Nat → Int32) : Nat → Int32 := m_sc (m_sc g (150 + 154 * u + 135 + 2 * x) (-1)) (150 + 154 * u + 135 + 2 * x + 1) (nI 0)
def d_el (g : Nat → Int32) (u : Nat) : Nat → Int32 := s_loop (d_el1 u) 0 8 g
def d_z (lo k : Nat) (g : Nat → Int32) : Nat → Int32 := fun j => if lo ≤ j ∧ j < lo + k then nI 0 else g j
def d_clear (g : Nat → Int32) (u : Nat) : Nat → Int32 := d_el (d_er (d_z (150 + 154 * u + 101) 50 g) u) u
def d_dis1 (u x : Nat) (g : Nat → Int32) : Nat → Int32 := m_sc g (18 * x + 16) (if g (18 * x + 16) = nI u then -1 else g (18 * x + 16))
def d_dis (g : Nat → Int32) (u : Nat) : Nat → Int32 := s_loop (d_dis1 u) 0 8 g
def d_unlock (g : Nat → Int32) (u : Nat) : Nat → Int32 := m_sc g 145 (if g 145 = nI u then -1 else g 145)
def d_ch1 (g : Nat → Int32) (u x : Nat) : Bool := decide (¬ g (150 + 154 * u + 111 + x) = -1) && decide (¬ g (150 + 154 * u + 111 + x) = g (18 * x + 2))
def d_ch (g : Nat → Int32) (u : Nat) : Bool := s_any (d_ch1 g u) 0 8
def d_drop (g : Nat → Int32) (u d k : Nat) : Nat → Int32 := m_sc (d_z (150 + 154 * u + 9 + 23 * k) (23 * (d - k)) g) (150 + 154 * u + 8) (nI k)
def d_eld (g : Nat → Int32) (u v : Nat) : Bool :=
  if decide (g (150 + 154 * u + 102) = nI 3) || decide (g (150 + 154 * v + 102) = nI 3) then decide (g (150 + 154 * u + 102) = nI 3)
  else decide (g (150 + 154 * u + 104) < g (150 + 154 * v + 104))
def d_held (g : Nat → Int32) (u x : Nat) : Bool := decide (¬ g (18 * x + 17) = -1) && decide (¬ g (18 * x + 17) = nI u)
def d_lkd (g : Nat → Int32) (u : Nat) : Bool := decide (¬ g 145 = -1) && decide (¬ g 145 = nI u)
theorem d_z0 {lo : Nat} {g : Nat → Int32} : d_z lo 0 g = g := by
  funext j; exact if_neg (by omega)
theorem d_z1 {lo k : Nat} {g : Nat → Int32} : m_sc (d_z lo k g) (lo + k) (nI 0) = d_z lo (k + 1) g := by
  funext j
  by_cases h1 : j = lo + k
  · subst h1; rw [m_sc_self]; exact (if_pos (by omega)).symm
  · rw [m_sc_ne h1]
    by_cases h2 : lo ≤ j ∧ j < lo + k
    · exact (if_pos h2).trans (if_pos (by omega)).symm
    · exact (if_neg h2).trans (if_neg (by omega)).symm
section T28
variable {V : m_V} {t m n : Nat} {ls st : List Value} {I J : m_I} {g h : Nat → Int32} {o : m_I} {L : m_L} {R : m_R} {e : Option Nat} {a b : Nat} {Q : Option Value → Nat → m_I → m_L → m_R → Prop} {u x k : Nat}
theorem w111 {v lo hi : Int32} : WP V 111 0 (m_loc 111 [.int v, .int lo, .int hi]) [] t I L R Q = Q (some (.int (m_bl (d_in v lo hi)))) t I L R := by
  rw [show m_loc 111 [.int v, .int lo, .int hi] = [.int v, .int lo, .int hi] from rfl]
  simp (disch := first | assumption | omega | decide) only [nI_add, n_mul, n_sub, n_le, n_lt, n_eq, n_ne1, n_0, m_bl_t, m_bl_f, if_true, if_false, Nat.reduceAdd, Nat.reduceMul, Nat.reduceSub, Nat.reduceLeDiff, Nat.reduceEqDiff, Nat.add_zero, Nat.add_sub_cancel, Option.toList, List.cons_append, List.nil_append, i111_0, i111_1, i111_2, i111_3, i111_4, i111_5, i111_6, i111_7, i111_8, i111_9]
  unfold d_in
  by_cases h1 : v < lo
  · simp [h1, m_bl, Int32.not_le.mpr h1]
  · by_cases h2 : hi < v
    · simp [h1, h2, m_bl, Int32.not_lt.mp h1, Int32.not_le.mpr h2]
    · simp [h1, h2, m_bl, Int32.not_lt.mp h1, Int32.not_lt.mp h2]
theorem c111 {v lo hi : Int32} : WPC V 111 [.int v, .int lo, .int hi] m n ls st t I L R Q = WP V m n ls ((.int (m_bl (d_in v lo hi))) :: st) t I L R Q := wpc_of (fun Q => w111 )
theorem w112 : WP V 112 0 (m_loc 112 [.int (nI x)]) [] t I L R Q = Q (some (.int (nI (18 * x)))) t I L R := by
  rw [show m_loc 112 [.int (nI x)] = [.int (nI x)] from rfl]
  simp (disch := first | assumption | omega | decide) only [nI_add, n_mul, n_sub, n_le, n_lt, n_eq, n_ne1, n_0, m_bl_t, m_bl_f, if_true, if_false, Nat.reduceAdd, Nat.reduceMul, Nat.reduceSub, Nat.reduceLeDiff, Nat.reduceEqDiff, Nat.add_zero, Nat.add_sub_cancel, Option.toList, List.cons_append, List.nil_append, i112_0, i112_1, i112_2, i112_3]
theorem c112  : WPC V 112 [.int (nI x)] m n ls st t I L R Q = WP V m n ls ((.int (nI (18 * x))) :: st) t I L R Q := wpc_of (fun Q => w112 )
theorem w113 : WP V 113 0 (m_loc 113 [.int (nI u)]) [] t I L R Q = Q (some (.int (nI (150 + 154 * u)))) t I L R := by
  rw [show m_loc 113 [.int (nI u)] = [.int (nI u)] from rfl]
  simp (disch := first | assumption | omega | decide) only [nI_add, n_mul, n_sub, n_le, n_lt, n_eq, n_ne1, n_0, m_bl_t, m_bl_f, if_true, if_false, Nat.reduceAdd, Nat.reduceMul, Nat.reduceSub, Nat.reduceLeDiff, Nat.reduceEqDiff, Nat.add_zero, Nat.add_sub_cancel, Option.toList, List.cons_append, List.nil_append, i113_0, i113_1, i113_2, i113_3, i113_4, i113_5]
theorem c113  : WPC V 113 [.int (nI u)] m n ls st t I L R Q = WP V m n ls ((.int (nI (150 + 154 * u))) :: st) t I L R Q := wpc_of (fun Q => w113 )
theorem w117_5 (ht : 55 ≤ t) (hu : u < 3) (ha : m_aa a) : ∀ (c x : Nat) (g : Nat → Int32), x + c = 8 → WP V 117 5 [.ref 27, .int (nI u), .int (nI (150 + 154 * u)), .int (nI x)] [] t (mM J a g h o) L (m_RR e a b) Q = Q none t (mM J a (s_loop (d_er1 u) x c g) h o) L (m_RR e a b) := by
  have hA := mA_of ha
  have hat := mA_lt ha ht
  intro c
  induction c with
  | zero =>
    intro x g hx
    obtain rfl : x = 8 := by omega
    rw [i117_5]
    simp (disch := first | assumption | omega | decide) only [nI_add, n_mul, n_sub, n_le, n_lt, n_eq, n_ne1, n_0, m_bl_t, m_bl_f, if_true, if_false, Nat.reduceAdd, Nat.reduceMul, Nat.reduceSub, Nat.reduceLeDiff, Nat.reduceEqDiff, Nat.add_zero, Nat.add_sub_cancel, Option.toList, List.cons_append, List.nil_append, i117_6, i117_7, i117_43, Nat.le_refl, s_loop]
  | succ c ih =>
    intro x g hx
    have hx8 : ¬ 8 ≤ x := by omega
    have hx7 : x < 8 := by omega
    rw [i117_5, s_loop]
    simp (disch := first | assumption | omega | decide) only [nI_add, n_mul, n_sub, n_le, n_lt, n_eq, n_ne1, n_0, m_bl_t, m_bl_f, if_true, if_false, Nat.reduceAdd, Nat.reduceMul, Nat.reduceSub, Nat.reduceLeDiff, Nat.reduceEqDiff, Nat.add_zero, Nat.add_sub_cancel, Option.toList, List.cons_append, List.nil_append, i117_6, i117_7, i117_8, i117_9, i117_10, i117_11, i117_12, i117_13, i117_14, i117_15, i117_16, i117_17, i117_18, i117_19, i117_20, i117_21, i117_22, i117_23, i117_24, i117_25, i117_26, i117_27, i117_28, i117_29, i117_30, i117_31, i117_32, i117_33, i117_34, i117_35, i117_36, i117_37, i117_38, i117_39, i117_40, i117_41, i117_42, rv_27_0, hx8, mM_a, mM_sa]
    exact ih (x + 1) (d_er1 u x g) (by omega)
theorem w117 (ht : 55 ≤ t) (hu : u < 3) (ha : m_aa a) : WP V 117 0 (m_loc 117 [.ref 27, .int (nI u)]) [] t (mM J a g h o) L (m_RR e a b) Q = Q none t (mM J a (d_er g u) h o) L (m_RR e a b) := by
  rw [show m_loc 117 [.ref 27, .int (nI u)] = [.ref 27, .int (nI u), m_u, m_u] from rfl]
  simp (disch := first | assumption | omega | decide) only [nI_add, n_mul, n_sub, n_le, n_lt, n_eq, n_ne1, n_0, m_bl_t, m_bl_f, if_true, if_false, Nat.reduceAdd, Nat.reduceMul, Nat.reduceSub, Nat.reduceLeDiff, Nat.reduceEqDiff, Nat.add_zero, Nat.add_sub_cancel, Option.toList, List.cons_append, List.nil_append, i117_0, i117_1, i117_2, i117_3, i117_4, c113]
  exact w117_5 ht hu ha 8 0 g rfl
theorem c117 (ht : 55 ≤ t) (hu : u < 3) (ha : m_aa a) : WPC V 117 [.ref 27, .int (nI u)] m n ls st t (mM J a g h o) L (m_RR e a b) Q = WP V m n ls st t (mM J a (d_er g u) h o) L (m_RR e a b) Q := wpc_of (fun Q => w117 ht hu ha)
theorem w118_5 (ht : 55 ≤ t) (hu : u < 3) (ha : m_aa a) : ∀ (c x : Nat) (g : Nat → Int32), x + c = 8 → WP V 118 5 [.ref 27, .int (nI u), .int (nI (150 + 154 * u)), .int (nI x)] [] t (mM J a g h o) L (m_RR e a b) Q = Q none t (mM J a (s_loop (d_el1 u) x c g) h o) L (m_RR e a b) := by
  have hA := mA_of ha
  have hat := mA_lt ha ht
  intro c
  induction c with
  | zero =>
    intro x g hx
    obtain rfl : x = 8 := by omega
    rw [i118_5]
    simp (disch := first | assumption | omega | decide) only [nI_add, n_mul, n_sub, n_le, n_lt, n_eq, n_ne1, n_0, m_bl_t, m_bl_f, if_true, if_false, Nat.reduceAdd, Nat.reduceMul, Nat.reduceSub, Nat.reduceLeDiff, Nat.reduceEqDiff, Nat.add_zero, Nat.add_sub_cancel, Option.toList, List.cons_append, List.nil_append, i118_6, i118_7, i118_34, Nat.le_refl, s_loop]
  | succ c ih =>
    intro x g hx
    have hx8 : ¬ 8 ≤ x := by omega
    have hx7 : x < 8 := by omega
    rw [i118_5, s_loop]
    simp (disch := first | assumption | omega | decide) only [nI_add, n_mul, n_sub, n_le, n_lt, n_eq, n_ne1, n_0, m_bl_t, m_bl_f, if_true, if_false, Nat.reduceAdd, Nat.reduceMul, Nat.reduceSub, Nat.reduceLeDiff, Nat.reduceEqDiff, Nat.add_zero, Nat.add_sub_cancel, Option.toList, List.cons_append, List.nil_append, i118_6, i118_7, i118_8, i118_9, i118_10, i118_11, i118_12, i118_13, i118_14, i118_15, i118_16, i118_17, i118_18, i118_19, i118_20, i118_21, i118_22, i118_23, i118_24, i118_25, i118_26, i118_27, i118_28, i118_29, i118_30, i118_31, i118_32, i118_33, rv_27_0, hx8, mM_a, mM_sa]
    exact ih (x + 1) (d_el1 u x g) (by omega)
theorem w118 (ht : 55 ≤ t) (hu : u < 3) (ha : m_aa a) : WP V 118 0 (m_loc 118 [.ref 27, .int (nI u)]) [] t (mM J a g h o) L (m_RR e a b) Q = Q none t (mM J a (d_el g u) h o) L (m_RR e a b) := by
  rw [show m_loc 118 [.ref 27, .int (nI u)] = [.ref 27, .int (nI u), m_u, m_u] from rfl]
  simp (disch := first | assumption | omega | decide) only [nI_add, n_mul, n_sub, n_le, n_lt, n_eq, n_ne1, n_0, m_bl_t, m_bl_f, if_true, if_false, Nat.reduceAdd, Nat.reduceMul, Nat.reduceSub, Nat.reduceLeDiff, Nat.reduceEqDiff, Nat.add_zero, Nat.add_sub_cancel, Option.toList, List.cons_append, List.nil_append, i118_0, i118_1, i118_2, i118_3, i118_4, c113]
  exact w118_5 ht hu ha 8 0 g rfl
theorem c118 (ht : 55 ≤ t) (hu : u < 3) (ha : m_aa a) : WPC V 118 [.ref 27, .int (nI u)] m n ls st t (mM J a g h o) L (m_RR e a b) Q = WP V m n ls st t (mM J a (d_el g u) h o) L (m_RR e a b) Q := wpc_of (fun Q => w118 ht hu ha)
theorem w116_5 (ht : 55 ≤ t) (hu : u < 3) (ha : m_aa a) : ∀ (c k : Nat), k + c = 50 → WP V 116 5 [.ref 27, .int (nI u), .int (nI (150 + 154 * u)), .int (nI (101 + k))] [] t (mM J a (d_z (150 + 154 * u + 101) k g) h o) L (m_RR e a b) Q = WP V 116 17 [.ref 27, .int (nI u), .int (nI (150 + 154 * u)), .int (nI 151)] [] t (mM J a (d_z (150 + 154 * u + 101) 50 g) h o) L (m_RR e a b) Q := by
  have hA := mA_of ha
  have hat := mA_lt ha ht
  intro c
  induction c with
  | zero =>
    intro k hx
    obtain rfl : k = 50 := by omega
    rw [i116_5]
    simp (disch := first | assumption | omega | decide) only [nI_add, n_mul, n_sub, n_le, n_lt, n_eq, n_ne1, n_0, m_bl_t, m_bl_f, if_true, if_false, Nat.reduceAdd, Nat.reduceMul, Nat.reduceSub, Nat.reduceLeDiff, Nat.reduceEqDiff, Nat.add_zero, Nat.add_sub_cancel, Option.toList, List.cons_append, List.nil_append, i116_6, i116_7, Nat.le_refl]
  | succ c ih =>
    intro k hx
    have hx8 : ¬ 151 ≤ 101 + k := by omega
    have hx7 : k < 50 := by omega
    have e1 : 150 + 154 * u + (101 + k) = 150 + 154 * u + 101 + k := by omega
    rw [i116_5]
    simp (disch := first | assumption | omega | decide) only [nI_add, n_mul, n_sub, n_le, n_lt, n_eq, n_ne1, n_0, m_bl_t, m_bl_f, if_true, if_false, Nat.reduceAdd, Nat.reduceMul, Nat.reduceSub, Nat.reduceLeDiff, Nat.reduceEqDiff, Nat.add_zero, Nat.add_sub_cancel, Option.toList, List.cons_append, List.nil_append, i116_6, i116_7, i116_8, i116_9, i116_10, i116_11, i116_12, i116_13, i116_14, i116_15, i116_16, rv_27_0, hx8, mM_a, mM_sa, e1, d_z1]
    exact ih (k + 1) (by omega)
theorem w116 (ht : 55 ≤ t) (hu : u < 3) (ha : m_aa a) : WP V 116 0 (m_loc 116 [.ref 27, .int (nI u)]) [] t (mM J a g h o) L (m_RR e a b) Q = Q none t (mM J a (d_clear g u) h o) L (m_RR e a b) := by
  rw [show m_loc 116 [.ref 27, .int (nI u)] = [.ref 27, .int (nI u), m_u, m_u] from rfl]
  simp (disch := first | assumption | omega | decide) only [nI_add, n_mul, n_sub, n_le, n_lt, n_eq, n_ne1, n_0, m_bl_t, m_bl_f, if_true, if_false, Nat.reduceAdd, Nat.reduceMul, Nat.reduceSub, Nat.reduceLeDiff, Nat.reduceEqDiff, Nat.add_zero, Nat.add_sub_cancel, Option.toList, List.cons_append, List.nil_append, i116_0, i116_1, i116_2, i116_3, i116_4, c113]
  have h1 := w116_5 (V := V) (J := J) (g := g) (h := h) (o := o) (L := L) (e := e) (b := b) (Q := Q) ht hu ha 50 0 rfl
  rw [d_z0] at h1
  rw [show nI 101 = nI (101 + 0) from rfl, h1]
  simp (disch := first | assumption | omega | decide) only [nI_add, n_mul, n_sub, n_le, n_lt, n_eq, n_ne1, n_0, m_bl_t, m_bl_f, if_true, if_false, Nat.reduceAdd, Nat.reduceMul, Nat.reduceSub, Nat.reduceLeDiff, Nat.reduceEqDiff, Nat.add_zero, Nat.add_sub_cancel, Option.toList, List.cons_append, List.nil_append, i116_17, i116_18, i116_19, i116_20, i116_21, i116_22, i116_23, c117, c118]
  rfl
theorem c116 (ht : 55 ≤ t) (hu : u < 3) (ha : m_aa a) : WPC V 116 [.ref 27, .int (nI u)] m n ls st t (mM J a g h o) L (m_RR e a b) Q = WP V m n ls st t (mM J a (d_clear g u) h o) L (m_RR e a b) Q := wpc_of (fun Q => w116 ht hu ha)
theorem w138_2 (ht : 55 ≤ t) (hu : u < 3) (ha : m_aa a) : ∀ (c x : Nat) (g : Nat → Int32) (z : Value), x + c = 8 → WP V 138 2 [.ref 27, .int (nI u), .int (nI x), z] [] t (mM J a g h o) L (m_RR e a b) Q = Q none t (mM J a (s_loop (d_dis1 u) x c g) h o) L (m_RR e a b) := by
  have hA := mA_of ha
  have hat := mA_lt ha ht
  intro c
  induction c with
  | zero =>
    intro x g z hx
    obtain rfl : x = 8 := by omega
    rw [i138_2]
    simp (disch := first | assumption | omega | decide) only [nI_add, n_mul, n_sub, n_le, n_lt, n_eq, n_ne1, n_0, m_bl_t, m_bl_f, if_true, if_false, Nat.reduceAdd, Nat.reduceMul, Nat.reduceSub, Nat.reduceLeDiff, Nat.reduceEqDiff, Nat.add_zero, Nat.add_sub_cancel, Option.toList, List.cons_append, List.nil_append, i138_3, i138_4, i138_32, Nat.le_refl, s_loop]
  | succ c ih =>
    intro x g z hx
    have hx8 : ¬ 8 ≤ x := by omega
    have hx7 : x < 8 := by omega
    rw [i138_2, s_loop]
    simp (disch := first | assumption | omega | decide) only [nI_add, n_mul, n_sub, n_le, n_lt, n_eq, n_ne1, n_0, m_bl_t, m_bl_f, if_true, if_false, Nat.reduceAdd, Nat.reduceMul, Nat.reduceSub, Nat.reduceLeDiff, Nat.reduceEqDiff, Nat.add_zero, Nat.add_sub_cancel, Option.toList, List.cons_append, List.nil_append, i138_3, i138_4, i138_5, i138_6, i138_7, i138_8, i138_9, i138_10, i138_11, i138_12, i138_13, i138_14, i138_15, i138_16, i138_17, i138_18, i138_19, i138_20, rv_27_0, hx8, mM_a, mM_sa, c112]
    by_cases h1 : g (18 * x + 16) = nI u
    · have e1 : d_dis1 u x g = m_sc g (18 * x + 16) (-1) := by unfold d_dis1; rw [if_pos h1]
      simp (disch := first | assumption | omega | decide) only [nI_add, n_mul, n_sub, n_le, n_lt, n_eq, n_ne1, n_0, m_bl_t, m_bl_f, if_true, if_false, Nat.reduceAdd, Nat.reduceMul, Nat.reduceSub, Nat.reduceLeDiff, Nat.reduceEqDiff, Nat.add_zero, Nat.add_sub_cancel, Option.toList, List.cons_append, List.nil_append, h1, i138_21, i138_22, i138_29, i138_30, i138_31, mM_a, mM_sa]
      rw [e1]
      exact ih (x + 1) _ _ (by omega)
    · have e1 : d_dis1 u x g = m_sc g (18 * x + 16) (g (18 * x + 16)) := by unfold d_dis1; rw [if_neg h1]
      simp (disch := first | assumption | omega | decide) only [nI_add, n_mul, n_sub, n_le, n_lt, n_eq, n_ne1, n_0, m_bl_t, m_bl_f, if_true, if_false, Nat.reduceAdd, Nat.reduceMul, Nat.reduceSub, Nat.reduceLeDiff, Nat.reduceEqDiff, Nat.add_zero, Nat.add_sub_cancel, Option.toList, List.cons_append, List.nil_append, h1, i138_23, i138_24, i138_25, i138_26, i138_27, i138_28, i138_29, i138_30, i138_31, rv_27_0, mM_a, mM_sa]
      rw [e1]
      exact ih (x + 1) _ _ (by omega)
theorem w138 (ht : 55 ≤ t) (hu : u < 3) (ha : m_aa a) : WP V 138 0 (m_loc 138 [.ref 27, .int (nI u)]) [] t (mM J a g h o) L (m_RR e a b) Q = Q none t (mM J a (d_dis g u) h o) L (m_RR e a b) := by
  rw [show m_loc 138 [.ref 27, .int (nI u)] = [.ref 27, .int (nI u), m_u, m_u] from rfl]
  simp (disch := first | assumption | omega | decide) only [nI_add, n_mul, n_sub, n_le, n_lt, n_eq, n_ne1, n_0, m_bl_t, m_bl_f, if_true, if_false, Nat.reduceAdd, Nat.reduceMul, Nat.reduceSub, Nat.reduceLeDiff, Nat.reduceEqDiff, Nat.add_zero, Nat.add_sub_cancel, Option.toList, List.cons_append, List.nil_append, i138_0, i138_1]
  exact w138_2 ht hu ha 8 0 g _ rfl
theorem c138 (ht : 55 ≤ t) (hu : u < 3) (ha : m_aa a) : WPC V 138 [.ref 27, .int (nI u)] m n ls st t (mM J a g h o) L (m_RR e a b) Q = WP V m n ls st t (mM J a (d_dis g u) h o) L (m_RR e a b) Q := wpc_of (fun Q => w138 ht hu ha)
end T28
