/-! keep and back: the class's copy back; the model's movesRow() -/
section RAD
variable {V : m_V} {m n : Nat} {ls st : List Value} {t N M : Nat} {I I' : m_I} {R : m_R} {L L' : m_L} {e : Option Nat} {a b u x i s p c r j k : Nat} {Q : Option Value → Nat → m_I → m_L → m_R → Prop}
def z_bk (I : m_I) : m_I := m_sc (m_sc (m_sc (m_sc (m_sc (m_sc (m_sc I 2 (va_cpy (I 14) (I 2) 0 0 581)) 4 (va_cpy (I 16) (I 4) 0 0 960)) 5 (va_cpy (I 17) (I 5) 0 0 6)) 7 (va_cpy (I 19) (I 7) 0 0 6)) 8 (va_cpy (I 20) (I 8) 0 0 6)) 11 (va_cpy (I 23) (I 11) 0 0 2100)) 10 (m_sc (I 10) 2 (I 22 2))
theorem w45b (ht : 55 ≤ t) : WP V 45 0 (m_loc 45 [.ref 1, .ref 13]) [] t I L (m_RR e a b) Q = Q none t (z_bk I) (m_sc L 9 (va_cpy (L 21) (L 9) 0 0 96)) (m_RR e a b) := by
  rw [show m_loc 45 [.ref 1, .ref 13] = [.ref 1, .ref 13] from rfl]
  simp (disch := first | assumption | omega | decide) only [nI_add, n_mul, n_sub, n_le, n_lt, n_eq, n_ne1, n_0, m_bl_t, m_bl_f, if_true, if_false, Nat.reduceAdd, Nat.reduceMul, Nat.reduceSub, Nat.reduceLeDiff, Nat.reduceEqDiff, Nat.add_zero, Nat.add_sub_cancel, Option.toList, List.cons_append, List.nil_append, i45_0, i45_1, i45_2, i45_3, i45_4, i45_5, i45_6, i45_7, i45_8, i45_9, i45_10, i45_11, i45_12, rv_13_0, rv_13_1, rv_1_0, rv_1_1, c6b ht, m_sc_ne]
  simp (disch := first | assumption | omega | decide) only [nI_add, n_mul, n_sub, n_le, n_lt, n_eq, n_ne1, n_0, m_bl_t, m_bl_f, if_true, if_false, Nat.reduceAdd, Nat.reduceMul, Nat.reduceSub, Nat.reduceLeDiff, Nat.reduceEqDiff, Nat.add_zero, Nat.add_sub_cancel, Option.toList, List.cons_append, List.nil_append, i45_13, i45_14, i45_15, i45_16, i45_17, rv_13_2, rv_1_2, c68b ht, m_sc_ne]
  simp (disch := first | assumption | omega | decide) only [nI_add, n_mul, n_sub, n_le, n_lt, n_eq, n_ne1, n_0, m_bl_t, m_bl_f, if_true, if_false, Nat.reduceAdd, Nat.reduceMul, Nat.reduceSub, Nat.reduceLeDiff, Nat.reduceEqDiff, Nat.add_zero, Nat.add_sub_cancel, Option.toList, List.cons_append, List.nil_append, i45_18, i45_19, i45_20, i45_21, i45_22, i45_23, rv_13_3, rv_1_3, c62b ht, m_sc_ne]
  rfl
theorem c45b (ht : 55 ≤ t) : WPC V 45 [.ref 1, .ref 13] m n ls st t I L (m_RR e a b) Q = WP V m n ls st t (z_bk I) (m_sc L 9 (va_cpy (L 21) (L 9) 0 0 96)) (m_RR e a b) Q := wpc_of (fun Q => w45b ht)
def z_mv (I : m_I) (r p i c : Nat) : m_I := m_sc (m_sc I 53 (va_cpy (I r) (I 53) i p c)) 27 (m_sc (I 27) 41 (nI (p + c)))
def y_mv (I : m_I) (r p i c : Nat) : m_I := m_sc (m_sc I r (va_cpy (I 53) (I r) p i c)) 27 (m_sc (I 27) 41 (nI (p + c)))
theorem cpy_s {α : Type} {f g : Nat → α} : va_cpy f (m_sc g p (f i)) (i + 1) (p + 1) c = va_cpy f g i p (c + 1) := by
  funext j
  unfold va_cpy
  by_cases h : j = p
  · subst h
    rw [if_neg (by omega), m_sc_self, if_pos (by omega), Nat.sub_self, Nat.add_zero]
  · rw [m_sc_ne h]
    by_cases h2 : p + 1 ≤ j ∧ j < p + 1 + c
    · rw [if_pos h2, if_pos (by omega), show i + 1 + (j - (p + 1)) = i + (j - p) by omega]
    · rw [if_neg h2, if_neg (by omega)]
theorem cpy_0 {α : Type} {f g : Nat → α} : va_cpy f g i p 0 = g := by
  funext j
  unfold va_cpy
  rw [if_neg (by omega)]
theorem z_mv_0 (h : I 27 41 = nI p) : z_mv I r p i 0 = I := by
  unfold z_mv
  rw [cpy_0, Nat.add_zero, ← h, s_sce, s_sce, s_sce]
theorem y_mv_0 (h : I 27 41 = nI p) : y_mv I r p i 0 = I := by
  unfold y_mv
  rw [cpy_0, Nat.add_zero, ← h, s_sce, s_sce, s_sce]
theorem z_mv_s (h1 : r ≠ 53) (h2 : r ≠ 27) : z_mv (m_sc (m_sc I 53 (m_sc (I 53) p (I r i))) 27 (m_sc (I 27) 41 (nI (p + 1)))) r (p + 1) (i + 1) c = z_mv I r p i (c + 1) := by
  unfold z_mv
  rw [m_sc_ne h2, m_sc_ne h1, m_sc_ne (j := 53) (by omega), m_sc_self, m_sc_self, s_scc, cpy_s, show p + 1 + c = p + (c + 1) by omega]
  funext k
  by_cases h27 : k = 27
  · subst h27; rw [m_sc_self, m_sc_self]
  · rw [m_sc_ne h27, m_sc_ne h27]
    by_cases h53 : k = 53
    · subst h53; rw [m_sc_self, m_sc_self]
    · rw [m_sc_ne h53, m_sc_ne h27, m_sc_ne h53, m_sc_ne h53]
theorem y_mv_s (h1 : r ≠ 53) (h2 : r ≠ 27) : y_mv (m_sc (m_sc I r (m_sc (I r) i (I 53 p))) 27 (m_sc (I 27) 41 (nI (p + 1)))) r (p + 1) (i + 1) c = y_mv I r p i (c + 1) := by
  unfold y_mv
  have h3 : 53 ≠ r := fun q => h1 q.symm
  rw [m_sc_ne (j := 53) (by omega), m_sc_ne h3, m_sc_ne h2, m_sc_self, m_sc_self, s_scc, cpy_s, show p + 1 + c = p + (c + 1) by omega]
  funext k
  by_cases h27 : k = 27
  · subst h27; rw [m_sc_self, m_sc_self]
  · rw [m_sc_ne h27, m_sc_ne h27]
    by_cases h53 : k = r
    · subst h53; rw [m_sc_self, m_sc_self]
    · rw [m_sc_ne h53, m_sc_ne h27, m_sc_ne h53, m_sc_ne h53]
theorem w189_2k (ht : 55 ≤ t) (hr : m_ar r 2 N = true) (hN : N < 2 ^ 31) (hrt : r < t) (h1 : r ≠ 53) (h2 : r ≠ 27) {k : Nat} (hk : k ≤ N) : ∀ c i p (I : m_I), i + c = k → p + c ≤ 4000 → I 27 41 = nI p → WP V 189 2 [.ref 27, .ref r, .int (nI k), .int (nI 1), .int (nI i)] [] t I L (m_RR e 28 b) Q = Q none t (z_mv I r p i c) L (m_RR e 28 b) := by
  intro c
  induction c with
  | zero =>
    intro i p I hi hp h41
    obtain rfl : i = k := by omega
    rw [z_mv_0 h41, i189_2]
    simp (disch := first | assumption | omega | decide) only [nI_add, n_mul, n_sub, n_le, n_lt, n_eq, n_ne1, n_0, m_bl_t, m_bl_f, if_true, if_false, Nat.reduceAdd, Nat.reduceMul, Nat.reduceSub, Nat.reduceLeDiff, Nat.reduceEqDiff, Nat.add_zero, Nat.add_sub_cancel, Option.toList, List.cons_append, List.nil_append, i189_3, i189_4, i189_32, Nat.le_refl]
  | succ c ih =>
    intro i p I hi hp h41
    have hlt : ¬ k ≤ i := by omega
    have hiN : i < N := by omega
    have hp4 : p < 4000 := by omega
    have h10 : ¬ nI 1 = nI 0 := by decide
    rw [← z_mv_s h1 h2, ← ih (i + 1) (p + 1) _ (by omega) (by omega) (by rw [m_sc_self, m_sc_self]), i189_2]
    simp (disch := first | assumption | omega | decide) only [nI_add, n_mul, n_sub, n_le, n_lt, n_eq, n_ne1, n_0, m_bl_t, m_bl_f, if_true, if_false, Nat.reduceAdd, Nat.reduceMul, Nat.reduceSub, Nat.reduceLeDiff, Nat.reduceEqDiff, Nat.add_zero, Nat.add_sub_cancel, Option.toList, List.cons_append, List.nil_append, i189_3, i189_4, i189_5, i189_6, i189_7, i189_8, i189_9, i189_10, i189_11, i189_12, i189_14, i189_15, i189_24, i189_25, i189_26, i189_27, i189_28, i189_29, i189_30, i189_31, rv_27_39, i189_13 (N := N), hlt, h10, h41, m_sc_ne]
theorem w189_2b (ht : 55 ≤ t) (hr : m_ar r 2 N = true) (hN : N < 2 ^ 31) (hrt : r < t) (h1 : r ≠ 53) (h2 : r ≠ 27) {k : Nat} (hk : k ≤ N) : ∀ c i p (I : m_I), i + c = k → p + c ≤ 4000 → I 27 41 = nI p → WP V 189 2 [.ref 27, .ref r, .int (nI k), .int (nI 0), .int (nI i)] [] t I L (m_RR e 28 b) Q = Q none t (y_mv I r p i c) L (m_RR e 28 b) := by
  intro c
  induction c with
  | zero =>
    intro i p I hi hp h41
    obtain rfl : i = k := by omega
    rw [y_mv_0 h41, i189_2]
    simp (disch := first | assumption | omega | decide) only [nI_add, n_mul, n_sub, n_le, n_lt, n_eq, n_ne1, n_0, m_bl_t, m_bl_f, if_true, if_false, Nat.reduceAdd, Nat.reduceMul, Nat.reduceSub, Nat.reduceLeDiff, Nat.reduceEqDiff, Nat.add_zero, Nat.add_sub_cancel, Option.toList, List.cons_append, List.nil_append, i189_3, i189_4, i189_32, Nat.le_refl]
  | succ c ih =>
    intro i p I hi hp h41
    have hlt : ¬ k ≤ i := by omega
    have hiN : i < N := by omega
    have hp4 : p < 4000 := by omega
    have h3 : 27 ≠ r := fun q => h2 q.symm
    rw [← y_mv_s h1 h2, ← ih (i + 1) (p + 1) _ (by omega) (by omega) (by rw [m_sc_self, m_sc_self]), i189_2]
    simp (disch := first | assumption | omega | decide) only [nI_add, n_mul, n_sub, n_le, n_lt, n_eq, n_ne1, n_0, m_bl_t, m_bl_f, if_true, if_false, Nat.reduceAdd, Nat.reduceMul, Nat.reduceSub, Nat.reduceLeDiff, Nat.reduceEqDiff, Nat.add_zero, Nat.add_sub_cancel, Option.toList, List.cons_append, List.nil_append, i189_3, i189_4, i189_5, i189_6, i189_16, i189_17, i189_18, i189_19, i189_20, i189_21, i189_22, i189_24, i189_25, i189_26, i189_27, i189_28, i189_29, i189_30, i189_31, rv_27_39, i189_23 (N := N), hlt, h41, m_sc_ne, h3]
theorem w189k (ht : 55 ≤ t) (hr : m_ar r 2 N = true) (hN : N < 2 ^ 31) (hrt : r < t) (h1 : r ≠ 53) (h2 : r ≠ 27) {k : Nat} (hk : k ≤ N) (hp : p + k ≤ 4000) (h41 : I 27 41 = nI p) : WP V 189 0 (m_loc 189 [.ref 27, .ref r, .int (nI k), .int (nI 1)]) [] t I L (m_RR e 28 b) Q = Q none t (z_mv I r p 0 k) L (m_RR e 28 b) := by
  rw [show m_loc 189 [.ref 27, .ref r, .int (nI k), .int (nI 1)] = [.ref 27, .ref r, .int (nI k), .int (nI 1), m_u] from rfl]
  simp (disch := first | assumption | omega | decide) only [nI_add, n_mul, n_sub, n_le, n_lt, n_eq, n_ne1, n_0, m_bl_t, m_bl_f, if_true, if_false, Nat.reduceAdd, Nat.reduceMul, Nat.reduceSub, Nat.reduceLeDiff, Nat.reduceEqDiff, Nat.add_zero, Nat.add_sub_cancel, Option.toList, List.cons_append, List.nil_append, i189_0, i189_1]
  exact w189_2k ht hr hN hrt h1 h2 hk k 0 p I (Nat.zero_add k) hp h41
theorem c189k (ht : 55 ≤ t) (hr : m_ar r 2 N = true) (hN : N < 2 ^ 31) (hrt : r < t) (h1 : r ≠ 53) (h2 : r ≠ 27) {k : Nat} (hk : k ≤ N) (hp : p + k ≤ 4000) (h41 : I 27 41 = nI p) : WPC V 189 [.ref 27, .ref r, .int (nI k), .int (nI 1)] m n ls st t I L (m_RR e 28 b) Q = WP V m n ls st t (z_mv I r p 0 k) L (m_RR e 28 b) Q := wpc_of (fun Q => w189k ht hr hN hrt h1 h2 hk hp h41)
theorem w189b (ht : 55 ≤ t) (hr : m_ar r 2 N = true) (hN : N < 2 ^ 31) (hrt : r < t) (h1 : r ≠ 53) (h2 : r ≠ 27) {k : Nat} (hk : k ≤ N) (hp : p + k ≤ 4000) (h41 : I 27 41 = nI p) : WP V 189 0 (m_loc 189 [.ref 27, .ref r, .int (nI k), .int (nI 0)]) [] t I L (m_RR e 28 b) Q = Q none t (y_mv I r p 0 k) L (m_RR e 28 b) := by
  rw [show m_loc 189 [.ref 27, .ref r, .int (nI k), .int (nI 0)] = [.ref 27, .ref r, .int (nI k), .int (nI 0), m_u] from rfl]
  simp (disch := first | assumption | omega | decide) only [nI_add, n_mul, n_sub, n_le, n_lt, n_eq, n_ne1, n_0, m_bl_t, m_bl_f, if_true, if_false, Nat.reduceAdd, Nat.reduceMul, Nat.reduceSub, Nat.reduceLeDiff, Nat.reduceEqDiff, Nat.add_zero, Nat.add_sub_cancel, Option.toList, List.cons_append, List.nil_append, i189_0, i189_1]
  exact w189_2b ht hr hN hrt h1 h2 hk k 0 p I (Nat.zero_add k) hp h41
theorem c189b (ht : 55 ≤ t) (hr : m_ar r 2 N = true) (hN : N < 2 ^ 31) (hrt : r < t) (h1 : r ≠ 53) (h2 : r ≠ 27) {k : Nat} (hk : k ≤ N) (hp : p + k ≤ 4000) (h41 : I 27 41 = nI p) : WPC V 189 [.ref 27, .ref r, .int (nI k), .int (nI 0)] m n ls st t I L (m_RR e 28 b) Q = WP V m n ls st t (y_mv I r p 0 k) L (m_RR e 28 b) Q := wpc_of (fun Q => w189b ht hr hN hrt h1 h2 hk hp h41)
theorem z_mv_41 : z_mv I r p i c 27 41 = nI (p + c) := by unfold z_mv; rw [m_sc_self, m_sc_self]
theorem y_mv_41 : y_mv I r p i c 27 41 = nI (p + c) := by unfold y_mv; rw [m_sc_self, m_sc_self]
theorem z_mv_27 (h : j ≠ 41) : z_mv I r p i c 27 j = I 27 j := by unfold z_mv; rw [m_sc_self, m_sc_ne h]
theorem y_mv_27 (h : j ≠ 41) : y_mv I r p i c 27 j = I 27 j := by unfold y_mv; rw [m_sc_self, m_sc_ne h]
theorem z_mv_o (h1 : k ≠ 53) (h2 : k ≠ 27) : z_mv I r p i c k = I k := by unfold z_mv; rw [m_sc_ne h2, m_sc_ne h1]
theorem y_mv_o (h1 : k ≠ r) (h2 : k ≠ 27) : y_mv I r p i c k = I k := by unfold y_mv; rw [m_sc_ne h2, m_sc_ne h1]
theorem z_mv_i (h : j < c) : z_mv I r p i c 53 (p + j) = I r (i + j) := by
  unfold z_mv va_cpy
  rw [m_sc_ne (by omega), m_sc_self, if_pos (by omega), Nat.add_sub_cancel_left]
theorem z_mv_x (h : j < p ∨ p + c ≤ j) : z_mv I r p i c 53 j = I 53 j := by
  unfold z_mv va_cpy
  rw [m_sc_ne (by omega), m_sc_self, if_neg (by omega)]
theorem y_mv_i (h : j < c) (h2 : r ≠ 27) : y_mv I r p i c r (i + j) = I 53 (p + j) := by
  unfold y_mv va_cpy
  rw [m_sc_ne h2, m_sc_self, if_pos (by omega), Nat.add_sub_cancel_left]
end RAD
