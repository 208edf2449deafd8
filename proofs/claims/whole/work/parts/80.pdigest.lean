/-! digest: alike -/
def dg1 (T : Int32 → Int32 → Int32) (x : Nat) : Nat → Nat → Int64 → Int64
  | 0, _, h => h
  | c + 1, y, h => dg1 T x c (y + 1) (lN 31 * h + (T (nI x) (nI y)).toInt64)
def dg2 (T : Int32 → Int32 → Int32) (Y : Nat) : Nat → Nat → Int64 → Int64
  | 0, _, h => h
  | c + 1, x, h => dg2 T Y c (x + 1) (dg1 T x Y 0 h)
def dg3 (U : Int32 → Int32) : Nat → Nat → Int64 → Int64
  | 0, _, h => h
  | c + 1, x, h => dg3 U c (x + 1) (lN 31 * h + (U (nI x)).toInt64)
section RZY
variable {V : m_V} {m n : Nat} {ls st : List Value} {t N M : Nat} {I I' : m_I} {R : m_R} {L L' : m_L} {e : Option Nat} {a b u x i s : Nat} {Q : Option Value → Nat → m_I → m_L → m_R → Prop}
theorem w108_9 (ht : 55 ≤ t) {T : Int32 → Int32 → Int32} (hq : ∀ (p q : Int32) Q, WP V 101 0 (m_loc 101 [.ref 0, .int p, .int q]) [] t I L (m_RR e 28 48) Q = Q (some (.int (T p q))) t I L (m_RR e 28 48)) : ∀ c y h, y + c = 14 → WP V 108 9 [.ref 0, .long h, m_u, .int (nI x), .int (nI y)] [] t I L (m_RR e 28 48) Q = WP V 108 24 [.ref 0, .long (dg1 T x c y h), m_u, .int (nI x), .int (nI 14)] [] t I L (m_RR e 28 48) Q := by
  intro c
  induction c with
  | zero =>
    intro y h hy
    obtain rfl : y = 14 := by omega
    have hh : 14 ≤ 14 := Nat.le_refl _
    rw [i108_9]
    simp (disch := first | assumption | omega | decide) only [nI_add, n_mul, n_sub, n_le, n_lt, n_eq, n_ne1, n_0, m_bl_t, m_bl_f, if_true, if_false, Nat.reduceAdd, Nat.reduceMul, Nat.reduceSub, Nat.reduceLeDiff, Nat.reduceEqDiff, Nat.add_zero, Nat.add_sub_cancel, Option.toList, List.cons_append, List.nil_append, i108_10, i108_11, hh]
    rfl
  | succ c ih =>
    intro y h hy
    have hh : ¬ 14 ≤ y := by omega
    rw [i108_9]
    simp (disch := first | assumption | omega | decide) only [nI_add, n_mul, n_sub, n_le, n_lt, n_eq, n_ne1, n_0, m_bl_t, m_bl_f, if_true, if_false, Nat.reduceAdd, Nat.reduceMul, Nat.reduceSub, Nat.reduceLeDiff, Nat.reduceEqDiff, Nat.add_zero, Nat.add_sub_cancel, Option.toList, List.cons_append, List.nil_append, i108_10, i108_11, i108_12, i108_13, i108_14, i108_15, i108_16, i108_17, i108_18, i108_19, i108_20, i108_21, i108_22, i108_23, hh, wpc_of (hq (nI x) (nI y))]
    exact ih (y + 1) _ (by omega)
theorem w108_4 (ht : 55 ≤ t) {T : Int32 → Int32 → Int32} (hq : ∀ (p q : Int32) Q, WP V 101 0 (m_loc 101 [.ref 0, .int p, .int q]) [] t I L (m_RR e 28 48) Q = Q (some (.int (T p q))) t I L (m_RR e 28 48)) : ∀ c x h w, x + c = 8 → ∃ w', ∀ Q, WP V 108 4 [.ref 0, .long h, m_u, .int (nI x), w] [] t I L (m_RR e 28 48) Q = WP V 108 26 [.ref 0, .long (dg2 T 14 c x h), m_u, .int (nI 8), w'] [] t I L (m_RR e 28 48) Q := by
  intro c
  induction c with
  | zero =>
    intro x h w hx
    obtain rfl : x = 8 := by omega
    have hh : 8 ≤ 8 := Nat.le_refl _
    refine ⟨w, fun Q => ?_⟩
    rw [i108_4]
    simp (disch := first | assumption | omega | decide) only [nI_add, n_mul, n_sub, n_le, n_lt, n_eq, n_ne1, n_0, m_bl_t, m_bl_f, if_true, if_false, Nat.reduceAdd, Nat.reduceMul, Nat.reduceSub, Nat.reduceLeDiff, Nat.reduceEqDiff, Nat.add_zero, Nat.add_sub_cancel, Option.toList, List.cons_append, List.nil_append, i108_5, i108_6, hh]
    rfl
  | succ c ih =>
    intro x h w hx
    have hh : ¬ 8 ≤ x := by omega
    obtain ⟨w', hw⟩ := ih (x + 1) (dg1 T x 14 0 h) (.int (nI 14)) (by omega)
    refine ⟨w', fun Q => ?_⟩
    refine Eq.trans ?_ (hw Q)
    rw [i108_4]
    simp (disch := first | assumption | omega | decide) only [nI_add, n_mul, n_sub, n_le, n_lt, n_eq, n_ne1, n_0, m_bl_t, m_bl_f, if_true, if_false, Nat.reduceAdd, Nat.reduceMul, Nat.reduceSub, Nat.reduceLeDiff, Nat.reduceEqDiff, Nat.add_zero, Nat.add_sub_cancel, Option.toList, List.cons_append, List.nil_append, i108_5, i108_6, i108_7, i108_8, hh]
    rw [w108_9 ht hq 14 0 h rfl]
    simp (disch := first | assumption | omega | decide) only [nI_add, n_mul, n_sub, n_le, n_lt, n_eq, n_ne1, n_0, m_bl_t, m_bl_f, if_true, if_false, Nat.reduceAdd, Nat.reduceMul, Nat.reduceSub, Nat.reduceLeDiff, Nat.reduceEqDiff, Nat.add_zero, Nat.add_sub_cancel, Option.toList, List.cons_append, List.nil_append, i108_24, i108_25]
theorem w108_33 (ht : 55 ≤ t) {T : Int32 → Int32 → Int32} (hq : ∀ (p q : Int32) Q, WP V 100 0 (m_loc 100 [.ref 0, .int p, .int q]) [] t I L (m_RR e 28 48) Q = Q (some (.int (T p q))) t I L (m_RR e 28 48)) : ∀ c y h, y + c = 12 → WP V 108 33 [.ref 0, .long h, m_u, .int (nI x), .int (nI y)] [] t I L (m_RR e 28 48) Q = WP V 108 48 [.ref 0, .long (dg1 T x c y h), m_u, .int (nI x), .int (nI 12)] [] t I L (m_RR e 28 48) Q := by
  intro c
  induction c with
  | zero =>
    intro y h hy
    obtain rfl : y = 12 := by omega
    have hh : 12 ≤ 12 := Nat.le_refl _
    rw [i108_33]
    simp (disch := first | assumption | omega | decide) only [nI_add, n_mul, n_sub, n_le, n_lt, n_eq, n_ne1, n_0, m_bl_t, m_bl_f, if_true, if_false, Nat.reduceAdd, Nat.reduceMul, Nat.reduceSub, Nat.reduceLeDiff, Nat.reduceEqDiff, Nat.add_zero, Nat.add_sub_cancel, Option.toList, List.cons_append, List.nil_append, i108_34, i108_35, hh]
    rfl
  | succ c ih =>
    intro y h hy
    have hh : ¬ 12 ≤ y := by omega
    rw [i108_33]
    simp (disch := first | assumption | omega | decide) only [nI_add, n_mul, n_sub, n_le, n_lt, n_eq, n_ne1, n_0, m_bl_t, m_bl_f, if_true, if_false, Nat.reduceAdd, Nat.reduceMul, Nat.reduceSub, Nat.reduceLeDiff, Nat.reduceEqDiff, Nat.add_zero, Nat.add_sub_cancel, Option.toList, List.cons_append, List.nil_append, i108_34, i108_35, i108_36, i108_37, i108_38, i108_39, i108_40, i108_41, i108_42, i108_43, i108_44, i108_45, i108_46, i108_47, hh, wpc_of (hq (nI x) (nI y))]
    exact ih (y + 1) _ (by omega)
theorem w108_28 (ht : 55 ≤ t) {T : Int32 → Int32 → Int32} (hq : ∀ (p q : Int32) Q, WP V 100 0 (m_loc 100 [.ref 0, .int p, .int q]) [] t I L (m_RR e 28 48) Q = Q (some (.int (T p q))) t I L (m_RR e 28 48)) : ∀ c x h w, x + c = 3 → ∃ w', ∀ Q, WP V 108 28 [.ref 0, .long h, m_u, .int (nI x), w] [] t I L (m_RR e 28 48) Q = WP V 108 50 [.ref 0, .long (dg2 T 12 c x h), m_u, .int (nI 3), w'] [] t I L (m_RR e 28 48) Q := by
  intro c
  induction c with
  | zero =>
    intro x h w hx
    obtain rfl : x = 3 := by omega
    have hh : 3 ≤ 3 := Nat.le_refl _
    refine ⟨w, fun Q => ?_⟩
    rw [i108_28]
    simp (disch := first | assumption | omega | decide) only [nI_add, n_mul, n_sub, n_le, n_lt, n_eq, n_ne1, n_0, m_bl_t, m_bl_f, if_true, if_false, Nat.reduceAdd, Nat.reduceMul, Nat.reduceSub, Nat.reduceLeDiff, Nat.reduceEqDiff, Nat.add_zero, Nat.add_sub_cancel, Option.toList, List.cons_append, List.nil_append, i108_29, i108_30, hh]
    rfl
  | succ c ih =>
    intro x h w hx
    have hh : ¬ 3 ≤ x := by omega
    obtain ⟨w', hw⟩ := ih (x + 1) (dg1 T x 12 0 h) (.int (nI 12)) (by omega)
    refine ⟨w', fun Q => ?_⟩
    refine Eq.trans ?_ (hw Q)
    rw [i108_28]
    simp (disch := first | assumption | omega | decide) only [nI_add, n_mul, n_sub, n_le, n_lt, n_eq, n_ne1, n_0, m_bl_t, m_bl_f, if_true, if_false, Nat.reduceAdd, Nat.reduceMul, Nat.reduceSub, Nat.reduceLeDiff, Nat.reduceEqDiff, Nat.add_zero, Nat.add_sub_cancel, Option.toList, List.cons_append, List.nil_append, i108_29, i108_30, i108_31, i108_32, hh]
    rw [w108_33 ht hq 12 0 h rfl]
    simp (disch := first | assumption | omega | decide) only [nI_add, n_mul, n_sub, n_le, n_lt, n_eq, n_ne1, n_0, m_bl_t, m_bl_f, if_true, if_false, Nat.reduceAdd, Nat.reduceMul, Nat.reduceSub, Nat.reduceLeDiff, Nat.reduceEqDiff, Nat.add_zero, Nat.add_sub_cancel, Option.toList, List.cons_append, List.nil_append, i108_48, i108_49]
theorem w108_52 (ht : 55 ≤ t) {U : Int32 → Int32} (hq : ∀ (p : Int32) Q, WP V 102 0 (m_loc 102 [.ref 0, .int p]) [] t I L (m_RR e 28 48) Q = Q (some (.int (U p))) t I L (m_RR e 28 48)) {w : Value} : ∀ c x h, x + c = 8 → WP V 108 52 [.ref 0, .long h, m_u, .int (nI x), w] [] t I L (m_RR e 28 48) Q = Q (some (.long (dg3 U c x h))) t I L (m_RR e 28 48) := by
  intro c
  induction c with
  | zero =>
    intro x h hx
    obtain rfl : x = 8 := by omega
    have hh : 8 ≤ 8 := Nat.le_refl _
    rw [i108_52]
    simp (disch := first | assumption | omega | decide) only [nI_add, n_mul, n_sub, n_le, n_lt, n_eq, n_ne1, n_0, m_bl_t, m_bl_f, if_true, if_false, Nat.reduceAdd, Nat.reduceMul, Nat.reduceSub, Nat.reduceLeDiff, Nat.reduceEqDiff, Nat.add_zero, Nat.add_sub_cancel, Option.toList, List.cons_append, List.nil_append, i108_53, i108_54, i108_66, i108_67, hh]
    rfl
  | succ c ih =>
    intro x h hx
    have hh : ¬ 8 ≤ x := by omega
    rw [i108_52]
    simp (disch := first | assumption | omega | decide) only [nI_add, n_mul, n_sub, n_le, n_lt, n_eq, n_ne1, n_0, m_bl_t, m_bl_f, if_true, if_false, Nat.reduceAdd, Nat.reduceMul, Nat.reduceSub, Nat.reduceLeDiff, Nat.reduceEqDiff, Nat.add_zero, Nat.add_sub_cancel, Option.toList, List.cons_append, List.nil_append, i108_53, i108_54, i108_55, i108_56, i108_57, i108_58, i108_59, i108_60, i108_61, i108_62, i108_63, i108_64, i108_65, hh, wpc_of (hq (nI x))]
    exact ih (x + 1) _ (by omega)
theorem w108' (ht : 55 ≤ t) {T S : Int32 → Int32 → Int32} {U : Int32 → Int32} (h1 : ∀ (p q : Int32) Q, WP V 101 0 (m_loc 101 [.ref 0, .int p, .int q]) [] t I L (m_RR e 28 48) Q = Q (some (.int (T p q))) t I L (m_RR e 28 48)) (h2 : ∀ (p q : Int32) Q, WP V 100 0 (m_loc 100 [.ref 0, .int p, .int q]) [] t I L (m_RR e 28 48) Q = Q (some (.int (S p q))) t I L (m_RR e 28 48)) (h3 : ∀ (p : Int32) Q, WP V 102 0 (m_loc 102 [.ref 0, .int p]) [] t I L (m_RR e 28 48) Q = Q (some (.int (U p))) t I L (m_RR e 28 48)) (Q : Option Value → Nat → m_I → m_L → m_R → Prop) : WP V 108 0 (m_loc 108 [.ref 0]) [] t I L (m_RR e 28 48) Q = Q (some (.long (dg3 U 8 0 (dg2 S 12 3 0 (dg2 T 14 8 0 (lN 41)))))) t I L (m_RR e 28 48) := by
  rw [show m_loc 108 [.ref 0] = [.ref 0, m_u, m_u, m_u, m_u] from rfl]
  obtain ⟨w1, q1⟩ := w108_4 (V := V) ht h1 8 0 (lN 41) m_u rfl
  obtain ⟨w2, q2⟩ := w108_28 (V := V) ht h2 3 0 (dg2 T 14 8 0 (lN 41)) w1 rfl
  simp (disch := first | assumption | omega | decide) only [nI_add, n_mul, n_sub, n_le, n_lt, n_eq, n_ne1, n_0, m_bl_t, m_bl_f, if_true, if_false, Nat.reduceAdd, Nat.reduceMul, Nat.reduceSub, Nat.reduceLeDiff, Nat.reduceEqDiff, Nat.add_zero, Nat.add_sub_cancel, Option.toList, List.cons_append, List.nil_append, i108_0, i108_1, i108_2, i108_3]
  refine (q1 Q).trans ?_
  simp (disch := first | assumption | omega | decide) only [nI_add, n_mul, n_sub, n_le, n_lt, n_eq, n_ne1, n_0, m_bl_t, m_bl_f, if_true, if_false, Nat.reduceAdd, Nat.reduceMul, Nat.reduceSub, Nat.reduceLeDiff, Nat.reduceEqDiff, Nat.add_zero, Nat.add_sub_cancel, Option.toList, List.cons_append, List.nil_append, i108_26, i108_27]
  refine (q2 Q).trans ?_
  simp (disch := first | assumption | omega | decide) only [nI_add, n_mul, n_sub, n_le, n_lt, n_eq, n_ne1, n_0, m_bl_t, m_bl_f, if_true, if_false, Nat.reduceAdd, Nat.reduceMul, Nat.reduceSub, Nat.reduceLeDiff, Nat.reduceEqDiff, Nat.add_zero, Nat.add_sub_cancel, Option.toList, List.cons_append, List.nil_append, i108_50, i108_51]
  exact w108_52 ht h3 8 0 _ rfl
theorem w192_9 (ht : 55 ≤ t) {T : Int32 → Int32 → Int32} (hq : ∀ (p q : Int32) Q, WP V 183 0 (m_loc 183 [.ref 27, .int p, .int q]) [] t I L (m_RR e 28 48) Q = Q (some (.int (T p q))) t I L (m_RR e 28 48)) : ∀ c y h, y + c = 14 → WP V 192 9 [.ref 27, .long h, m_u, .int (nI x), .int (nI y)] [] t I L (m_RR e 28 48) Q = WP V 192 24 [.ref 27, .long (dg1 T x c y h), m_u, .int (nI x), .int (nI 14)] [] t I L (m_RR e 28 48) Q := by
  intro c
  induction c with
  | zero =>
    intro y h hy
    obtain rfl : y = 14 := by omega
    have hh : 14 ≤ 14 := Nat.le_refl _
    rw [i192_9]
    simp (disch := first | assumption | omega | decide) only [nI_add, n_mul, n_sub, n_le, n_lt, n_eq, n_ne1, n_0, m_bl_t, m_bl_f, if_true, if_false, Nat.reduceAdd, Nat.reduceMul, Nat.reduceSub, Nat.reduceLeDiff, Nat.reduceEqDiff, Nat.add_zero, Nat.add_sub_cancel, Option.toList, List.cons_append, List.nil_append, i192_10, i192_11, hh]
    rfl
  | succ c ih =>
    intro y h hy
    have hh : ¬ 14 ≤ y := by omega
    rw [i192_9]
    simp (disch := first | assumption | omega | decide) only [nI_add, n_mul, n_sub, n_le, n_lt, n_eq, n_ne1, n_0, m_bl_t, m_bl_f, if_true, if_false, Nat.reduceAdd, Nat.reduceMul, Nat.reduceSub, Nat.reduceLeDiff, Nat.reduceEqDiff, Nat.add_zero, Nat.add_sub_cancel, Option.toList, List.cons_append, List.nil_append, i192_10, i192_11, i192_12, i192_13, i192_14, i192_15, i192_16, i192_17, i192_18, i192_19, i192_20, i192_21, i192_22, i192_23, hh, wpc_of (hq (nI x) (nI y))]
    exact ih (y + 1) _ (by omega)
theorem w192_4 (ht : 55 ≤ t) {T : Int32 → Int32 → Int32} (hq : ∀ (p q : Int32) Q, WP V 183 0 (m_loc 183 [.ref 27, .int p, .int q]) [] t I L (m_RR e 28 48) Q = Q (some (.int (T p q))) t I L (m_RR e 28 48)) : ∀ c x h w, x + c = 8 → ∃ w', ∀ Q, WP V 192 4 [.ref 27, .long h, m_u, .int (nI x), w] [] t I L (m_RR e 28 48) Q = WP V 192 26 [.ref 27, .long (dg2 T 14 c x h), m_u, .int (nI 8), w'] [] t I L (m_RR e 28 48) Q := by
  intro c
  induction c with
  | zero =>
    intro x h w hx
    obtain rfl : x = 8 := by omega
    have hh : 8 ≤ 8 := Nat.le_refl _
    refine ⟨w, fun Q => ?_⟩
    rw [i192_4]
    simp (disch := first | assumption | omega | decide) only [nI_add, n_mul, n_sub, n_le, n_lt, n_eq, n_ne1, n_0, m_bl_t, m_bl_f, if_true, if_false, Nat.reduceAdd, Nat.reduceMul, Nat.reduceSub, Nat.reduceLeDiff, Nat.reduceEqDiff, Nat.add_zero, Nat.add_sub_cancel, Option.toList, List.cons_append, List.nil_append, i192_5, i192_6, hh]
    rfl
  | succ c ih =>
    intro x h w hx
    have hh : ¬ 8 ≤ x := by omega
    obtain ⟨w', hw⟩ := ih (x + 1) (dg1 T x 14 0 h) (.int (nI 14)) (by omega)
    refine ⟨w', fun Q => ?_⟩
    refine Eq.trans ?_ (hw Q)
    rw [i192_4]
    simp (disch := first | assumption | omega | decide) only [nI_add, n_mul, n_sub, n_le, n_lt, n_eq, n_ne1, n_0, m_bl_t, m_bl_f, if_true, if_false, Nat.reduceAdd, Nat.reduceMul, Nat.reduceSub, Nat.reduceLeDiff, Nat.reduceEqDiff, Nat.add_zero, Nat.add_sub_cancel, Option.toList, List.cons_append, List.nil_append, i192_5, i192_6, i192_7, i192_8, hh]
    rw [w192_9 ht hq 14 0 h rfl]
    simp (disch := first | assumption | omega | decide) only [nI_add, n_mul, n_sub, n_le, n_lt, n_eq, n_ne1, n_0, m_bl_t, m_bl_f, if_true, if_false, Nat.reduceAdd, Nat.reduceMul, Nat.reduceSub, Nat.reduceLeDiff, Nat.reduceEqDiff, Nat.add_zero, Nat.add_sub_cancel, Option.toList, List.cons_append, List.nil_append, i192_24, i192_25]
theorem w192_33 (ht : 55 ≤ t) {T : Int32 → Int32 → Int32} (hq : ∀ (p q : Int32) Q, WP V 182 0 (m_loc 182 [.ref 27, .int p, .int q]) [] t I L (m_RR e 28 48) Q = Q (some (.int (T p q))) t I L (m_RR e 28 48)) : ∀ c y h, y + c = 12 → WP V 192 33 [.ref 27, .long h, m_u, .int (nI x), .int (nI y)] [] t I L (m_RR e 28 48) Q = WP V 192 48 [.ref 27, .long (dg1 T x c y h), m_u, .int (nI x), .int (nI 12)] [] t I L (m_RR e 28 48) Q := by
  intro c
  induction c with
  | zero =>
    intro y h hy
    obtain rfl : y = 12 := by omega
    have hh : 12 ≤ 12 := Nat.le_refl _
    rw [i192_33]
    simp (disch := first | assumption | omega | decide) only [nI_add, n_mul, n_sub, n_le, n_lt, n_eq, n_ne1, n_0, m_bl_t, m_bl_f, if_true, if_false, Nat.reduceAdd, Nat.reduceMul, Nat.reduceSub, Nat.reduceLeDiff, Nat.reduceEqDiff, Nat.add_zero, Nat.add_sub_cancel, Option.toList, List.cons_append, List.nil_append, i192_34, i192_35, hh]
    rfl
  | succ c ih =>
    intro y h hy
    have hh : ¬ 12 ≤ y := by omega
    rw [i192_33]
    simp (disch := first | assumption | omega | decide) only [nI_add, n_mul, n_sub, n_le, n_lt, n_eq, n_ne1, n_0, m_bl_t, m_bl_f, if_true, if_false, Nat.reduceAdd, Nat.reduceMul, Nat.reduceSub, Nat.reduceLeDiff, Nat.reduceEqDiff, Nat.add_zero, Nat.add_sub_cancel, Option.toList, List.cons_append, List.nil_append, i192_34, i192_35, i192_36, i192_37, i192_38, i192_39, i192_40, i192_41, i192_42, i192_43, i192_44, i192_45, i192_46, i192_47, hh, wpc_of (hq (nI x) (nI y))]
    exact ih (y + 1) _ (by omega)
theorem w192_28 (ht : 55 ≤ t) {T : Int32 → Int32 → Int32} (hq : ∀ (p q : Int32) Q, WP V 182 0 (m_loc 182 [.ref 27, .int p, .int q]) [] t I L (m_RR e 28 48) Q = Q (some (.int (T p q))) t I L (m_RR e 28 48)) : ∀ c x h w, x + c = 3 → ∃ w', ∀ Q, WP V 192 28 [.ref 27, .long h, m_u, .int (nI x), w] [] t I L (m_RR e 28 48) Q = WP V 192 50 [.ref 27, .long (dg2 T 12 c x h), m_u, .int (nI 3), w'] [] t I L (m_RR e 28 48) Q := by
  intro c
  induction c with
  | zero =>
    intro x h w hx
    obtain rfl : x = 3 := by omega
    have hh : 3 ≤ 3 := Nat.le_refl _
    refine ⟨w, fun Q => ?_⟩
    rw [i192_28]
    simp (disch := first | assumption | omega | decide) only [nI_add, n_mul, n_sub, n_le, n_lt, n_eq, n_ne1, n_0, m_bl_t, m_bl_f, if_true, if_false, Nat.reduceAdd, Nat.reduceMul, Nat.reduceSub, Nat.reduceLeDiff, Nat.reduceEqDiff, Nat.add_zero, Nat.add_sub_cancel, Option.toList, List.cons_append, List.nil_append, i192_29, i192_30, hh]
    rfl
  | succ c ih =>
    intro x h w hx
    have hh : ¬ 3 ≤ x := by omega
    obtain ⟨w', hw⟩ := ih (x + 1) (dg1 T x 12 0 h) (.int (nI 12)) (by omega)
    refine ⟨w', fun Q => ?_⟩
    refine Eq.trans ?_ (hw Q)
    rw [i192_28]
    simp (disch := first | assumption | omega | decide) only [nI_add, n_mul, n_sub, n_le, n_lt, n_eq, n_ne1, n_0, m_bl_t, m_bl_f, if_true, if_false, Nat.reduceAdd, Nat.reduceMul, Nat.reduceSub, Nat.reduceLeDiff, Nat.reduceEqDiff, Nat.add_zero, Nat.add_sub_cancel, Option.toList, List.cons_append, List.nil_append, i192_29, i192_30, i192_31, i192_32, hh]
    rw [w192_33 ht hq 12 0 h rfl]
    simp (disch := first | assumption | omega | decide) only [nI_add, n_mul, n_sub, n_le, n_lt, n_eq, n_ne1, n_0, m_bl_t, m_bl_f, if_true, if_false, Nat.reduceAdd, Nat.reduceMul, Nat.reduceSub, Nat.reduceLeDiff, Nat.reduceEqDiff, Nat.add_zero, Nat.add_sub_cancel, Option.toList, List.cons_append, List.nil_append, i192_48, i192_49]
theorem w192_52 (ht : 55 ≤ t) {U : Int32 → Int32} (hq : ∀ (p : Int32) Q, WP V 184 0 (m_loc 184 [.ref 27, .int p]) [] t I L (m_RR e 28 48) Q = Q (some (.int (U p))) t I L (m_RR e 28 48)) {w : Value} : ∀ c x h, x + c = 8 → WP V 192 52 [.ref 27, .long h, m_u, .int (nI x), w] [] t I L (m_RR e 28 48) Q = Q (some (.long (dg3 U c x h))) t I L (m_RR e 28 48) := by
  intro c
  induction c with
  | zero =>
    intro x h hx
    obtain rfl : x = 8 := by omega
    have hh : 8 ≤ 8 := Nat.le_refl _
    rw [i192_52]
    simp (disch := first | assumption | omega | decide) only [nI_add, n_mul, n_sub, n_le, n_lt, n_eq, n_ne1, n_0, m_bl_t, m_bl_f, if_true, if_false, Nat.reduceAdd, Nat.reduceMul, Nat.reduceSub, Nat.reduceLeDiff, Nat.reduceEqDiff, Nat.add_zero, Nat.add_sub_cancel, Option.toList, List.cons_append, List.nil_append, i192_53, i192_54, i192_66, i192_67, hh]
    rfl
  | succ c ih =>
    intro x h hx
    have hh : ¬ 8 ≤ x := by omega
    rw [i192_52]
    simp (disch := first | assumption | omega | decide) only [nI_add, n_mul, n_sub, n_le, n_lt, n_eq, n_ne1, n_0, m_bl_t, m_bl_f, if_true, if_false, Nat.reduceAdd, Nat.reduceMul, Nat.reduceSub, Nat.reduceLeDiff, Nat.reduceEqDiff, Nat.add_zero, Nat.add_sub_cancel, Option.toList, List.cons_append, List.nil_append, i192_53, i192_54, i192_55, i192_56, i192_57, i192_58, i192_59, i192_60, i192_61, i192_62, i192_63, i192_64, i192_65, hh, wpc_of (hq (nI x))]
    exact ih (x + 1) _ (by omega)
theorem w192' (ht : 55 ≤ t) {T S : Int32 → Int32 → Int32} {U : Int32 → Int32} (h1 : ∀ (p q : Int32) Q, WP V 183 0 (m_loc 183 [.ref 27, .int p, .int q]) [] t I L (m_RR e 28 48) Q = Q (some (.int (T p q))) t I L (m_RR e 28 48)) (h2 : ∀ (p q : Int32) Q, WP V 182 0 (m_loc 182 [.ref 27, .int p, .int q]) [] t I L (m_RR e 28 48) Q = Q (some (.int (S p q))) t I L (m_RR e 28 48)) (h3 : ∀ (p : Int32) Q, WP V 184 0 (m_loc 184 [.ref 27, .int p]) [] t I L (m_RR e 28 48) Q = Q (some (.int (U p))) t I L (m_RR e 28 48)) (Q : Option Value → Nat → m_I → m_L → m_R → Prop) : WP V 192 0 (m_loc 192 [.ref 27]) [] t I L (m_RR e 28 48) Q = Q (some (.long (dg3 U 8 0 (dg2 S 12 3 0 (dg2 T 14 8 0 (lN 41)))))) t I L (m_RR e 28 48) := by
  rw [show m_loc 192 [.ref 27] = [.ref 27, m_u, m_u, m_u, m_u] from rfl]
  obtain ⟨w1, q1⟩ := w192_4 (V := V) ht h1 8 0 (lN 41) m_u rfl
  obtain ⟨w2, q2⟩ := w192_28 (V := V) ht h2 3 0 (dg2 T 14 8 0 (lN 41)) w1 rfl
  simp (disch := first | assumption | omega | decide) only [nI_add, n_mul, n_sub, n_le, n_lt, n_eq, n_ne1, n_0, m_bl_t, m_bl_f, if_true, if_false, Nat.reduceAdd, Nat.reduceMul, Nat.reduceSub, Nat.reduceLeDiff, Nat.reduceEqDiff, Nat.add_zero, Nat.add_sub_cancel, Option.toList, List.cons_append, List.nil_append, i192_0, i192_1, i192_2, i192_3]
  refine (q1 Q).trans ?_
  simp (disch := first | assumption | omega | decide) only [nI_add, n_mul, n_sub, n_le, n_lt, n_eq, n_ne1, n_0, m_bl_t, m_bl_f, if_true, if_false, Nat.reduceAdd, Nat.reduceMul, Nat.reduceSub, Nat.reduceLeDiff, Nat.reduceEqDiff, Nat.add_zero, Nat.add_sub_cancel, Option.toList, List.cons_append, List.nil_append, i192_26, i192_27]
  refine (q2 Q).trans ?_
  simp (disch := first | assumption | omega | decide) only [nI_add, n_mul, n_sub, n_le, n_lt, n_eq, n_ne1, n_0, m_bl_t, m_bl_f, if_true, if_false, Nat.reduceAdd, Nat.reduceMul, Nat.reduceSub, Nat.reduceLeDiff, Nat.reduceEqDiff, Nat.add_zero, Nat.add_sub_cancel, Option.toList, List.cons_append, List.nil_append, i192_50, i192_51]
  exact w192_52 ht h3 8 0 _ rfl
theorem p_digest (hT : TP N e I L) (hN : N < 800000) (ht : 55 ≤ t) : pair_ok V t e N I L 108 [] 192 [] := by
  have f1 := fun p q => s_told (V := V) (t := t) hT ht p q
  have f2 := fun p q => s_thread (V := V) (t := t) hT ht p q
  have f3 := fun p => s_count (V := V) (t := t) hT hN ht p
  exact pair_v hT (fun Q => w108' ht (T := fun p q => (f1 p q).choose) (S := fun p q => (f2 p q).choose) (U := fun p => (f3 p).choose) (fun p q Q => (f1 p q).choose_spec.1 Q) (fun p q Q => (f2 p q).choose_spec.1 Q) (fun p Q => (f3 p).choose_spec.1 Q) Q) (fun Q => w192' ht (T := fun p q => (f1 p q).choose) (S := fun p q => (f2 p q).choose) (U := fun p => (f3 p).choose) (fun p q Q => (f1 p q).choose_spec.2 Q) (fun p q Q => (f2 p q).choose_spec.2 Q) (fun p Q => (f3 p).choose_spec.2 Q) Q)
end RZY
