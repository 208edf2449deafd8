/-! specs: the model writes and counts -/
def d_shx (g : Nat → Int32) (lo c : Nat) : Nat → Int32 := fun j => if lo + 5 + c < j ∧ j ≤ lo + 14 then g (j - 3) else g j
theorem d_shx9 {g : Nat → Int32} {lo : Nat} : d_shx g lo 9 = g := by
  funext j; exact if_neg (by omega)
theorem d_shx1 {g : Nat → Int32} {lo c : Nat} (hc : c < 9) : m_sc (d_shx g lo (c + 1)) (lo + (5 + c + 1)) (d_shx g lo (c + 1) (lo + (5 + c + 1) - 3)) = d_shx g lo c := by
  have e1 : d_shx g lo (c + 1) (lo + (5 + c + 1) - 3) = g (lo + (5 + c + 1) - 3) := if_neg (by omega)
  rw [e1]
  funext j
  unfold d_shx
  by_cases hj : j = lo + (5 + c + 1)
  · subst hj; rw [m_sc_self]; exact (if_pos (by omega)).symm
  · rw [m_sc_ne hj]
    by_cases h2 : lo + 5 + (c + 1) < j ∧ j ≤ lo + 14
    · exact (if_pos h2).trans (if_pos (by omega)).symm
    · exact (if_neg h2).trans (if_neg (by omega)).symm
def d_bc1 (g : Nat → Int32) (x : Nat) (v z : Int32) : Nat → Int32 := m_sc (m_sc (m_sc g (18 * x) v) (18 * x + 1) z) (18 * x + 2) (g 144)
def d_bc2 (g : Nat → Int32) (x : Nat) (v z : Int32) : Nat → Int32 := m_sc (m_sc (m_sc (d_shx (d_bc1 g x v z) (18 * x) 0) (18 * x + 3) v) (18 * x + 3 + 1) z) (18 * x + 3 + 2) (g 144)
def d_bec (g : Nat → Int32) (x : Nat) (v z : Int32) : Nat → Int32 := m_sc (d_bc2 g x v z) (18 * x + 15) (if d_bc2 g x v z (18 * x + 15) < nI 4 then d_bc2 g x v z (18 * x + 15) + nI 1 else nI 4)
def d_any (g : Nat → Int32) (u : Nat) : Bool := s_any (fun x => decide (¬ g (150 + 154 * u + 135 + 2 * x) = -1)) 0 8
def d_ct1 (u x : Nat) (g : Nat → Int32) : Nat → Int32 := if g (150 + 154 * u + 135 + 2 * x) = -1 then g else d_bec g x (g (150 + 154 * u + 135 + 2 * x)) (g (150 + 154 * u + 135 + 2 * x + 1))
def d_ct (g : Nat → Int32) (u : Nat) : Nat → Int32 := if d_any g u then s_loop (d_ct1 u) 0 8 (m_sc g 144 (g 144 + nI 1)) else g
def d_cno (g h : Nat → Int32) (o : m_I) (u n : Nat) : (Nat → Int32) × m_I := if h 5 = nI 0 then d_note (d_ct g u) h o (d_ct g u) u (d_ct g u (150 + 154 * u + 102)) (if d_any g u then d_ct g u 144 else -1) n (150 + 154 * u + 119) (150 + 154 * u + 135) else (h, o)
def d_sg1 (i : Nat) (z : Nat → Int32) : Nat → Int32 := m_sc (m_sc z (2 * i) (-1)) (2 * i + 1) (nI 0)
def d_sng (z0 : Nat → Int32) (x : Nat) (v z : Int32) : Nat → Int32 := m_sc (m_sc (s_loop d_sg1 0 16 z0) (16 + 2 * x) v) (16 + 2 * x + 1) z
def d_aln (g h : Nat → Int32) (o : m_I) (u x : Nat) (v z : Int32) (n : Nat) : (Nat → Int32) × m_I :=
  if h 5 = nI 0 then d_note g (m_sc h 2 (h 2 + nI 1)) (m_sc o 44 (d_sng (o 44) x v z)) (d_sng (o 44) x v z) u (nI 0) (g 144) n 0 16 else (h, o)
section T32
variable {V : m_V} {t m n : Nat} {ls st : List Value} {I J : m_I} {g h : Nat → Int32} {o : m_I} {L : m_L} {R : m_R} {e : Option Nat} {a b : Nat} {Q : Option Value → Nat → m_I → m_L → m_R → Prop} {u x k : Nat}
theorem w137_27 (ht : 55 ≤ t) (ha : m_aa a) (hx : x < 8) {v z : Int32} : ∀ (c : Nat), c ≤ 9 → WP V 137 27 [.ref 27, .int (nI x), .int v, .int z, .int (nI (18 * x)), .int (nI (5 + c))] [] t (mM J a (d_shx g (18 * x) c) h o) L (m_RR e a b) Q = WP V 137 46 [.ref 27, .int (nI x), .int v, .int z, .int (nI (18 * x)), .int (nI 5)] [] t (mM J a (d_shx g (18 * x) 0) h o) L (m_RR e a b) Q := by
  have hA := mA_of ha
  have hat := mA_lt ha ht
  intro c
  induction c with
  | zero =>
    intro hc
    rw [i137_27]
    simp (disch := first | assumption | omega | decide) only [nI_add, n_mul, n_sub, n_le, n_lt, n_eq, n_ne1, n_0, m_bl_t, m_bl_f, if_true, if_false, Nat.reduceAdd, Nat.reduceMul, Nat.reduceSub, Nat.reduceLeDiff, Nat.reduceEqDiff, Nat.add_zero, Nat.add_sub_cancel, Option.toList, List.cons_append, List.nil_append, i137_28, i137_29]
  | succ c ih =>
    intro hc
    have hx8 : ¬ 5 + c + 1 < 6 := by omega
    have hc9 : c < 9 := by omega
    rw [show 5 + (c + 1) = 5 + c + 1 from rfl, i137_27]
    simp (disch := first | assumption | omega | decide) only [nI_add, n_mul, n_sub, n_le, n_lt, n_eq, n_ne1, n_0, m_bl_t, m_bl_f, if_true, if_false, Nat.reduceAdd, Nat.reduceMul, Nat.reduceSub, Nat.reduceLeDiff, Nat.reduceEqDiff, Nat.add_zero, Nat.add_sub_cancel, Option.toList, List.cons_append, List.nil_append, i137_28, i137_29, i137_30, i137_31, i137_32, i137_33, i137_34, i137_35, i137_36, i137_37, i137_38, i137_39, i137_40, i137_41, i137_42, i137_43, i137_44, i137_45, rv_27_0, hx8, mM_a, mM_sa, d_shx1, n_m1]
    exact ih (by omega)
theorem w137 (ht : 55 ≤ t) (ha : m_aa a) (hx : x < 8) {v z : Int32} : WP V 137 0 (m_loc 137 [.ref 27, .int (nI x), .int v, .int z]) [] t (mM J a g h o) L (m_RR e a b) Q = Q none t (mM J a (d_bec g x v z) h o) L (m_RR e a b) := by
  have hA := mA_of ha
  have hat := mA_lt ha ht
  rw [show m_loc 137 [.ref 27, .int (nI x), .int v, .int z] = [.ref 27, .int (nI x), .int v, .int z, m_u, m_u] from rfl]
  have e1 : m_sc (m_sc g (18 * x) v) (18 * x + 1) z 144 = g 144 := by rw [m_sc_ne (by omega), m_sc_ne (by omega)]
  simp (disch := first | assumption | omega | decide) only [nI_add, n_mul, n_sub, n_le, n_lt, n_eq, n_ne1, n_0, m_bl_t, m_bl_f, if_true, if_false, Nat.reduceAdd, Nat.reduceMul, Nat.reduceSub, Nat.reduceLeDiff, Nat.reduceEqDiff, Nat.add_zero, Nat.add_sub_cancel, Option.toList, List.cons_append, List.nil_append, i137_0, i137_1, i137_2, i137_3, i137_4, i137_5, i137_6, i137_7, i137_8, i137_9, i137_10, i137_11, i137_12, i137_13, i137_14, i137_15, i137_16, i137_17, i137_18, i137_19, i137_20, i137_21, i137_22, i137_23, i137_24, i137_25, i137_26, rv_27_0, c112, mM_a, mM_sa, e1]
  have h27 := w137_27 (V := V) (J := J) (g := d_bc1 g x v z) (h := h) (o := o) (L := L) (e := e) (b := b) (Q := Q) (v := v) (z := z) ht ha hx 9 (Nat.le_refl 9)
  rw [d_shx9] at h27
  have e2 : m_sc (m_sc (d_shx (d_bc1 g x v z) (18 * x) 0) (18 * x + 3) v) (18 * x + 3 + 1) z 144 = g 144 := by
    rw [m_sc_ne (by omega), m_sc_ne (by omega)]
    refine (if_neg (by omega)).trans ?_
    unfold d_bc1
    rw [m_sc_ne (by omega), e1]
  unfold d_bc1 at h27
  rw [show (14 : Nat) = 5 + 9 from rfl, h27]
  rw [show m_sc (m_sc (m_sc g (18 * x) v) (18 * x + 1) z) (18 * x + 2) (g 144) = d_bc1 g x v z from rfl]
  unfold d_bec
  simp (disch := first | assumption | omega | decide) only [nI_add, n_mul, n_sub, n_le, n_lt, n_eq, n_ne1, n_0, m_bl_t, m_bl_f, if_true, if_false, Nat.reduceAdd, Nat.reduceMul, Nat.reduceSub, Nat.reduceLeDiff, Nat.reduceEqDiff, Nat.add_zero, Nat.add_sub_cancel, Option.toList, List.cons_append, List.nil_append, i137_46, i137_47, i137_48, i137_49, i137_50, i137_51, i137_52, i137_53, i137_54, i137_55, i137_56, i137_57, i137_58, i137_59, i137_60, i137_61, i137_62, i137_63, i137_64, i137_65, i137_66, i137_67, i137_68, i137_69, i137_70, i137_71, i137_72, i137_73, i137_74, i137_75, i137_76, i137_77, i137_78, i137_79, i137_80, i137_81, i137_82, i137_83, i137_84, i137_85, i137_86, rv_27_0, mM_a, mM_sa, e2]
  rw [show m_sc (m_sc (m_sc (d_shx (d_bc1 g x v z) (18 * x) 0) (18 * x + 3) v) (18 * x + 3 + 1) z) (18 * x + 3 + 2) (g 144) = d_bc2 g x v z from rfl]
  by_cases h1 : d_bc2 g x v z (18 * x + 15) < nI 4
  · have h1' : ¬ nI 4 ≤ d_bc2 g x v z (18 * x + 15) := Int32.not_le.mpr h1
    simp (disch := first | assumption | omega | decide) only [nI_add, n_mul, n_sub, n_le, n_lt, n_eq, n_ne1, n_0, m_bl_t, m_bl_f, if_true, if_false, Nat.reduceAdd, Nat.reduceMul, Nat.reduceSub, Nat.reduceLeDiff, Nat.reduceEqDiff, Nat.add_zero, Nat.add_sub_cancel, Option.toList, List.cons_append, List.nil_append, h1, h1', i137_87, i137_88, i137_89, i137_90, i137_91, i137_92, i137_93, i137_94, i137_95, i137_96, i137_97, i137_98, rv_27_0, mM_a, mM_sa]
  · have h1' : nI 4 ≤ d_bc2 g x v z (18 * x + 15) := Int32.not_lt.mp h1
    simp (disch := first | assumption | omega | decide) only [nI_add, n_mul, n_sub, n_le, n_lt, n_eq, n_ne1, n_0, m_bl_t, m_bl_f, if_true, if_false, Nat.reduceAdd, Nat.reduceMul, Nat.reduceSub, Nat.reduceLeDiff, Nat.reduceEqDiff, Nat.add_zero, Nat.add_sub_cancel, Option.toList, List.cons_append, List.nil_append, h1, h1', i137_96, i137_97, i137_98, mM_a, mM_sa]
theorem c137 (ht : 55 ≤ t) (ha : m_aa a) (hx : x < 8) {v z : Int32} : WPC V 137 [.ref 27, .int (nI x), .int v, .int z] m n ls st t (mM J a g h o) L (m_RR e a b) Q = WP V m n ls st t (mM J a (d_bec g x v z) h o) L (m_RR e a b) Q := wpc_of (fun Q => w137 ht ha hx)
theorem w143_7 (ht : 55 ≤ t) (hu : u < 3) (ha : m_aa a) : ∀ (c x : Nat) (y : Bool), x + c = 8 → WP V 143 7 [.ref 27, .int (nI u), .int (nI (150 + 154 * u)), .int (m_bl y), .int (nI x)] [] t (mM J a g h o) L (m_RR e a b) Q = WP V 143 30 [.ref 27, .int (nI u), .int (nI (150 + 154 * u)), .int (m_bl (y || s_any (fun x => decide (¬ g (150 + 154 * u + 135 + 2 * x) = -1)) x c)), .int (nI 8)] [] t (mM J a g h o) L (m_RR e a b) Q := by
  have hA := mA_of ha
  have hat := mA_lt ha ht
  intro c
  induction c with
  | zero =>
    intro x y hx
    obtain rfl : x = 8 := by omega
    rw [i143_7]
    simp (disch := first | assumption | omega | decide) only [nI_add, n_mul, n_sub, n_le, n_lt, n_eq, n_ne1, n_0, m_bl_t, m_bl_f, if_true, if_false, Nat.reduceAdd, Nat.reduceMul, Nat.reduceSub, Nat.reduceLeDiff, Nat.reduceEqDiff, Nat.add_zero, Nat.add_sub_cancel, Option.toList, List.cons_append, List.nil_append, i143_8, i143_9, Nat.le_refl, s_any, Bool.or_false]
  | succ c ih =>
    intro x y hx
    have hx8 : ¬ 8 ≤ x := by omega
    have hx7 : x < 8 := by omega
    rw [i143_7, s_any]
    have i1 := ih (x + 1) true (by omega)
    have i0 := ih (x + 1) false (by omega)
    rw [m_bl_t] at i1
    rw [m_bl_f] at i0
    cases y
    · simp (disch := first | assumption | omega | decide) only [nI_add, n_mul, n_sub, n_le, n_lt, n_eq, n_ne1, n_0, m_bl_t, m_bl_f, if_true, if_false, Nat.reduceAdd, Nat.reduceMul, Nat.reduceSub, Nat.reduceLeDiff, Nat.reduceEqDiff, Nat.add_zero, Nat.add_sub_cancel, Option.toList, List.cons_append, List.nil_append, i143_8, i143_9, i143_10, i143_11, i143_12, i143_13, i143_14, i143_15, i143_16, i143_17, i143_18, i143_19, i143_20, i143_21, i143_22, i143_23, rv_27_0, hx8, mM_a]
      by_cases h1 : g (150 + 154 * u + 135 + 2 * x) = -1
      · simp (disch := first | assumption | omega | decide) only [nI_add, n_mul, n_sub, n_le, n_lt, n_eq, n_ne1, n_0, m_bl_t, m_bl_f, if_true, if_false, Nat.reduceAdd, Nat.reduceMul, Nat.reduceSub, Nat.reduceLeDiff, Nat.reduceEqDiff, Nat.add_zero, Nat.add_sub_cancel, Option.toList, List.cons_append, List.nil_append, h1, i143_26, i143_27, i143_28, i143_29, i0, not_true, decide_false, Bool.false_or]
      · simp (disch := first | assumption | omega | decide) only [nI_add, n_mul, n_sub, n_le, n_lt, n_eq, n_ne1, n_0, m_bl_t, m_bl_f, if_true, if_false, Nat.reduceAdd, Nat.reduceMul, Nat.reduceSub, Nat.reduceLeDiff, Nat.reduceEqDiff, Nat.add_zero, Nat.add_sub_cancel, Option.toList, List.cons_append, List.nil_append, h1, i143_24, i143_25, i143_27, i143_28, i143_29, i1, not_false_iff, decide_true, Bool.true_or, Bool.false_or]
    · simp (disch := first | assumption | omega | decide) only [nI_add, n_mul, n_sub, n_le, n_lt, n_eq, n_ne1, n_0, m_bl_t, m_bl_f, if_true, if_false, Nat.reduceAdd, Nat.reduceMul, Nat.reduceSub, Nat.reduceLeDiff, Nat.reduceEqDiff, Nat.add_zero, Nat.add_sub_cancel, Option.toList, List.cons_append, List.nil_append, i143_8, i143_9, i143_10, i143_11, i143_24, i143_25, i143_27, i143_28, i143_29, hx8, i1, Bool.true_or]
theorem w143_42 (ht : 55 ≤ t) (hu : u < 3) (ha : m_aa a) {y : Int32} : ∀ (c x : Nat) (g : Nat → Int32), x + c = 8 → WP V 143 42 [.ref 27, .int (nI u), .int (nI (150 + 154 * u)), .int y, .int (nI x)] [] t (mM J a g h o) L (m_RR e a b) Q = WP V 143 84 [.ref 27, .int (nI u), .int (nI (150 + 154 * u)), .int y, .int (nI 8)] [] t (mM J a (s_loop (d_ct1 u) x c g) h o) L (m_RR e a b) Q := by
  have hA := mA_of ha
  have hat := mA_lt ha ht
  intro c
  induction c with
  | zero =>
    intro x g hx
    obtain rfl : x = 8 := by omega
    rw [i143_42]
    simp (disch := first | assumption | omega | decide) only [nI_add, n_mul, n_sub, n_le, n_lt, n_eq, n_ne1, n_0, m_bl_t, m_bl_f, if_true, if_false, Nat.reduceAdd, Nat.reduceMul, Nat.reduceSub, Nat.reduceLeDiff, Nat.reduceEqDiff, Nat.add_zero, Nat.add_sub_cancel, Option.toList, List.cons_append, List.nil_append, i143_43, i143_44, Nat.le_refl, s_loop]
  | succ c ih =>
    intro x g hx
    have hx8 : ¬ 8 ≤ x := by omega
    have hx7 : x < 8 := by omega
    rw [i143_42, s_loop]
    simp (disch := first | assumption | omega | decide) only [nI_add, n_mul, n_sub, n_le, n_lt, n_eq, n_ne1, n_0, m_bl_t, m_bl_f, if_true, if_false, Nat.reduceAdd, Nat.reduceMul, Nat.reduceSub, Nat.reduceLeDiff, Nat.reduceEqDiff, Nat.add_zero, Nat.add_sub_cancel, Option.toList, List.cons_append, List.nil_append, i143_43, i143_44, i143_45, i143_46, i143_47, i143_48, i143_49, i143_50, i143_51, i143_52, i143_53, i143_54, i143_55, i143_56, rv_27_0, hx8, mM_a]
    by_cases h1 : g (150 + 154 * u + 135 + 2 * x) = -1
    · have e1 : d_ct1 u x g = g := if_pos h1
      simp (disch := first | assumption | omega | decide) only [nI_add, n_mul, n_sub, n_le, n_lt, n_eq, n_ne1, n_0, m_bl_t, m_bl_f, if_true, if_false, Nat.reduceAdd, Nat.reduceMul, Nat.reduceSub, Nat.reduceLeDiff, Nat.reduceEqDiff, Nat.add_zero, Nat.add_sub_cancel, Option.toList, List.cons_append, List.nil_append, h1, i143_82, i143_83]
      rw [e1]
      exact ih (x + 1) g (by omega)
    · have e1 : d_ct1 u x g = d_bec g x (g (150 + 154 * u + 135 + 2 * x)) (g (150 + 154 * u + 135 + 2 * x + 1)) := if_neg h1
      simp (disch := first | assumption | omega | decide) only [nI_add, n_mul, n_sub, n_le, n_lt, n_eq, n_ne1, n_0, m_bl_t, m_bl_f, if_true, if_false, Nat.reduceAdd, Nat.reduceMul, Nat.reduceSub, Nat.reduceLeDiff, Nat.reduceEqDiff, Nat.add_zero, Nat.add_sub_cancel, Option.toList, List.cons_append, List.nil_append, h1, i143_57, i143_58, i143_59, i143_60, i143_61, i143_62, i143_63, i143_64, i143_65, i143_66, i143_67, i143_68, i143_69, i143_70, i143_71, i143_72, i143_73, i143_74, i143_75, i143_76, i143_77, i143_78, i143_79, i143_80, i143_81, i143_82, i143_83, rv_27_0, mM_a, c137]
      rw [e1]
      exact ih (x + 1) _ (by omega)
end T32
