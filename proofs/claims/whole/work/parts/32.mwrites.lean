/-! specs: the model writes and counts -/
def d_shx (g : Nat → Int32) (lo c : Nat) : Nat → Int32 := fun j => if lo + 5 + c < j ∧ j ≤ lo + 14 then g (j - 3) else g j
theorem d_shx9 {g : Nat → Int32} {lo : Nat} : d_shx g lo 9 = g := by
  funext j; exact if_neg (by omega)
theorem d_shx1 {g : Nat → Int32} {lo c : Nat} (hc : c < 9) : m_sc (d_shx g lo (c + 1)) (lo + (5 + c + 1)) (d_shx g lo (c + 1) (lo + (5 + c + 1) - 3)) = d_shx g lo c := by
  have e1 : d_shx g lo (c + 1) (lo + (5 + c + 1) - 3) = g (lo + (5 + c + 1) - 3) := if_neg (by omega)
  rw [e1]
  funext j
  unfold d_shx
  by_cases hj : j = lo + (5 + c + 1)
  · subst hj; rw [m_sc_self]; exact (if_pos (by omega)).symm
  · rw [m_sc_ne hj]
    by_cases h2 : lo + 5 + (c + 1) < j ∧ j ≤ lo + 14
    · exact (if_pos h2).trans (if_pos (by omega)).symm
    · exact (if_neg h2).trans (if_neg (by omega)).symm
def d_bc1 (g : Nat → Int32) (x : Nat) (v z : Int32) : Nat → Int32 := m_sc (m_sc (m_sc g (18 * x) v) (18 * x + 1) z) (18 * x + 2) (g 144)
def d_bc2 (g : Nat → Int32) (x : Nat) (v z : Int32) : Nat → Int32 := m_sc (m_sc (m_sc (d_shx (d_bc1 g x v z) (18 * x) 0) (18 * x + 3) v) (18 * x + 3 + 1) z) (18 * x + 3 + 2) (g 144)
def d_bec (g : Nat → Int32) (x : Nat) (v z : Int32) : Nat → Int32 := m_sc (d_bc2 g x v z) (18 * x + 15) (if d_bc2 g x v z (18 * x + 15) < nI 4 then d_bc2 g x v z (18 * x + 15) + nI 1 else nI 4)
def d_any (g : Nat → Int32) (u : Nat) : Bool := s_any (fun x => decide (¬ g (150 + 154 * u + 135 + 2 * x) = -1)) 0 8
def d_ct1 (u x : Nat) (g : Nat → Int32) : Nat → Int32 := if g (150 + 154 * u + 135 + 2 * x) = -1 then g else d_bec g x (g (150 + 154 * u + 135 + 2 * x)) (g (150 + 154 * u + 135 + 2 * x + 1))
def d_ct (g : Nat → Int32) (u : Nat) : Nat → Int32 := if d_any g u then s_loop (d_ct1 u) 0 8 (m_sc g 144 (g 144 + nI 1)) else g
def d_cno (g h : Nat → Int32) (o : m_I) (u n : Nat) : (Nat → Int32) × m_I := if h 5 = nI 0 then d_note (d_ct g u) h o (d_ct g u) u (d_ct g u (150 + 154 * u + 102)) (if d_any g u then d_ct g u 144 else -1) n (150 + 154 * u + 119) (150 + 154 * u + 135) else (h, o)
def d_sg1 (i : Nat) (z : Nat → Int32) : Nat → Int32 := m_sc (m_sc z (2 * i) (-1)) (2 * i + 1) (nI 0)
def d_sng (z0 : Nat → Int32) (x : Nat) (v z : Int32) : Nat → Int32 := m_sc (m_sc (s_loop d_sg1 0 16 z0) (16 + 2 * x) v) (16 + 2 * x + 1) z
def d_aln (g h : Nat → Int32) (o : m_I) (u x : Nat) (v z : Int32) (n : Nat) : (Nat → Int32) × m_I :=
  if h 5 = nI 0 then d_note g (m_sc h 2 (h 2 + nI 1)) (m_sc o 44 (d_sng (o 44) x v z)) (d_sng (o 44) x v z) u (nI 0) (g 144) n 0 16 else (h, o)
def d_lg (g : Nat → Int32) (u x : Nat) (v z : Int32) : Nat → Int32 := m_sc (m_sc g (150 + 154 * u + 135 + 2 * x) v) (150 + 154 * u + 135 + 2 * x + 1) z
def d_wr2 (g : Nat → Int32) (way : Int32) (u x : Nat) : Nat → Int32 := if way = nI 1 then m_sc g (18 * x + 16) (nI u) else g
def d_wr3 (g : Nat → Int32) (u x : Nat) : Nat → Int32 := if g (150 + 154 * u + 102) = nI 3 then m_sc g (18 * x + 17) (nI u) else g
def d_wr (g h : Nat → Int32) (o : m_I) (u x : Nat) (v z : Int32) (n w d k : Nat) : Int32 × (Nat → Int32) × (Nat → Int32) × m_I :=
  if g (150 + 154 * u + 101) = nI 0 then
    (if decide (¬ g (18 * x + 17) = -1) || (d_lkd g u || decide (¬ g (18 * x + 16) = -1)) then (nI 1, g, h, o)
     else (nI 0, d_bec (m_sc g 144 (g 144 + nI 1)) x v z, d_aln (d_bec (m_sc g 144 (g 144 + nI 1)) x v z) h o u x v z n))
  else if h 1 = nI 3 then (nI 0, d_lg g u x v z, h, o)
  else if d_held g u x then (nI 1, g, h, o)
  else if (d_wfo g h u x w d k).1 then (nI 1, g, h, o)
  else (nI 0, d_lg (d_wr3 (d_wr2 (d_wfo g h u x w d k).2.1 (h 1) u x) u x) u x v z, (d_wfo g h u x w d k).2.2, o)
section T32
variable {V : m_V} {t m n : Nat} {ls st : List Value} {I J : m_I} {g h : Nat → Int32} {o : m_I} {L : m_L} {R : m_R} {e : Option Nat} {a b : Nat} {Q : Option Value → Nat → m_I → m_L → m_R → Prop} {u x k : Nat}
theorem w137_27 (ht : 55 ≤ t) (ha : m_aa a) (hx : x < 8) {v z : Int32} : ∀ (c : Nat), c ≤ 9 → WP V 137 27 [.ref 27, .int (nI x), .int v, .int z, .int (nI (18 * x)), .int (nI (5 + c))] [] t (mM J a (d_shx g (18 * x) c) h o) L (m_RR e a b) Q = WP V 137 46 [.ref 27, .int (nI x), .int v, .int z, .int (nI (18 * x)), .int (nI 5)] [] t (mM J a (d_shx g (18 * x) 0) h o) L (m_RR e a b) Q := by
  have hA := mA_of ha
  have hat := mA_lt ha ht
  intro c
  induction c with
  | zero =>
    intro hc
    have h56 : (5 : Nat) < 6 := by omega
    rw [i137_27]
    simp (disch := first | assumption | omega | decide) only [nI_add, n_mul, n_sub, n_le, n_lt, n_eq, n_ne1, n_0, m_bl_t, m_bl_f, if_true, if_false, Nat.reduceAdd, Nat.reduceMul, Nat.reduceSub, Nat.reduceLeDiff, Nat.reduceEqDiff, Nat.add_zero, Nat.add_sub_cancel, Option.toList, List.cons_append, List.nil_append, i137_28, i137_29, h56]
  | succ c ih =>
    intro hc
    have hx8 : ¬ 5 + c + 1 < 6 := by omega
    have hc9 : c < 9 := by omega
    rw [show 5 + (c + 1) = 5 + c + 1 from rfl, i137_27]
    simp (disch := first | assumption | omega | decide) only [nI_add, n_mul, n_sub, n_le, n_lt, n_eq, n_ne1, n_0, m_bl_t, m_bl_f, if_true, if_false, Nat.reduceAdd, Nat.reduceMul, Nat.reduceSub, Nat.reduceLeDiff, Nat.reduceEqDiff, Nat.add_zero, Nat.add_sub_cancel, Option.toList, List.cons_append, List.nil_append, i137_28, i137_29, i137_30, i137_31, i137_32, i137_33, i137_34, i137_35, i137_36, i137_37, i137_38, i137_39, i137_40, i137_41, i137_42, i137_43, i137_44, i137_45, rv_27_0, hx8, mM_a, mM_sa, d_shx1, n_m1]
    exact ih (by omega)
theorem w137 (ht : 55 ≤ t) (ha : m_aa a) (hx : x < 8) {v z : Int32} : WP V 137 0 (m_loc 137 [.ref 27, .int (nI x), .int v, .int z]) [] t (mM J a g h o) L (m_RR e a b) Q = Q none t (mM J a (d_bec g x v z) h o) L (m_RR e a b) := by
  have hA := mA_of ha
  have hat := mA_lt ha ht
  rw [show m_loc 137 [.ref 27, .int (nI x), .int v, .int z] = [.ref 27, .int (nI x), .int v, .int z, m_u, m_u] from rfl]
  have e1 : m_sc (m_sc g (18 * x) v) (18 * x + 1) z 144 = g 144 := by rw [m_sc_ne (by omega), m_sc_ne (by omega)]
  simp (disch := first | assumption | omega | decide) only [nI_add, n_mul, n_sub, n_le, n_lt, n_eq, n_ne1, n_0, m_bl_t, m_bl_f, if_true, if_false, Nat.reduceAdd, Nat.reduceMul, Nat.reduceSub, Nat.reduceLeDiff, Nat.reduceEqDiff, Nat.add_zero, Nat.add_sub_cancel, Option.toList, List.cons_append, List.nil_append, i137_0, i137_1, i137_2, i137_3, i137_4, i137_5, i137_6, i137_7, i137_8, i137_9, i137_10, i137_11, i137_12, i137_13, i137_14, i137_15, i137_16, i137_17, i137_18, i137_19, i137_20, i137_21, i137_22, i137_23, i137_24, i137_25, i137_26, rv_27_0, c112, mM_a, mM_sa, e1]
  have h27 := w137_27 (V := V) (J := J) (g := d_bc1 g x v z) (h := h) (o := o) (L := L) (e := e) (b := b) (Q := Q) (v := v) (z := z) ht ha hx 9 (Nat.le_refl 9)
  rw [d_shx9] at h27
  have e2 : m_sc (m_sc (d_shx (d_bc1 g x v z) (18 * x) 0) (18 * x + 3) v) (18 * x + 3 + 1) z 144 = g 144 := by
    rw [m_sc_ne (by omega), m_sc_ne (by omega)]
    refine (if_neg (by omega)).trans ?_
    unfold d_bc1
    rw [m_sc_ne (by omega), e1]
  unfold d_bc1 at h27
  rw [show (14 : Nat) = 5 + 9 from rfl, h27]
  rw [show m_sc (m_sc (m_sc g (18 * x) v) (18 * x + 1) z) (18 * x + 2) (g 144) = d_bc1 g x v z from rfl]
  unfold d_bec
  simp (disch := first | assumption | omega | decide) only [nI_add, n_mul, n_sub, n_le, n_lt, n_eq, n_ne1, n_0, m_bl_t, m_bl_f, if_true, if_false, Nat.reduceAdd, Nat.reduceMul, Nat.reduceSub, Nat.reduceLeDiff, Nat.reduceEqDiff, Nat.add_zero, Nat.add_sub_cancel, Option.toList, List.cons_append, List.nil_append, i137_46, i137_47, i137_48, i137_49, i137_50, i137_51, i137_52, i137_53, i137_54, i137_55, i137_56, i137_57, i137_58, i137_59, i137_60, i137_61, i137_62, i137_63, i137_64, i137_65, i137_66, i137_67, i137_68, i137_69, i137_70, i137_71, i137_72, i137_73, i137_74, i137_75, i137_76, i137_77, i137_78, i137_79, i137_80, i137_81, i137_82, i137_83, i137_84, i137_85, i137_86, rv_27_0, mM_a, mM_sa, e2]
  rw [show m_sc (m_sc (m_sc (d_shx (d_bc1 g x v z) (18 * x) 0) (18 * x + 3) v) (18 * x + 3 + 1) z) (18 * x + 3 + 2) (g 144) = d_bc2 g x v z from rfl]
  by_cases h1 : d_bc2 g x v z (18 * x + 15) < nI 4
  · have h1' : ¬ nI 4 ≤ d_bc2 g x v z (18 * x + 15) := Int32.not_le.mpr h1
    simp (disch := first | assumption | omega | decide) only [nI_add, n_mul, n_sub, n_le, n_lt, n_eq, n_ne1, n_0, m_bl_t, m_bl_f, if_true, if_false, Nat.reduceAdd, Nat.reduceMul, Nat.reduceSub, Nat.reduceLeDiff, Nat.reduceEqDiff, Nat.add_zero, Nat.add_sub_cancel, Option.toList, List.cons_append, List.nil_append, h1, h1', i137_87, i137_88, i137_89, i137_90, i137_91, i137_92, i137_93, i137_94, i137_95, i137_96, i137_97, i137_98, rv_27_0, mM_a, mM_sa]
  · have h1' : nI 4 ≤ d_bc2 g x v z (18 * x + 15) := Int32.not_lt.mp h1
    simp (disch := first | assumption | omega | decide) only [nI_add, n_mul, n_sub, n_le, n_lt, n_eq, n_ne1, n_0, m_bl_t, m_bl_f, if_true, if_false, Nat.reduceAdd, Nat.reduceMul, Nat.reduceSub, Nat.reduceLeDiff, Nat.reduceEqDiff, Nat.add_zero, Nat.add_sub_cancel, Option.toList, List.cons_append, List.nil_append, h1, h1', i137_96, i137_97, i137_98, mM_a, mM_sa]
theorem c137 (ht : 55 ≤ t) (ha : m_aa a) (hx : x < 8) {v z : Int32} : WPC V 137 [.ref 27, .int (nI x), .int v, .int z] m n ls st t (mM J a g h o) L (m_RR e a b) Q = WP V m n ls st t (mM J a (d_bec g x v z) h o) L (m_RR e a b) Q := wpc_of (fun Q => w137 ht ha hx)
theorem w143_7 (ht : 55 ≤ t) (hu : u < 3) (ha : m_aa a) : ∀ (c x : Nat) (y : Bool), x + c = 8 → WP V 143 7 [.ref 27, .int (nI u), .int (nI (150 + 154 * u)), .int (m_bl y), .int (nI x)] [] t (mM J a g h o) L (m_RR e a b) Q = WP V 143 30 [.ref 27, .int (nI u), .int (nI (150 + 154 * u)), .int (m_bl (y || s_any (fun x => decide (¬ g (150 + 154 * u + 135 + 2 * x) = -1)) x c)), .int (nI 8)] [] t (mM J a g h o) L (m_RR e a b) Q := by
  have hA := mA_of ha
  have hat := mA_lt ha ht
  intro c
  induction c with
  | zero =>
    intro x y hx
    obtain rfl : x = 8 := by omega
    rw [i143_7]
    simp (disch := first | assumption | omega | decide) only [nI_add, n_mul, n_sub, n_le, n_lt, n_eq, n_ne1, n_0, m_bl_t, m_bl_f, if_true, if_false, Nat.reduceAdd, Nat.reduceMul, Nat.reduceSub, Nat.reduceLeDiff, Nat.reduceEqDiff, Nat.add_zero, Nat.add_sub_cancel, Option.toList, List.cons_append, List.nil_append, i143_8, i143_9, Nat.le_refl, s_any, Bool.or_false]
  | succ c ih =>
    intro x y hx
    have hx8 : ¬ 8 ≤ x := by omega
    have hx7 : x < 8 := by omega
    rw [i143_7, s_any]
    have i1 := ih (x + 1) true (by omega)
    have i0 := ih (x + 1) false (by omega)
    rw [m_bl_t] at i1
    rw [m_bl_f] at i0
    cases y
    · simp (disch := first | assumption | omega | decide) only [nI_add, n_mul, n_sub, n_le, n_lt, n_eq, n_ne1, n_0, m_bl_t, m_bl_f, if_true, if_false, Nat.reduceAdd, Nat.reduceMul, Nat.reduceSub, Nat.reduceLeDiff, Nat.reduceEqDiff, Nat.add_zero, Nat.add_sub_cancel, Option.toList, List.cons_append, List.nil_append, i143_8, i143_9, i143_10, i143_11, i143_12, i143_13, i143_14, i143_15, i143_16, i143_17, i143_18, i143_19, i143_20, i143_21, i143_22, i143_23, rv_27_0, hx8, mM_a]
      by_cases h1 : g (150 + 154 * u + 135 + 2 * x) = -1
      · simp (disch := first | assumption | omega | decide) only [nI_add, n_mul, n_sub, n_le, n_lt, n_eq, n_ne1, n_0, m_bl_t, m_bl_f, if_true, if_false, Nat.reduceAdd, Nat.reduceMul, Nat.reduceSub, Nat.reduceLeDiff, Nat.reduceEqDiff, Nat.add_zero, Nat.add_sub_cancel, Option.toList, List.cons_append, List.nil_append, h1, i143_26, i143_27, i143_28, i143_29, i0, not_true, decide_false, Bool.false_or]
      · simp (disch := first | assumption | omega | decide) only [nI_add, n_mul, n_sub, n_le, n_lt, n_eq, n_ne1, n_0, m_bl_t, m_bl_f, if_true, if_false, Nat.reduceAdd, Nat.reduceMul, Nat.reduceSub, Nat.reduceLeDiff, Nat.reduceEqDiff, Nat.add_zero, Nat.add_sub_cancel, Option.toList, List.cons_append, List.nil_append, h1, i143_24, i143_25, i143_27, i143_28, i143_29, i1, not_false_iff, decide_true, Bool.true_or, Bool.false_or]
    · simp (disch := first | assumption | omega | decide) only [nI_add, n_mul, n_sub, n_le, n_lt, n_eq, n_ne1, n_0, m_bl_t, m_bl_f, if_true, if_false, Nat.reduceAdd, Nat.reduceMul, Nat.reduceSub, Nat.reduceLeDiff, Nat.reduceEqDiff, Nat.add_zero, Nat.add_sub_cancel, Option.toList, List.cons_append, List.nil_append, i143_8, i143_9, i143_10, i143_11, i143_24, i143_25, i143_27, i143_28, i143_29, hx8, i1, Bool.true_or]
theorem w143_42 (ht : 55 ≤ t) (hu : u < 3) (ha : m_aa a) {y : Int32} : ∀ (c x : Nat) (g : Nat → Int32), x + c = 8 → WP V 143 42 [.ref 27, .int (nI u), .int (nI (150 + 154 * u)), .int y, .int (nI x)] [] t (mM J a g h o) L (m_RR e a b) Q = WP V 143 84 [.ref 27, .int (nI u), .int (nI (150 + 154 * u)), .int y, .int (nI 8)] [] t (mM J a (s_loop (d_ct1 u) x c g) h o) L (m_RR e a b) Q := by
  have hA := mA_of ha
  have hat := mA_lt ha ht
  intro c
  induction c with
  | zero =>
    intro x g hx
    obtain rfl : x = 8 := by omega
    rw [i143_42]
    simp (disch := first | assumption | omega | decide) only [nI_add, n_mul, n_sub, n_le, n_lt, n_eq, n_ne1, n_0, m_bl_t, m_bl_f, if_true, if_false, Nat.reduceAdd, Nat.reduceMul, Nat.reduceSub, Nat.reduceLeDiff, Nat.reduceEqDiff, Nat.add_zero, Nat.add_sub_cancel, Option.toList, List.cons_append, List.nil_append, i143_43, i143_44, Nat.le_refl, s_loop]
  | succ c ih =>
    intro x g hx
    have hx8 : ¬ 8 ≤ x := by omega
    have hx7 : x < 8 := by omega
    rw [i143_42, s_loop]
    simp (disch := first | assumption | omega | decide) only [nI_add, n_mul, n_sub, n_le, n_lt, n_eq, n_ne1, n_0, m_bl_t, m_bl_f, if_true, if_false, Nat.reduceAdd, Nat.reduceMul, Nat.reduceSub, Nat.reduceLeDiff, Nat.reduceEqDiff, Nat.add_zero, Nat.add_sub_cancel, Option.toList, List.cons_append, List.nil_append, i143_43, i143_44, i143_45, i143_46, i143_47, i143_48, i143_49, i143_50, i143_51, i143_52, i143_53, i143_54, i143_55, i143_56, rv_27_0, hx8, mM_a]
    by_cases h1 : g (150 + 154 * u + 135 + 2 * x) = -1
    · have e1 : d_ct1 u x g = g := if_pos h1
      simp (disch := first | assumption | omega | decide) only [nI_add, n_mul, n_sub, n_le, n_lt, n_eq, n_ne1, n_0, m_bl_t, m_bl_f, if_true, if_false, Nat.reduceAdd, Nat.reduceMul, Nat.reduceSub, Nat.reduceLeDiff, Nat.reduceEqDiff, Nat.add_zero, Nat.add_sub_cancel, Option.toList, List.cons_append, List.nil_append, h1, i143_82, i143_83]
      rw [e1]
      exact ih (x + 1) g (by omega)
    · have e1 : d_ct1 u x g = d_bec g x (g (150 + 154 * u + 135 + 2 * x)) (g (150 + 154 * u + 135 + 2 * x + 1)) := if_neg h1
      simp (disch := first | assumption | omega | decide) only [nI_add, n_mul, n_sub, n_le, n_lt, n_eq, n_ne1, n_0, m_bl_t, m_bl_f, if_true, if_false, Nat.reduceAdd, Nat.reduceMul, Nat.reduceSub, Nat.reduceLeDiff, Nat.reduceEqDiff, Nat.add_zero, Nat.add_sub_cancel, Option.toList, List.cons_append, List.nil_append, h1, i143_57, i143_58, i143_59, i143_60, i143_61, i143_62, i143_63, i143_64, i143_65, i143_66, i143_67, i143_68, i143_69, i143_70, i143_71, i143_72, i143_73, i143_74, i143_75, i143_76, i143_77, i143_78, i143_79, i143_80, i143_81, i143_82, i143_83, rv_27_0, mM_a, c137]
      rw [e1]
      exact ih (x + 1) _ (by omega)
theorem w143 (ht : 55 ≤ t) (hu : u < 3) (ha : m_aa a) {c : Nat} (hn : h 17 = nI c) (hn2 : c ≤ 60) : WP V 143 0 (m_loc 143 [.ref 27, .int (nI u)]) [] t (mM J a g h o) L (m_RR e a b) Q = Q none t (mM J a (d_end (d_ct g u) u) (d_cno g h o u c).1 (d_cno g h o u c).2) L (m_RR e a b) := by
  have hA := mA_of ha
  have hat := mA_lt ha ht
  have hN : 612 < 2 ^ 31 := by decide
  have hN2 : 612 < 1000 := by decide
  have hb5 : 150 + 154 * u + 119 + 16 ≤ 612 := by omega
  have hb6 : 150 + 154 * u + 135 + 16 ≤ 612 := by omega
  rw [show m_loc 143 [.ref 27, .int (nI u)] = [.ref 27, .int (nI u), m_u, m_u, m_u] from rfl]
  simp (disch := first | assumption | omega | decide) only [nI_add, n_mul, n_sub, n_le, n_lt, n_eq, n_ne1, n_0, m_bl_t, m_bl_f, if_true, if_false, Nat.reduceAdd, Nat.reduceMul, Nat.reduceSub, Nat.reduceLeDiff, Nat.reduceEqDiff, Nat.add_zero, Nat.add_sub_cancel, Option.toList, List.cons_append, List.nil_append, i143_0, i143_1, i143_2, i143_3, i143_4, i143_5, i143_6, c113]
  have h7 := w143_7 (V := V) (J := J) (g := g) (h := h) (o := o) (L := L) (e := e) (b := b) (Q := Q) ht hu ha 8 0 false rfl
  rw [m_bl_f, Bool.false_or, show s_any (fun x => decide (¬ g (150 + 154 * u + 135 + 2 * x) = -1)) 0 8 = d_any g u from rfl] at h7
  rw [h7]
  have tail : ∀ (g' : Nat → Int32) (y : Bool), WP V 143 84 [.ref 27, .int (nI u), .int (nI (150 + 154 * u)), .int (m_bl y), .int (nI 8)] [] t (mM J a g' h o) L (m_RR e a b) Q = Q none t (mM J a (d_end g' u) (if h 5 = nI 0 then d_note g' h o g' u (g' (150 + 154 * u + 102)) (if y then g' 144 else -1) c (150 + 154 * u + 119) (150 + 154 * u + 135) else (h, o)).1 (if h 5 = nI 0 then d_note g' h o g' u (g' (150 + 154 * u + 102)) (if y then g' 144 else -1) c (150 + 154 * u + 119) (150 + 154 * u + 135) else (h, o)).2) L (m_RR e a b) := by
    intro g' y
    have hs' : ∀ n0 n1 n2 z h, mM J a g' h (mN o n0 n1 n2 z) a = g' := fun _ _ _ _ _ => mM_a
    by_cases h5 : h 5 = nI 0
    · cases y
      · simp (disch := first | assumption | omega | decide) only [nI_add, n_mul, n_sub, n_le, n_lt, n_eq, n_ne1, n_0, m_bl_t, m_bl_f, if_true, if_false, Nat.reduceAdd, Nat.reduceMul, Nat.reduceSub, Nat.reduceLeDiff, Nat.reduceEqDiff, Nat.add_zero, Nat.add_sub_cancel, Option.toList, List.cons_append, List.nil_append, i143_84, i143_85, i143_86, i143_87, i143_88, i143_89, i143_90, i143_91, i143_92, i143_93, i143_94, i143_95, i143_96, i143_102, i143_103, i143_104, i143_105, i143_106, i143_107, i143_108, i143_109, i143_110, i143_111, i143_112, i143_113, i143_114, i143_115, rv_27_0, mM_27, mM_a, h5, m_bl_f, c136 ht hu ha hn hn2 hat hA hN hb5 hb6 hN2 hs', c144, Bool.false_eq_true]
      · simp (disch := first | assumption | omega | decide) only [nI_add, n_mul, n_sub, n_le, n_lt, n_eq, n_ne1, n_0, m_bl_t, m_bl_f, if_true, if_false, Nat.reduceAdd, Nat.reduceMul, Nat.reduceSub, Nat.reduceLeDiff, Nat.reduceEqDiff, Nat.add_zero, Nat.add_sub_cancel, Option.toList, List.cons_append, List.nil_append, i143_84, i143_85, i143_86, i143_87, i143_88, i143_89, i143_90, i143_91, i143_92, i143_93, i143_94, i143_95, i143_96, i143_97, i143_98, i143_99, i143_100, i143_101, i143_103, i143_104, i143_105, i143_106, i143_107, i143_108, i143_109, i143_110, i143_111, i143_112, i143_113, i143_114, i143_115, rv_27_0, mM_27, mM_a, h5, m_bl_t, c136 ht hu ha hn hn2 hat hA hN hb5 hb6 hN2 hs', c144]
    · simp (disch := first | assumption | omega | decide) only [nI_add, n_mul, n_sub, n_le, n_lt, n_eq, n_ne1, n_0, m_bl_t, m_bl_f, if_true, if_false, Nat.reduceAdd, Nat.reduceMul, Nat.reduceSub, Nat.reduceLeDiff, Nat.reduceEqDiff, Nat.add_zero, Nat.add_sub_cancel, Option.toList, List.cons_append, List.nil_append, i143_84, i143_85, i143_86, i143_112, i143_113, i143_114, i143_115, mM_27, h5, c144]
  unfold d_cno
  have ea : d_ct g u = if d_any g u then s_loop (d_ct1 u) 0 8 (m_sc g 144 (g 144 + nI 1)) else g := rfl
  cases hy : d_any g u
  · rw [hy] at ea
    rw [if_neg (by decide)] at ea
    rw [ea]
    have t0 := tail g false
    rw [m_bl_f] at t0
    simp (disch := first | assumption | omega | decide) only [nI_add, n_mul, n_sub, n_le, n_lt, n_eq, n_ne1, n_0, m_bl_t, m_bl_f, if_true, if_false, Nat.reduceAdd, Nat.reduceMul, Nat.reduceSub, Nat.reduceLeDiff, Nat.reduceEqDiff, Nat.add_zero, Nat.add_sub_cancel, Option.toList, List.cons_append, List.nil_append, i143_30, i143_31, t0]
  · rw [hy, if_pos rfl] at ea
    rw [ea]
    have t0 := tail (s_loop (d_ct1 u) 0 8 (m_sc g 144 (g 144 + nI 1))) true
    rw [m_bl_t, if_pos (rfl : true = true)] at t0
    simp (disch := first | assumption | omega | decide) only [nI_add, n_mul, n_sub, n_le, n_lt, n_eq, n_ne1, n_0, m_bl_t, m_bl_f, if_true, if_false, Nat.reduceAdd, Nat.reduceMul, Nat.reduceSub, Nat.reduceLeDiff, Nat.reduceEqDiff, Nat.add_zero, Nat.add_sub_cancel, Option.toList, List.cons_append, List.nil_append, i143_30, i143_31, i143_32, i143_33, i143_34, i143_35, i143_36, i143_37, i143_38, i143_39, i143_40, i143_41, rv_27_0, mM_a, mM_sa]
    rw [w143_42 ht hu ha 8 0 _ rfl, t0]
theorem c143 (ht : 55 ≤ t) (hu : u < 3) (ha : m_aa a) {c : Nat} (hn : h 17 = nI c) (hn2 : c ≤ 60) : WPC V 143 [.ref 27, .int (nI u)] m n ls st t (mM J a g h o) L (m_RR e a b) Q = WP V m n ls st t (mM J a (d_end (d_ct g u) u) (d_cno g h o u c).1 (d_cno g h o u c).2) L (m_RR e a b) Q := wpc_of (fun Q => w143 ht hu ha hn hn2)
theorem w153_6 (ht : 55 ≤ t) (ha : m_aa a) {w1 w2 w3 : Value} {y4 : Int32} : ∀ (c i : Nat) (z : Nat → Int32), i + c = 16 → WP V 153 6 [.ref 27, w1, w2, w3, .int y4, .int (nI i)] [] t (mM J a g h (m_sc o 44 z)) L (m_RR e a b) Q = WP V 153 27 [.ref 27, w1, w2, w3, .int y4, .int (nI 16)] [] t (mM J a g h (m_sc o 44 (s_loop d_sg1 i c z))) L (m_RR e a b) Q := by
  intro c
  induction c with
  | zero =>
    intro i z hi
    obtain rfl : i = 16 := by omega
    rw [i153_6]
    simp (disch := first | assumption | omega | decide) only [nI_add, n_mul, n_sub, n_le, n_lt, n_eq, n_ne1, n_0, m_bl_t, m_bl_f, if_true, if_false, Nat.reduceAdd, Nat.reduceMul, Nat.reduceSub, Nat.reduceLeDiff, Nat.reduceEqDiff, Nat.add_zero, Nat.add_sub_cancel, Option.toList, List.cons_append, List.nil_append, i153_7, i153_8, Nat.le_refl, s_loop]
  | succ c ih =>
    intro i z hi
    have hx8 : ¬ 16 ≤ i := by omega
    have hx7 : i < 16 := by omega
    rw [i153_6, s_loop]
    simp (disch := first | assumption | omega | decide) only [nI_add, n_mul, n_sub, n_le, n_lt, n_eq, n_ne1, n_0, m_bl_t, m_bl_f, if_true, if_false, Nat.reduceAdd, Nat.reduceMul, Nat.reduceSub, Nat.reduceLeDiff, Nat.reduceEqDiff, Nat.add_zero, Nat.add_sub_cancel, Option.toList, List.cons_append, List.nil_append, i153_7, i153_8, i153_9, i153_10, i153_11, i153_12, i153_13, i153_14, i153_15, i153_16, i153_17, i153_18, i153_19, i153_20, i153_21, i153_22, i153_23, i153_24, i153_25, i153_26, rv_27_24, hx8, mM_n, mM_sn, m_sc_self, s_scc]
    exact ih (i + 1) (d_sg1 i z) (by omega)
theorem w153 (ht : 55 ≤ t) (hu : u < 3) (ha : m_aa a) (hx : x < 8) {c : Nat} {v z : Int32} (hn : h 17 = nI c) (hn2 : c ≤ 60) : WP V 153 0 (m_loc 153 [.ref 27, .int (nI u), .int (nI x), .int v, .int z]) [] t (mM J a g h o) L (m_RR e a b) Q = Q none t (mM J a g (d_aln g h o u x v z c).1 (d_aln g h o u x v z c).2) L (m_RR e a b) := by
  have hA := mA_of ha
  have hat := mA_lt ha ht
  have hA4 : m_ar 44 2 32 = true := by decide
  have h4t : 44 < t := by omega
  have hN : 32 < 2 ^ 31 := by decide
  have hN2 : 32 < 1000 := by decide
  have hb5 : 0 + 16 ≤ 32 := by decide
  have hb6 : 16 + 16 ≤ 32 := by decide
  rw [show m_loc 153 [.ref 27, .int (nI u), .int (nI x), .int v, .int z] = [.ref 27, .int (nI u), .int (nI x), .int v, .int z, m_u] from rfl]
  unfold d_aln
  simp (disch := first | assumption | omega | decide) only [nI_add, n_mul, n_sub, n_le, n_lt, n_eq, n_ne1, n_0, m_bl_t, m_bl_f, if_true, if_false, Nat.reduceAdd, Nat.reduceMul, Nat.reduceSub, Nat.reduceLeDiff, Nat.reduceEqDiff, Nat.add_zero, Nat.add_sub_cancel, Option.toList, List.cons_append, List.nil_append, i153_0, i153_1, i153_2, mM_27]
  by_cases h5 : h 5 = nI 0
  · have h6 := w153_6 (V := V) (t := t) (J := J) (g := g) (h := h) (o := o) (L := L) (e := e) (b := b) (Q := Q) (w1 := .int (nI u)) (w2 := .int (nI x)) (w3 := .int v) (y4 := z) ht ha 16 0 (o 44) rfl
    rw [s_sce] at h6
    have hs' : ∀ n0 n1 n2 z' h', mM J a g h' (mN (m_sc o 44 (d_sng (o 44) x v z)) n0 n1 n2 z') 44 = d_sng (o 44) x v z := fun _ _ _ _ _ => by
      rw [mM_n ha (by omega)]; rfl
    have e17 : m_sc h 2 (h 2 + nI 1) 17 = nI c := hn
    simp (disch := first | assumption | omega | decide) only [nI_add, n_mul, n_sub, n_le, n_lt, n_eq, n_ne1, n_0, m_bl_t, m_bl_f, if_true, if_false, Nat.reduceAdd, Nat.reduceMul, Nat.reduceSub, Nat.reduceLeDiff, Nat.reduceEqDiff, Nat.add_zero, Nat.add_sub_cancel, Option.toList, List.cons_append, List.nil_append, h5, i153_4, i153_5]
    rw [h6]
    simp (disch := first | assumption | omega | decide) only [nI_add, n_mul, n_sub, n_le, n_lt, n_eq, n_ne1, n_0, m_bl_t, m_bl_f, if_true, if_false, Nat.reduceAdd, Nat.reduceMul, Nat.reduceSub, Nat.reduceLeDiff, Nat.reduceEqDiff, Nat.add_zero, Nat.add_sub_cancel, Option.toList, List.cons_append, List.nil_append, i153_27, i153_28, i153_29, i153_30, i153_31, i153_32, i153_33, i153_34, i153_35, i153_36, i153_37, i153_38, i153_39, i153_40, i153_41, i153_42, i153_43, i153_44, i153_45, i153_46, i153_47, i153_48, i153_49, i153_50, i153_51, i153_52, i153_53, rv_27_24, mM_n, mM_sn, mM_27, mM_s27, m_sc_self, s_scc]
    rw [show m_sc (m_sc (s_loop d_sg1 0 16 (o 44)) (16 + 2 * x) v) (16 + 2 * x + 1) z = d_sng (o 44) x v z from rfl]
    simp (disch := first | assumption | omega | decide) only [nI_add, n_mul, n_sub, n_le, n_lt, n_eq, n_ne1, n_0, m_bl_t, m_bl_f, if_true, if_false, Nat.reduceAdd, Nat.reduceMul, Nat.reduceSub, Nat.reduceLeDiff, Nat.reduceEqDiff, Nat.add_zero, Nat.add_sub_cancel, Option.toList, List.cons_append, List.nil_append, i153_54, i153_55, i153_56, i153_57, i153_58, i153_59, i153_60, i153_61, i153_62, i153_63, i153_64, i153_65, rv_27_0, rv_27_24, mM_a, mM_n, c136 ht hu ha e17 hn2 h4t hA4 hN hb5 hb6 hN2 hs']
  · simp (disch := first | assumption | omega | decide) only [nI_add, n_mul, n_sub, n_le, n_lt, n_eq, n_ne1, n_0, m_bl_t, m_bl_f, if_true, if_false, Nat.reduceAdd, Nat.reduceMul, Nat.reduceSub, Nat.reduceLeDiff, Nat.reduceEqDiff, Nat.add_zero, Nat.add_sub_cancel, Option.toList, List.cons_append, List.nil_append, h5, i153_3]
theorem c153 (ht : 55 ≤ t) (hu : u < 3) (ha : m_aa a) (hx : x < 8) {c : Nat} {v z : Int32} (hn : h 17 = nI c) (hn2 : c ≤ 60) : WPC V 153 [.ref 27, .int (nI u), .int (nI x), .int v, .int z] m n ls st t (mM J a g h o) L (m_RR e a b) Q = WP V m n ls st t (mM J a g (d_aln g h o u x v z c).1 (d_aln g h o u x v z c).2) L (m_RR e a b) Q := wpc_of (fun Q => w153 ht hu ha hx hn hn2)
theorem w152_98 (ht : 55 ≤ t) (hu : u < 3) (ha : m_aa a) (hx : x < 8) {v z : Int32} : WP V 152 98 [.ref 27, .int (nI u), .int (nI x), .int v, .int z, .int (nI (150 + 154 * u)), .int (nI (18 * x))] [] t (mM J a g h o) L (m_RR e a b) Q = Q (some (.int (nI 0))) t (mM J a (d_lg g u x v z) h o) L (m_RR e a b) := by
  have hA := mA_of ha
  have hat := mA_lt ha ht
  simp (disch := first | assumption | omega | decide) only [nI_add, n_mul, n_sub, n_le, n_lt, n_eq, n_ne1, n_0, m_bl_t, m_bl_f, if_true, if_false, Nat.reduceAdd, Nat.reduceMul, Nat.reduceSub, Nat.reduceLeDiff, Nat.reduceEqDiff, Nat.add_zero, Nat.add_sub_cancel, Option.toList, List.cons_append, List.nil_append, i152_98, i152_99, i152_100, i152_101, i152_102, i152_103, i152_104, i152_105, i152_106, i152_107, i152_108, i152_109, i152_110, i152_111, i152_112, i152_113, i152_114, i152_115, i152_116, i152_117, i152_118, i152_119, i152_120, i152_121, i152_122, i152_123, rv_27_0, mM_a, mM_sa]
  rfl
theorem w152_72 (ht : 55 ≤ t) (hu : u < 3) (ha : m_aa a) (hx : x < 8) {v z : Int32} : WP V 152 72 [.ref 27, .int (nI u), .int (nI x), .int v, .int z, .int (nI (150 + 154 * u)), .int (nI (18 * x))] [] t (mM J a g h o) L (m_RR e a b) Q = Q (some (.int (nI 0))) t (mM J a (d_lg (d_wr3 (d_wr2 g (h 1) u x) u x) u x v z) h o) L (m_RR e a b) := by
  have hA := mA_of ha
  have hat := mA_lt ha ht
  have t2 : ∀ g : Nat → Int32, WP V 152 83 [.ref 27, .int (nI u), .int (nI x), .int v, .int z, .int (nI (150 + 154 * u)), .int (nI (18 * x))] [] t (mM J a g h o) L (m_RR e a b) Q = Q (some (.int (nI 0))) t (mM J a (d_lg (d_wr3 g u x) u x v z) h o) L (m_RR e a b) := by
    intro g
    simp (disch := first | assumption | omega | decide) only [nI_add, n_mul, n_sub, n_le, n_lt, n_eq, n_ne1, n_0, m_bl_t, m_bl_f, if_true, if_false, Nat.reduceAdd, Nat.reduceMul, Nat.reduceSub, Nat.reduceLeDiff, Nat.reduceEqDiff, Nat.add_zero, Nat.add_sub_cancel, Option.toList, List.cons_append, List.nil_append, i152_83, i152_84, i152_85, i152_86, i152_87, i152_88, i152_89, i152_90, rv_27_0, mM_a]
    unfold d_wr3
    by_cases h1 : g (150 + 154 * u + 102) = nI 3
    · simp (disch := first | assumption | omega | decide) only [nI_add, n_mul, n_sub, n_le, n_lt, n_eq, n_ne1, n_0, m_bl_t, m_bl_f, if_true, if_false, Nat.reduceAdd, Nat.reduceMul, Nat.reduceSub, Nat.reduceLeDiff, Nat.reduceEqDiff, Nat.add_zero, Nat.add_sub_cancel, Option.toList, List.cons_append, List.nil_append, h1, i152_91, i152_92, i152_93, i152_94, i152_95, i152_96, i152_97, rv_27_0, mM_a, mM_sa, w152_98]
    · simp (disch := first | assumption | omega | decide) only [nI_add, n_mul, n_sub, n_le, n_lt, n_eq, n_ne1, n_0, m_bl_t, m_bl_f, if_true, if_false, Nat.reduceAdd, Nat.reduceMul, Nat.reduceSub, Nat.reduceLeDiff, Nat.reduceEqDiff, Nat.add_zero, Nat.add_sub_cancel, Option.toList, List.cons_append, List.nil_append, h1, w152_98]
  simp (disch := first | assumption | omega | decide) only [nI_add, n_mul, n_sub, n_le, n_lt, n_eq, n_ne1, n_0, m_bl_t, m_bl_f, if_true, if_false, Nat.reduceAdd, Nat.reduceMul, Nat.reduceSub, Nat.reduceLeDiff, Nat.reduceEqDiff, Nat.add_zero, Nat.add_sub_cancel, Option.toList, List.cons_append, List.nil_append, i152_72, i152_73, i152_74, i152_75, mM_27]
  unfold d_wr2
  by_cases h1 : h 1 = nI 1
  · simp (disch := first | assumption | omega | decide) only [nI_add, n_mul, n_sub, n_le, n_lt, n_eq, n_ne1, n_0, m_bl_t, m_bl_f, if_true, if_false, Nat.reduceAdd, Nat.reduceMul, Nat.reduceSub, Nat.reduceLeDiff, Nat.reduceEqDiff, Nat.add_zero, Nat.add_sub_cancel, Option.toList, List.cons_append, List.nil_append, h1, i152_76, i152_77, i152_78, i152_79, i152_80, i152_81, i152_82, rv_27_0, mM_a, mM_sa, t2]
  · simp (disch := first | assumption | omega | decide) only [nI_add, n_mul, n_sub, n_le, n_lt, n_eq, n_ne1, n_0, m_bl_t, m_bl_f, if_true, if_false, Nat.reduceAdd, Nat.reduceMul, Nat.reduceSub, Nat.reduceLeDiff, Nat.reduceEqDiff, Nat.add_zero, Nat.add_sub_cancel, Option.toList, List.cons_append, List.nil_append, h1, t2]
theorem w152 (ht : 55 ≤ t) (hu : u < 3) (ha : m_aa a) (hx : x < 8) {c w d k : Nat} {v z : Int32} (hn : h 17 = nI c) (hn2 : c ≤ 60) (hw : d_own g h u x w d k) : WP V 152 0 (m_loc 152 [.ref 27, .int (nI u), .int (nI x), .int v, .int z]) [] t (mM J a g h o) L (m_RR e a b) Q = Q (some (.int (d_wr g h o u x v z c w d k).1)) t (mM J a (d_wr g h o u x v z c w d k).2.1 (d_wr g h o u x v z c w d k).2.2.1 (d_wr g h o u x v z c w d k).2.2.2) L (m_RR e a b) := by
  have hA := mA_of ha
  have hat := mA_lt ha ht
  rw [show m_loc 152 [.ref 27, .int (nI u), .int (nI x), .int v, .int z] = [.ref 27, .int (nI u), .int (nI x), .int v, .int z, m_u, m_u] from rfl]
  unfold d_wr
  simp (disch := first | assumption | omega | decide) only [nI_add, n_mul, n_sub, n_le, n_lt, n_eq, n_ne1, n_0, m_bl_t, m_bl_f, if_true, if_false, Nat.reduceAdd, Nat.reduceMul, Nat.reduceSub, Nat.reduceLeDiff, Nat.reduceEqDiff, Nat.add_zero, Nat.add_sub_cancel, Option.toList, List.cons_append, List.nil_append, i152_0, i152_1, i152_2, i152_3, i152_4, i152_5, i152_6, i152_7, i152_8, i152_9, i152_10, i152_11, i152_12, rv_27_0, c112, c113, mM_a]
  by_cases h1 : g (150 + 154 * u + 101) = nI 0
  · simp (disch := first | assumption | omega | decide) only [nI_add, n_mul, n_sub, n_le, n_lt, n_eq, n_ne1, n_0, m_bl_t, m_bl_f, if_true, if_false, Nat.reduceAdd, Nat.reduceMul, Nat.reduceSub, Nat.reduceLeDiff, Nat.reduceEqDiff, Nat.add_zero, Nat.add_sub_cancel, Option.toList, List.cons_append, List.nil_append, h1, i152_13, i152_14, i152_15, i152_16, i152_17, i152_18, i152_19, i152_20, rv_27_0, mM_a]
    by_cases h2 : g (18 * x + 17) = -1
    · simp (disch := first | assumption | omega | decide) only [nI_add, n_mul, n_sub, n_le, n_lt, n_eq, n_ne1, n_0, m_bl_t, m_bl_f, if_true, if_false, Nat.reduceAdd, Nat.reduceMul, Nat.reduceSub, Nat.reduceLeDiff, Nat.reduceEqDiff, Nat.add_zero, Nat.add_sub_cancel, Option.toList, List.cons_append, List.nil_append, h2, i152_21, i152_22, i152_23, i152_24, c148, b_0, not_true, decide_false, Bool.false_or]
      cases h3 : d_lkd g u
      · simp (disch := first | assumption | omega | decide) only [nI_add, n_mul, n_sub, n_le, n_lt, n_eq, n_ne1, n_0, m_bl_t, m_bl_f, if_true, if_false, Nat.reduceAdd, Nat.reduceMul, Nat.reduceSub, Nat.reduceLeDiff, Nat.reduceEqDiff, Nat.add_zero, Nat.add_sub_cancel, Option.toList, List.cons_append, List.nil_append, i152_25, i152_26, i152_27, i152_28, i152_29, i152_30, i152_31, i152_32, rv_27_0, mM_a, Bool.false_or]
        by_cases h4 : g (18 * x + 16) = -1
        · simp (disch := first | assumption | omega | decide) only [nI_add, n_mul, n_sub, n_le, n_lt, n_eq, n_ne1, n_0, m_bl_t, m_bl_f, if_true, if_false, Nat.reduceAdd, Nat.reduceMul, Nat.reduceSub, Nat.reduceLeDiff, Nat.reduceEqDiff, Nat.add_zero, Nat.add_sub_cancel, Option.toList, List.cons_append, List.nil_append, h4, i152_35, i152_36, i152_37, i152_38, i152_39, i152_40, i152_41, i152_42, i152_43, i152_44, i152_45, i152_46, i152_47, i152_48, i152_49, i152_50, i152_51, i152_52, i152_53, i152_54, i152_55, rv_27_0, mM_a, mM_sa, c137, c153 ht hu ha hx hn hn2, not_true, decide_false, Bool.false_eq_true]
        · simp (disch := first | assumption | omega | decide) only [nI_add, n_mul, n_sub, n_le, n_lt, n_eq, n_ne1, n_0, m_bl_t, m_bl_f, if_true, if_false, Nat.reduceAdd, Nat.reduceMul, Nat.reduceSub, Nat.reduceLeDiff, Nat.reduceEqDiff, Nat.add_zero, Nat.add_sub_cancel, Option.toList, List.cons_append, List.nil_append, h4, i152_33, i152_34, not_false_iff, decide_true]
      · simp (disch := first | assumption | omega | decide) only [nI_add, n_mul, n_sub, n_le, n_lt, n_eq, n_ne1, n_0, m_bl_t, m_bl_f, if_true, if_false, Nat.reduceAdd, Nat.reduceMul, Nat.reduceSub, Nat.reduceLeDiff, Nat.reduceEqDiff, Nat.add_zero, Nat.add_sub_cancel, Option.toList, List.cons_append, List.nil_append, i152_33, i152_34, Bool.true_eq_false, Bool.true_or]
    · simp (disch := first | assumption | omega | decide) only [nI_add, n_mul, n_sub, n_le, n_lt, n_eq, n_ne1, n_0, m_bl_t, m_bl_f, if_true, if_false, Nat.reduceAdd, Nat.reduceMul, Nat.reduceSub, Nat.reduceLeDiff, Nat.reduceEqDiff, Nat.add_zero, Nat.add_sub_cancel, Option.toList, List.cons_append, List.nil_append, h2, i152_33, i152_34, not_false_iff, decide_true, Bool.true_or]
  · simp (disch := first | assumption | omega | decide) only [nI_add, n_mul, n_sub, n_le, n_lt, n_eq, n_ne1, n_0, m_bl_t, m_bl_f, if_true, if_false, Nat.reduceAdd, Nat.reduceMul, Nat.reduceSub, Nat.reduceLeDiff, Nat.reduceEqDiff, Nat.add_zero, Nat.add_sub_cancel, Option.toList, List.cons_append, List.nil_append, h1, i152_56, i152_57, i152_58, i152_59, mM_27]
    by_cases h2 : h 1 = nI 3
    · simp (disch := first | assumption | omega | decide) only [nI_add, n_mul, n_sub, n_le, n_lt, n_eq, n_ne1, n_0, m_bl_t, m_bl_f, if_true, if_false, Nat.reduceAdd, Nat.reduceMul, Nat.reduceSub, Nat.reduceLeDiff, Nat.reduceEqDiff, Nat.add_zero, Nat.add_sub_cancel, Option.toList, List.cons_append, List.nil_append, h2, w152_98]
    · simp (disch := first | assumption | omega | decide) only [nI_add, n_mul, n_sub, n_le, n_lt, n_eq, n_ne1, n_0, m_bl_t, m_bl_f, if_true, if_false, Nat.reduceAdd, Nat.reduceMul, Nat.reduceSub, Nat.reduceLeDiff, Nat.reduceEqDiff, Nat.add_zero, Nat.add_sub_cancel, Option.toList, List.cons_append, List.nil_append, h2, i152_60, i152_61, i152_62, i152_63, i152_64, c147, b_0]
      cases h3 : d_held g u x
      · simp (disch := first | assumption | omega | decide) only [nI_add, n_mul, n_sub, n_le, n_lt, n_eq, n_ne1, n_0, m_bl_t, m_bl_f, if_true, if_false, Nat.reduceAdd, Nat.reduceMul, Nat.reduceSub, Nat.reduceLeDiff, Nat.reduceEqDiff, Nat.add_zero, Nat.add_sub_cancel, Option.toList, List.cons_append, List.nil_append, i152_65, i152_66, i152_67, i152_68, i152_69, c146 ht hu ha hx hw, b_0, Bool.false_eq_true]
        have q0 : (d_wfo g h u x w d k).1 = true → (d_wfo g h u x w d k).2.1 = g ∧ (d_wfo g h u x w d k).2.2 = h := by
          unfold d_wfo
          split
          · split
            · intro h5; cases h5
            · intro _; exact ⟨rfl, rfl⟩
          · intro h5; cases h5
        have q2 : (d_wfo g h u x w d k).2.2 1 = h 1 := by
          unfold d_wfo
          split
          · split <;> rfl
          · rfl
        generalize d_wfo g h u x w d k = rr at q0 q2
        obtain ⟨r1, r2, r3⟩ := rr
        dsimp only at q2
        cases r1
        · simp (disch := first | assumption | omega | decide) only [nI_add, n_mul, n_sub, n_le, n_lt, n_eq, n_ne1, n_0, m_bl_t, m_bl_f, if_true, if_false, Nat.reduceAdd, Nat.reduceMul, Nat.reduceSub, Nat.reduceLeDiff, Nat.reduceEqDiff, Nat.add_zero, Nat.add_sub_cancel, Option.toList, List.cons_append, List.nil_append, Bool.false_eq_true, w152_72, q2]
        · obtain ⟨q2, q3⟩ := q0 rfl
          dsimp only at q2 q3
          rw [q2, q3]
          simp (disch := first | assumption | omega | decide) only [nI_add, n_mul, n_sub, n_le, n_lt, n_eq, n_ne1, n_0, m_bl_t, m_bl_f, if_true, if_false, Nat.reduceAdd, Nat.reduceMul, Nat.reduceSub, Nat.reduceLeDiff, Nat.reduceEqDiff, Nat.add_zero, Nat.add_sub_cancel, Option.toList, List.cons_append, List.nil_append, i152_70, i152_71, Bool.true_eq_false]
      · simp (disch := first | assumption | omega | decide) only [nI_add, n_mul, n_sub, n_le, n_lt, n_eq, n_ne1, n_0, m_bl_t, m_bl_f, if_true, if_false, Nat.reduceAdd, Nat.reduceMul, Nat.reduceSub, Nat.reduceLeDiff, Nat.reduceEqDiff, Nat.add_zero, Nat.add_sub_cancel, Option.toList, List.cons_append, List.nil_append, i152_70, i152_71, Bool.true_eq_false]
theorem c152 (ht : 55 ≤ t) (hu : u < 3) (ha : m_aa a) (hx : x < 8) {c w d k : Nat} {v z : Int32} (hn : h 17 = nI c) (hn2 : c ≤ 60) (hw : d_own g h u x w d k) : WPC V 152 [.ref 27, .int (nI u), .int (nI x), .int v, .int z] m n ls st t (mM J a g h o) L (m_RR e a b) Q = WP V m n ls ((.int (d_wr g h o u x v z c w d k).1) :: st) t (mM J a (d_wr g h o u x v z c w d k).2.1 (d_wr g h o u x v z c w d k).2.2.1 (d_wr g h o u x v z c w d k).2.2.2) L (m_RR e a b) Q := wpc_of (fun Q => w152 ht hu ha hx hn hn2 hw)
end T32
