/-! specs: values change; the steps' small ones -/
theorem n_m24 {a : Nat} (h : 24 ≤ a) : nI a + (-24) = nI (a - 24) := by
  obtain ⟨c, rfl⟩ : ∃ c, a = c + 24 := ⟨a - 24, by omega⟩
  rw [Nat.add_sub_cancel, ← nI_add, Int32.add_assoc, show nI 24 + (-24) = 0 from rfl, Int32.add_zero]
def c_chg (f : Nat → Int32) (x : Nat) : Nat → Int32 := m_sc (m_sc (m_sc (m_sc (m_sc (m_sc (m_sc (m_sc (m_sc f (121 + x) (f (97 + x))) (121 + x + 8) (f (97 + x + 8))) (121 + x + 16) (f (97 + x + 16))) (97 + x) (f (73 + x))) (97 + x + 8) (f (73 + x + 8))) (97 + x + 16) (f (73 + x + 16))) (73 + x) (f (49 + x))) (73 + x + 8) (f (49 + x + 8))) (73 + x + 16) (f (49 + x + 16))
def c_change (f : Nat → Int32) (x : Nat) (v z : Int32) : Nat → Int32 := m_sc (m_sc (m_sc (c_chg f x) (49 + x) v) (57 + x) z) (65 + x) (f 0)
def c_mh (f : Nat → Int32) (u x : Nat) : Bool := (decide (¬ f (152 + 47 * u + x) = -1) || decide (¬ f (176 + 47 * u + x) = -1)) && c_oth (f (41 + x)) (nI u)
def c_meets (f : Nat → Int32) (u : Nat) : Bool := s_any (c_mh f u) 0 8
def c_beg (f : Nat → Int32) (u k : Nat) : Nat → Int32 :=
  let f1 := if f 564 = nI 3 then m_sc f 1 (nI u) else f
  let f2 := if k = 3 then m_sc f1 2 (nI u) else f1
  let f3 := m_sc (m_sc (m_sc (m_sc (m_sc (m_sc f2 (15 + u) (nI k)) 559 (f2 559 + nI 1)) (18 + u) (f2 559)) (145 + 47 * u) (f2 0)) (146 + 47 * u) (f2 (6 + u) + nI 1)) (147 + 47 * u) (f2 (12 + u))
  va_cpy f3 f3 (21 + 4 * u) (148 + 47 * u) 4
def c_begin (f : Nat → Int32) (u k : Nat) : Int32 × (Nat → Int32) :=
  if ¬ f (15 + u) = -1 then (nI 105, f)
  else if decide (f 564 = nI 3) && c_oth (f 1) (nI u) then (nI 0, f)
  else if decide (k = 3) && decide (¬ f 2 = -1) then (nI 0, f)
  else (nI 6, c_beg f u k)
def c_sleep (f : Nat → Int32) (u : Nat) : Int32 × (Nat → Int32) :=
  if c_stale f u then (nI 2, f) else (nI 5, m_sc (c_unlock (c_rel (c_fill (c_fill f (176 + 47 * u) (176 + 47 * u + 8) (-1)) (176 + 47 * u + 8) (176 + 47 * u + 16) (nI 0)) 33 u) u) (3 + u) (nI 4))
def c_wake (f : Nat → Int32) (u : Nat) : Int32 × (Nat → Int32) :=
  if ¬ c_stale f u then (nI 0, f)
  else if f 564 = nI 3 then (if c_oth (f 1) (nI u) then (nI 0, f) else (nI 2, m_sc (m_sc f 1 (nI u)) (3 + u) (nI 1)))
  else (nI 2, m_sc f (3 + u) (nI 1))
section T23
variable {V : m_V} {t m n : Nat} {ls st : List Value} {I J : m_I} {f g nn ww : Nat → Int32} {L : m_L} {R : m_R} {e : Option Nat} {a b : Nat} {Q : Option Value → Nat → m_I → m_L → m_R → Prop} {u x : Nat}
set_option maxRecDepth 20000 in
theorem w52_4 (ht : 55 ≤ t) (hx : x < 8) {v z : Int32} {o : Nat} {y : Value} (h1 : 73 ≤ o) (h2 : o < 200) : WP V 52 4 [.ref 1, .int (nI x), .int v, .int z, .int (nI o), y] [] t (m_sc I 2 f) L (m_RR e a b) Q = WP V 52 4 [.ref 1, .int (nI x), .int v, .int z, .int (nI (o - 24)), .int (nI 24)] [] t (m_sc I 2 (m_sc (m_sc (m_sc f o (f (o - 24))) (o + 8) (f (o - 24 + 8))) (o + 16) (f (o - 24 + 16)))) L (m_RR e a b) Q := by
  have h3 : ¬ o < 73 := by omega
  rw [i52_4]
  simp (disch := first | assumption | omega | decide) only [nI_add, n_mul, n_sub, n_le, n_lt, n_eq, n_ne1, n_0, m_bl_t, m_bl_f, if_true, if_false, Nat.reduceAdd, Nat.reduceMul, Nat.reduceSub, Nat.reduceLeDiff, Nat.add_zero, Option.toList, List.cons_append, List.nil_append, i52_5, i52_6, i52_7, i52_8, i52_9, i52_10, i52_11, i52_12, i52_13, i52_14, i52_15, i52_16, i52_17, i52_18, i52_19, i52_20, i52_21, i52_22, i52_23, i52_24, i52_25, i52_26, i52_27, i52_28, i52_29, rv_13_0, rv_1_0, h3, n_m24, s_scc, m_sc_self, m_sc_ne, Nat.le_refl]
theorem w52 (ht : 55 ≤ t) (hx : x < 8) {v z : Int32} : WP V 52 0 (m_loc 52 [.ref 1, .int (nI x), .int v, .int z]) [] t I L (m_RR e a b) Q = Q none t (m_sc I 2 (c_change (I 2) x v z)) L (m_RR e a b) := by
  rw [show m_loc 52 [.ref 1, .int (nI x), .int v, .int z] = [.ref 1, .int (nI x), .int v, .int z, m_u, m_u] from rfl]
  have h4 : (49 + x < 73) = True := by simp; omega
  simp (disch := first | assumption | omega | decide) only [nI_add, n_mul, n_sub, n_le, n_lt, n_eq, n_ne1, n_0, m_bl_t, m_bl_f, if_true, if_false, Nat.reduceAdd, Nat.reduceMul, Nat.reduceSub, Nat.reduceLeDiff, Nat.add_zero, Option.toList, List.cons_append, List.nil_append, i52_0, i52_1, i52_2, i52_3]
  have go := w52_4 (V := V) (I := I) (f := I 2) (L := L) (e := e) (a := a) (b := b) (Q := Q) (v := v) (z := z) (o := 121 + x) (y := m_u) ht hx (by omega) (by omega)
  rw [s_sce] at go
  rw [go, show 121 + x - 24 = 97 + x by omega, w52_4 ht hx (by omega) (by omega), show 97 + x - 24 = 73 + x by omega, w52_4 ht hx (by omega) (by omega), show 73 + x - 24 = 49 + x by omega, i52_4]
  simp (disch := first | assumption | omega | decide) only [nI_add, n_mul, n_sub, n_le, n_lt, n_eq, n_ne1, n_0, m_bl_t, m_bl_f, if_true, if_false, Nat.reduceAdd, Nat.reduceMul, Nat.reduceSub, Nat.reduceLeDiff, Nat.add_zero, Option.toList, List.cons_append, List.nil_append, i52_5, i52_6, i52_30, i52_31, i52_32, i52_33, i52_34, i52_35, i52_36, i52_37, i52_38, i52_39, i52_40, i52_41, i52_42, i52_43, i52_44, i52_45, i52_46, i52_47, i52_48, i52_49, i52_50, i52_51, i52_52, i52_53, i52_54, rv_13_0, rv_1_0, h4, s_scc, m_sc_self, m_sc_ne]
  rfl
theorem c52 (ht : 55 ≤ t) (hx : x < 8) {v z : Int32} : WPC V 52 [.ref 1, .int (nI x), .int v, .int z] m n ls st t I L (m_RR e a b) Q = WP V m n ls st t (m_sc I 2 (c_change (I 2) x v z)) L (m_RR e a b) Q := wpc_of (fun Q => w52 ht hx)
theorem w23_6 (ht : 55 ≤ t) (hu : u < 3) : ∀ (c x : Nat) (y : Value), x + c = 8 → WP V 23 6 [.ref 26, .int (nI u), .int (nI (47 * u)), .int (nI x), y] [] t I L (m_RR e a b) Q = Q (some (.int (m_bl (s_any (c_mh (I 2) u) x c)))) t I L (m_RR e a b) := by
  intro c
  induction c with
  | zero =>
    intro x y hx
    obtain rfl : x = 8 := by omega
    rw [i23_6]
    simp (disch := first | assumption | omega | decide) only [nI_add, n_mul, n_sub, n_le, n_lt, n_eq, n_ne1, n_0, m_bl_t, m_bl_f, if_true, if_false, Nat.reduceAdd, Nat.reduceMul, Nat.reduceSub, Nat.reduceLeDiff, Nat.add_zero, Option.toList, List.cons_append, List.nil_append, i23_7, i23_8, i23_48, i23_49, Nat.le_refl, s_any]
  | succ c ih =>
    intro x y hx
    have hx8 : ¬ 8 ≤ x := by omega
    rw [i23_6]
    simp (disch := first | assumption | omega | decide) only [nI_add, n_mul, n_sub, n_le, n_lt, n_eq, n_ne1, n_0, m_bl_t, m_bl_f, if_true, if_false, Nat.reduceAdd, Nat.reduceMul, Nat.reduceSub, Nat.reduceLeDiff, Nat.add_zero, Option.toList, List.cons_append, List.nil_append, i23_7, i23_8, i23_9, i23_10, i23_11, i23_12, i23_13, i23_14, i23_15, i23_16, i23_17, i23_18, i23_19, i23_20, i23_21, i23_22, i23_23, i23_24, i23_25, i23_26, i23_27, i23_28, i23_29, i23_30, i23_31, i23_32, i23_33, i23_34, i23_35, i23_36, i23_37, i23_38, i23_39, i23_40, i23_41, i23_42, i23_43, i23_44, i23_45, i23_46, i23_47, rv_26_1, hx8, c9', b_0, ih (x + 1) _ (show x + 1 + c = 8 by omega)]
    by_cases h1 : I 2 (152 + 47 * u + x) = -1
    · by_cases h2 : I 2 (176 + 47 * u + x) = -1
      · simp [h1, h2, s_any, c_mh]
      · cases h3 : c_oth (I 2 (41 + x)) (nI u) <;> simp [h1, h2, h3, s_any, c_mh, n_eq, m_bl]
    · cases h3 : c_oth (I 2 (41 + x)) (nI u) <;> simp [h1, h3, s_any, c_mh, n_eq, m_bl]
theorem w23 (ht : 55 ≤ t) (hu : u < 3) : WP V 23 0 (m_loc 23 [.ref 26, .int (nI u)]) [] t I L (m_RR e a b) Q = Q (some (.int (m_bl (c_meets (I 2) u)))) t I L (m_RR e a b) := by
  rw [show m_loc 23 [.ref 26, .int (nI u)] = [.ref 26, .int (nI u), m_u, m_u, m_u] from rfl]
  simp (disch := first | assumption | omega | decide) only [nI_add, n_mul, n_sub, n_le, n_lt, n_eq, n_ne1, n_0, m_bl_t, m_bl_f, if_true, if_false, Nat.reduceAdd, Nat.reduceMul, Nat.reduceSub, Nat.reduceLeDiff, Nat.add_zero, Option.toList, List.cons_append, List.nil_append, i23_0, i23_1, i23_2, i23_3, i23_4, i23_5]
  exact w23_6 ht hu 8 0 _ rfl
theorem c23 (ht : 55 ≤ t) (hu : u < 3) : WPC V 23 [.ref 26, .int (nI u)] m n ls st t I L (m_RR e a b) Q = WP V m n ls ((.int (m_bl (c_meets (I 2) u))) :: st) t I L (m_RR e a b) Q := wpc_of (fun Q => w23 ht hu)
theorem w10_34 (ht : 55 ≤ t) (hu : u < 3) {k : Nat} (hk : k < 4) {y : Value} : WP V 10 34 [.ref 26, .int (nI u), .int (nI k), y] [] t (mC J f g nn ww) L (m_RR e a b) Q = Q (some (.int (nI 6))) t (mC J (c_beg f u k) g nn ww) L (m_RR e a b) := by
  have tail : ∀ (F : Nat → Int32), WP V 10 51 [.ref 26, .int (nI u), .int (nI k), y] [] t (mC J F g nn ww) L (m_RR e a b) Q = Q (some (.int (nI 6))) t (mC J (let f3 := m_sc (m_sc (m_sc (m_sc (m_sc (m_sc F (15 + u) (nI k)) 559 (F 559 + nI 1)) (18 + u) (F 559)) (145 + 47 * u) (F 0)) (146 + 47 * u) (F (6 + u) + nI 1)) (147 + 47 * u) (F (12 + u)); va_cpy f3 f3 (21 + 4 * u) (148 + 47 * u) 4) g nn ww) L (m_RR e a b) := by
    intro F
    simp (disch := first | assumption | omega | decide) only [nI_add, n_mul, n_sub, n_le, n_lt, n_eq, n_ne1, n_0, m_bl_t, m_bl_f, if_true, if_false, Nat.reduceAdd, Nat.reduceMul, Nat.reduceSub, Nat.reduceLeDiff, Nat.add_zero, Option.toList, List.cons_append, List.nil_append, i10_51, i10_52, i10_53, i10_54, i10_55, i10_56, i10_57, i10_58, i10_59, i10_60, i10_61, i10_62, i10_63, i10_64, i10_65, i10_66, i10_67, i10_68, i10_69, i10_70, i10_71, i10_72, i10_73, i10_74, i10_75, i10_76, i10_77, i10_78, i10_79, i10_80, i10_81, i10_82, i10_83, i10_84, i10_85, i10_86, i10_87, i10_88, i10_89, i10_90, i10_91, i10_92, i10_93, i10_94, i10_95, i10_96, i10_97, i10_98, i10_99, i10_100, i10_101, i10_102, i10_103, i10_104, i10_105, i10_106, i10_107, i10_108, i10_109, i10_110, i10_111, i10_112, i10_113, i10_114, i10_115, i10_116, i10_117, i10_118, i10_119, i10_120, i10_121, i10_122, i10_123, i10_124, i10_125, i10_126, i10_127, i10_128, rv_26_1, mC_2, mC_s2, m_sc_ne]
  have mid : ∀ (F : Nat → Int32), WP V 10 43 [.ref 26, .int (nI u), .int (nI k), y] [] t (mC J F g nn ww) L (m_RR e a b) Q = WP V 10 51 [.ref 26, .int (nI u), .int (nI k), y] [] t (mC J (if k = 3 then m_sc F 2 (nI u) else F) g nn ww) L (m_RR e a b) Q := by
    intro F
    simp (disch := first | assumption | omega | decide) only [nI_add, n_mul, n_sub, n_le, n_lt, n_eq, n_ne1, n_0, m_bl_t, m_bl_f, if_true, if_false, Nat.reduceAdd, Nat.reduceMul, Nat.reduceSub, Nat.reduceLeDiff, Nat.add_zero, Option.toList, List.cons_append, List.nil_append, i10_43, i10_44, i10_45, i10_46, i10_47, i10_48, i10_49, i10_50, rv_26_1, mC_2, mC_s2]
    by_cases h : k = 3 <;> simp [h]
  simp (disch := first | assumption | omega | decide) only [nI_add, n_mul, n_sub, n_le, n_lt, n_eq, n_ne1, n_0, m_bl_t, m_bl_f, if_true, if_false, Nat.reduceAdd, Nat.reduceMul, Nat.reduceSub, Nat.reduceLeDiff, Nat.add_zero, Option.toList, List.cons_append, List.nil_append, i10_34, i10_35, i10_36, i10_37, i10_38, i10_39, i10_40, i10_41, i10_42, rv_26_1, mC_2, mC_s2, c8, b_0]
  by_cases h : f 564 = nI 3
  · simp only [h, decide_true, Bool.true_eq_false, if_false]
    rw [mid, tail]
    simp only [c_beg, h, if_true]
  · simp only [h, decide_false, if_true]
    rw [mid, tail]
    simp only [c_beg, h, if_false]
theorem w10 (ht : 55 ≤ t) (hu : u < 3) {k : Nat} (hk : k < 4) : WP V 10 0 (m_loc 10 [.ref 26, .int (nI u), .int (nI k)]) [] t (mC J f g nn ww) L (m_RR e a b) Q = Q (some (.int (c_begin f u k).1)) t (mC J (c_begin f u k).2 g nn ww) L (m_RR e a b) := by
  rw [show m_loc 10 [.ref 26, .int (nI u), .int (nI k)] = [.ref 26, .int (nI u), .int (nI k), m_u] from rfl]
  simp (disch := first | assumption | omega | decide) only [nI_add, n_mul, n_sub, n_le, n_lt, n_eq, n_ne1, n_0, m_bl_t, m_bl_f, if_true, if_false, Nat.reduceAdd, Nat.reduceMul, Nat.reduceSub, Nat.reduceLeDiff, Nat.add_zero, Option.toList, List.cons_append, List.nil_append, i10_0, i10_1, i10_2, i10_3, i10_4, i10_5, i10_6, i10_7, i10_8, i10_9, i10_10, i10_11, i10_12, i10_13, i10_14, i10_15, i10_16, i10_17, i10_18, i10_19, i10_20, i10_21, i10_22, i10_23, i10_24, i10_25, i10_26, i10_27, i10_28, i10_29, i10_30, i10_31, i10_32, i10_33, rv_26_1, mC_2, c8, c9', b_0, w10_34]
  unfold c_begin
  by_cases h1 : f (15 + u) = -1
  · by_cases h2 : f 564 = nI 3
    · cases h3 : c_oth (f 1) (nI u)
      · by_cases h4 : k = 3
        · by_cases h5 : f 2 = -1 <;> simp [h1, h2, h3, h4, h5]
        · simp [h1, h2, h3, h4]
      · simp [h1, h2, h3]
    · by_cases h4 : k = 3
      · by_cases h5 : f 2 = -1 <;> simp [h1, h2, h4, h5]
      · simp [h1, h2, h4]
  · simp [h1]
theorem c10 (ht : 55 ≤ t) (hu : u < 3) {k : Nat} (hk : k < 4) : WPC V 10 [.ref 26, .int (nI u), .int (nI k)] m n ls st t (mC J f g nn ww) L (m_RR e a b) Q = WP V m n ls ((.int (c_begin f u k).1) :: st) t (mC J (c_begin f u k).2 g nn ww) L (m_RR e a b) Q := wpc_of (fun Q => w10 ht hu hk)
theorem w31 (ht : 55 ≤ t) (hu : u < 3) : WP V 31 0 (m_loc 31 [.ref 26, .int (nI u)]) [] t (mC J f g nn ww) L (m_RR e a b) Q = Q (some (.int (c_sleep f u).1)) t (mC J (c_sleep f u).2 g nn ww) L (m_RR e a b) := by
  rw [show m_loc 31 [.ref 26, .int (nI u)] = [.ref 26, .int (nI u), m_u] from rfl]
  simp (disch := first | assumption | omega | decide) only [nI_add, n_mul, n_sub, n_le, n_lt, n_eq, n_ne1, n_0, m_bl_t, m_bl_f, if_true, if_false, Nat.reduceAdd, Nat.reduceMul, Nat.reduceSub, Nat.reduceLeDiff, Nat.add_zero, Option.toList, List.cons_append, List.nil_append, i31_0, i31_1, i31_2, i31_3, i31_4, i31_5, i31_6, i31_7, i31_8, i31_9, i31_10, i31_11, i31_12, i31_13, i31_14, i31_15, i31_16, i31_17, i31_18, i31_19, i31_20, i31_21, i31_22, i31_23, i31_24, i31_25, i31_26, i31_27, i31_28, i31_29, i31_30, i31_31, i31_32, i31_33, i31_34, i31_35, i31_36, i31_37, i31_38, i31_39, i31_40, i31_41, i31_42, i31_43, i31_44, i31_45, rv_26_1, c24, mC_2, mC_s2, b_0, c197 (k := 2) (N := 581), c28, c29]
  unfold c_sleep
  cases h : c_stale f u <;> simp
theorem c31 (ht : 55 ≤ t) (hu : u < 3) : WPC V 31 [.ref 26, .int (nI u)] m n ls st t (mC J f g nn ww) L (m_RR e a b) Q = WP V m n ls ((.int (c_sleep f u).1) :: st) t (mC J (c_sleep f u).2 g nn ww) L (m_RR e a b) Q := wpc_of (fun Q => w31 ht hu)
theorem w32 (ht : 55 ≤ t) (hu : u < 3) : WP V 32 0 (m_loc 32 [.ref 26, .int (nI u)]) [] t (mC J f g nn ww) L (m_RR e a b) Q = Q (some (.int (c_wake f u).1)) t (mC J (c_wake f u).2 g nn ww) L (m_RR e a b) := by
  rw [show m_loc 32 [.ref 26, .int (nI u)] = [.ref 26, .int (nI u)] from rfl]
  simp (disch := first | assumption | omega | decide) only [nI_add, n_mul, n_sub, n_le, n_lt, n_eq, n_ne1, n_0, m_bl_t, m_bl_f, if_true, if_false, Nat.reduceAdd, Nat.reduceMul, Nat.reduceSub, Nat.reduceLeDiff, Nat.add_zero, Option.toList, List.cons_append, List.nil_append, i32_0, i32_1, i32_2, i32_3, i32_4, i32_5, i32_6, i32_7, i32_8, i32_9, i32_10, i32_11, i32_12, i32_13, i32_14, i32_15, i32_16, i32_17, i32_18, i32_19, i32_20, i32_21, i32_22, i32_23, i32_24, i32_25, i32_26, i32_27, i32_28, i32_29, i32_30, i32_31, i32_32, rv_26_1, c24, c8, c9', mC_2, mC_s2, b_0]
  unfold c_wake
  cases h : c_stale f u
  · simp
  · by_cases h2 : f 564 = nI 3
    · cases h3 : c_oth (f 1) (nI u) <;> simp [h2]
    · simp [h2]
theorem c32 (ht : 55 ≤ t) (hu : u < 3) : WPC V 32 [.ref 26, .int (nI u)] m n ls st t (mC J f g nn ww) L (m_RR e a b) Q = WP V m n ls ((.int (c_wake f u).1) :: st) t (mC J (c_wake f u).2 g nn ww) L (m_RR e a b) Q := wpc_of (fun Q => w32 ht hu)
end T23
