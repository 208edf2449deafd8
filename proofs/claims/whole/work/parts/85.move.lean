/-! keep and back: the model's move() -/
section RAF
variable {V : m_V} {m n : Nat} {ls st : List Value} {t N M : Nat} {I I' J : m_I} {R : m_R} {L L' : m_L} {e : Option Nat} {a b u x i s p c r j k : Nat} {Q : Option Value → Nat → m_I → m_L → m_R → Prop} {o : Int32} {w : Value}
def z_nu (I : m_I) : Nat → Int32 := m_sc (m_sc (m_sc (m_sc (m_sc (m_sc (I 52) 0 (I 27 1)) 1 (I 27 2)) 2 (I 27 3)) 3 (I 27 4)) 4 (I 27 17)) 5 (nI 0)
def z_fl (I : m_I) : Nat → Int32 := m_sc (m_sc (m_sc (m_sc (m_sc (I 27) 1 (I 52 0)) 2 (I 52 1)) 3 (I 52 2)) 4 (I 52 3)) 17 (I 52 4)
theorem w188_81 (ht : 55 ≤ t) : WP V 188 81 [.ref 27, .int o, w] [] t I L (m_RR e 28 b) Q = WP V 188 118 [.ref 27, .int o, .int (nI 0)] [] t (m_sc I 52 (z_nu I)) L (m_RR e 28 b) Q := by
  simp (disch := first | assumption | omega | decide) only [nI_add, n_mul, n_sub, n_le, n_lt, n_eq, n_ne1, n_0, m_bl_t, m_bl_f, if_true, if_false, Nat.reduceAdd, Nat.reduceMul, Nat.reduceSub, Nat.reduceLeDiff, Nat.reduceEqDiff, Nat.add_zero, Nat.add_sub_cancel, Option.toList, List.cons_append, List.nil_append, i188_81, i188_82, i188_83, i188_84, i188_85, i188_86, i188_87, i188_88, i188_89, i188_90, i188_91, i188_92, i188_93, i188_94, i188_95, i188_96, i188_97, i188_98, i188_99, i188_100, i188_101, i188_102, i188_103, i188_104, i188_105, i188_106, i188_107, i188_108, i188_109, i188_110, i188_111, i188_112, i188_113, i188_114, i188_115, i188_116, i188_117, rv_27_38, m_sc_ne, m_sc_self, s_scc]
  rfl
theorem w188_152 (ht : 55 ≤ t) {y : Int32} : WP V 188 152 [.ref 27, .int o, .int y] [] t I L (m_RR e 28 b) Q = WP V 188 184 [.ref 27, .int o, .int (nI 0)] [] t (m_sc I 27 (z_fl I)) L (m_RR e 28 b) Q := by
  simp (disch := first | assumption | omega | decide) only [nI_add, n_mul, n_sub, n_le, n_lt, n_eq, n_ne1, n_0, m_bl_t, m_bl_f, if_true, if_false, Nat.reduceAdd, Nat.reduceMul, Nat.reduceSub, Nat.reduceLeDiff, Nat.reduceEqDiff, Nat.add_zero, Nat.add_sub_cancel, Option.toList, List.cons_append, List.nil_append, i188_152, i188_153, i188_154, i188_155, i188_156, i188_157, i188_158, i188_159, i188_160, i188_161, i188_162, i188_163, i188_164, i188_165, i188_166, i188_167, i188_168, i188_169, i188_170, i188_171, i188_172, i188_173, i188_174, i188_175, i188_176, i188_177, i188_178, i188_179, i188_180, i188_181, i188_182, i188_183, rv_27_38, m_sc_ne, m_sc_self, s_scc]
  rfl
def z_or (h : Nat → Int32) : Nat → Nat → Int32 → Int32
  | _, 0, v => v
  | k, c + 1, v => z_or h (k + 1) c (v ||| (if h k = nI 0 then nI 0 else nI 1 <<< (nI k &&& 31)))
theorem w188_118 (ht : 55 ≤ t) : ∀ c x (J : m_I), x + c = 6 → WP V 188 118 [.ref 27, .int o, .int (nI x)] [] t J L (m_RR e 28 b) Q = WP V 188 140 [.ref 27, .int o, .int (nI 6)] [] t (m_sc J 52 (m_sc (J 52) 5 (z_or (J 34) x c (J 52 5)))) L (m_RR e 28 b) Q := by
  intro c
  induction c with
  | zero =>
    intro x J hx
    obtain rfl : x = 6 := by omega
    show _ = WP V 188 140 _ [] t (m_sc J 52 (m_sc (J 52) 5 (J 52 5))) L _ Q
    rw [s_sce, s_sce, i188_118]
    simp (disch := first | assumption | omega | decide) only [nI_add, n_mul, n_sub, n_le, n_lt, n_eq, n_ne1, n_0, m_bl_t, m_bl_f, if_true, if_false, Nat.reduceAdd, Nat.reduceMul, Nat.reduceSub, Nat.reduceLeDiff, Nat.reduceEqDiff, Nat.add_zero, Nat.add_sub_cancel, Option.toList, List.cons_append, List.nil_append, i188_119, i188_120, Nat.le_refl]
  | succ c ih =>
    intro x J hx
    have hx6 : ¬ 6 ≤ x := by omega
    have e1 := ih (x + 1) (m_sc J 52 (m_sc (J 52) 5 (J 52 5 ||| (if J 34 x = nI 0 then nI 0 else nI 1 <<< (nI x &&& 31))))) (by omega)
    rw [m_sc_self, m_sc_self, s_scc, s_scc, m_sc_ne (j := 34) (by omega)] at e1
    show _ = WP V 188 140 _ [] t (m_sc J 52 (m_sc (J 52) 5 (z_or (J 34) (x + 1) c (J 52 5 ||| (if J 34 x = nI 0 then nI 0 else nI 1 <<< (nI x &&& 31)))))) L _ Q
    rw [← e1, i188_118]
    by_cases h0 : J 34 x = nI 0
    · simp (disch := first | assumption | omega | decide) only [nI_add, n_mul, n_sub, n_le, n_lt, n_eq, n_ne1, n_0, m_bl_t, m_bl_f, if_true, if_false, Nat.reduceAdd, Nat.reduceMul, Nat.reduceSub, Nat.reduceLeDiff, Nat.reduceEqDiff, Nat.add_zero, Nat.add_sub_cancel, Option.toList, List.cons_append, List.nil_append, i188_119, i188_120, i188_121, i188_122, i188_123, i188_124, i188_125, i188_126, i188_127, i188_128, i188_129, i188_130, i188_135, i188_136, i188_137, i188_138, i188_139, rv_27_11, rv_27_38, hx6, h0]
    · simp (disch := first | assumption | omega | decide) only [nI_add, n_mul, n_sub, n_le, n_lt, n_eq, n_ne1, n_0, m_bl_t, m_bl_f, if_true, if_false, Nat.reduceAdd, Nat.reduceMul, Nat.reduceSub, Nat.reduceLeDiff, Nat.reduceEqDiff, Nat.add_zero, Nat.add_sub_cancel, Option.toList, List.cons_append, List.nil_append, i188_119, i188_120, i188_121, i188_122, i188_123, i188_124, i188_125, i188_126, i188_127, i188_128, i188_129, i188_130, i188_131, i188_132, i188_133, i188_134, i188_136, i188_137, i188_138, i188_139, rv_27_11, rv_27_38, hx6, h0]
def z_bt (v : Int32) (k : Nat) : Int32 := if v >>> (nI k &&& 31) &&& nI 1 = nI 1 then nI 1 else nI 0
def z_un (v : Int32) : Nat → Nat → (Nat → Int32) → Nat → Int32
  | _, 0, f => f
  | k, c + 1, f => z_un v (k + 1) c (m_sc f k (z_bt v k))
theorem z_un_o {v : Int32} : ∀ c x (f : Nat → Int32), (j < x ∨ x + c ≤ j) → z_un v x c f j = f j := by
  intro c
  induction c with
  | zero => intro x f _; rfl
  | succ c ih =>
    intro x f h
    show z_un v (x + 1) c (m_sc f x (z_bt v x)) j = f j
    rw [ih (x + 1) _ (by omega), m_sc_ne (by omega)]
theorem z_un_i {v : Int32} : ∀ c x (f : Nat → Int32), x ≤ j → j < x + c → z_un v x c f j = z_bt v j := by
  intro c
  induction c with
  | zero => intro x f h1 h2; omega
  | succ c ih =>
    intro x f h1 h2
    show z_un v (x + 1) c (m_sc f x (z_bt v x)) j = z_bt v j
    by_cases h : j = x
    · subst h
      rw [z_un_o c _ _ (by omega), m_sc_self]
    · exact ih (x + 1) _ (by omega) (by omega)
theorem w188_184 (ht : 55 ≤ t) : ∀ c x (J : m_I), x + c = 6 → WP V 188 184 [.ref 27, .int o, .int (nI x)] [] t J L (m_RR e 28 b) Q = Q none t (m_sc J 34 (z_un (J 52 5) x c (J 34))) L (m_RR e 28 b) := by
  intro c
  induction c with
  | zero =>
    intro x J hx
    obtain rfl : x = 6 := by omega
    show _ = Q none t (m_sc J 34 (J 34)) L _
    rw [s_sce, i188_184]
    simp (disch := first | assumption | omega | decide) only [nI_add, n_mul, n_sub, n_le, n_lt, n_eq, n_ne1, n_0, m_bl_t, m_bl_f, if_true, if_false, Nat.reduceAdd, Nat.reduceMul, Nat.reduceSub, Nat.reduceLeDiff, Nat.reduceEqDiff, Nat.add_zero, Nat.add_sub_cancel, Option.toList, List.cons_append, List.nil_append, i188_185, i188_186, i188_206, Nat.le_refl]
  | succ c ih =>
    intro x J hx
    have hx6 : ¬ 6 ≤ x := by omega
    have e1 := ih (x + 1) (m_sc J 34 (m_sc (J 34) x (z_bt (J 52 5) x))) (by omega)
    rw [m_sc_self, s_scc, m_sc_ne (j := 52) (by omega)] at e1
    show _ = Q none t (m_sc J 34 (z_un (J 52 5) (x + 1) c (m_sc (J 34) x (z_bt (J 52 5) x)))) L _
    have q1 : nI 1 &&& 1 = nI 1 := by decide
    have q0 : nI 0 &&& 1 = nI 0 := by decide
    rw [← e1, i188_184]
    unfold z_bt
    by_cases h0 : J 52 5 >>> (nI x &&& 31) &&& nI 1 = nI 1
    · rw [if_pos h0]
      simp (disch := first | assumption | omega | decide) only [nI_add, n_mul, n_sub, n_le, n_lt, n_eq, n_ne1, n_0, m_bl_t, m_bl_f, if_true, if_false, Nat.reduceAdd, Nat.reduceMul, Nat.reduceSub, Nat.reduceLeDiff, Nat.reduceEqDiff, Nat.add_zero, Nat.add_sub_cancel, Option.toList, List.cons_append, List.nil_append, i188_185, i188_186, i188_187, i188_188, i188_189, i188_190, i188_191, i188_192, i188_193, i188_194, i188_195, i188_196, i188_197, i188_198, i188_199, rv_27_11, rv_27_38, hx6]
      rw [if_pos h0]
      simp (disch := first | assumption | omega | decide) only [nI_add, n_mul, n_sub, n_le, n_lt, n_eq, n_ne1, n_0, m_bl_t, m_bl_f, if_true, if_false, Nat.reduceAdd, Nat.reduceMul, Nat.reduceSub, Nat.reduceLeDiff, Nat.reduceEqDiff, Nat.add_zero, Nat.add_sub_cancel, Option.toList, List.cons_append, List.nil_append, i188_200, i188_201, i188_203, i188_204, i188_205, q1]
    · rw [if_neg h0]
      simp (disch := first | assumption | omega | decide) only [nI_add, n_mul, n_sub, n_le, n_lt, n_eq, n_ne1, n_0, m_bl_t, m_bl_f, if_true, if_false, Nat.reduceAdd, Nat.reduceMul, Nat.reduceSub, Nat.reduceLeDiff, Nat.reduceEqDiff, Nat.add_zero, Nat.add_sub_cancel, Option.toList, List.cons_append, List.nil_append, i188_185, i188_186, i188_187, i188_188, i188_189, i188_190, i188_191, i188_192, i188_193, i188_194, i188_195, i188_196, i188_197, i188_198, i188_199, rv_27_11, rv_27_38, hx6]
      rw [if_neg h0]
      simp (disch := first | assumption | omega | decide) only [nI_add, n_mul, n_sub, n_le, n_lt, n_eq, n_ne1, n_0, m_bl_t, m_bl_f, if_true, if_false, Nat.reduceAdd, Nat.reduceMul, Nat.reduceSub, Nat.reduceLeDiff, Nat.reduceEqDiff, Nat.add_zero, Nat.add_sub_cancel, Option.toList, List.cons_append, List.nil_append, i188_202, i188_203, i188_204, i188_205, q0]
theorem w188_3k (ht : 55 ≤ t) (h : I 27 41 = nI 0) : WP V 188 3 [.ref 27, .int (nI 1), w] [] t I L (m_RR e 28 b) Q = WP V 188 9 [.ref 27, .int (nI 1), w] [] t (z_mv I 29 0 0 6) L (m_RR e 28 b) Q := by
  have hr : m_ar 29 2 6 = true := by decide
  simp (disch := first | assumption | omega | decide) only [nI_add, n_mul, n_sub, n_le, n_lt, n_eq, n_ne1, n_0, m_bl_t, m_bl_f, if_true, if_false, Nat.reduceAdd, Nat.reduceMul, Nat.reduceSub, Nat.reduceLeDiff, Nat.reduceEqDiff, Nat.add_zero, Nat.add_sub_cancel, Option.toList, List.cons_append, List.nil_append, i188_3, i188_4, i188_5, i188_6, i188_7, i188_8, rv_27_6, c189k (N := 6) (p := 0) ht hr]
theorem w188_9k (ht : 55 ≤ t) (h : I 27 41 = nI 6) : WP V 188 9 [.ref 27, .int (nI 1), w] [] t I L (m_RR e 28 b) Q = WP V 188 15 [.ref 27, .int (nI 1), w] [] t (z_mv I 30 6 0 240) L (m_RR e 28 b) Q := by
  have hr : m_ar 30 2 240 = true := by decide
  simp (disch := first | assumption | omega | decide) only [nI_add, n_mul, n_sub, n_le, n_lt, n_eq, n_ne1, n_0, m_bl_t, m_bl_f, if_true, if_false, Nat.reduceAdd, Nat.reduceMul, Nat.reduceSub, Nat.reduceLeDiff, Nat.reduceEqDiff, Nat.add_zero, Nat.add_sub_cancel, Option.toList, List.cons_append, List.nil_append, i188_9, i188_10, i188_11, i188_12, i188_13, i188_14, rv_27_7, c189k (N := 240) (p := 6) ht hr]
theorem w188_15k (ht : 55 ≤ t) (h : I 27 41 = nI 246) : WP V 188 15 [.ref 27, .int (nI 1), w] [] t I L (m_RR e 28 b) Q = WP V 188 21 [.ref 27, .int (nI 1), w] [] t (z_mv I 31 246 0 240) L (m_RR e 28 b) Q := by
  have hr : m_ar 31 2 240 = true := by decide
  simp (disch := first | assumption | omega | decide) only [nI_add, n_mul, n_sub, n_le, n_lt, n_eq, n_ne1, n_0, m_bl_t, m_bl_f, if_true, if_false, Nat.reduceAdd, Nat.reduceMul, Nat.reduceSub, Nat.reduceLeDiff, Nat.reduceEqDiff, Nat.add_zero, Nat.add_sub_cancel, Option.toList, List.cons_append, List.nil_append, i188_15, i188_16, i188_17, i188_18, i188_19, i188_20, rv_27_8, c189k (N := 240) (p := 246) ht hr]
theorem w188_21k (ht : 55 ≤ t) (h : I 27 41 = nI 486) : WP V 188 21 [.ref 27, .int (nI 1), w] [] t I L (m_RR e 28 b) Q = WP V 188 27 [.ref 27, .int (nI 1), w] [] t (z_mv I 32 486 0 240) L (m_RR e 28 b) Q := by
  have hr : m_ar 32 2 240 = true := by decide
  simp (disch := first | assumption | omega | decide) only [nI_add, n_mul, n_sub, n_le, n_lt, n_eq, n_ne1, n_0, m_bl_t, m_bl_f, if_true, if_false, Nat.reduceAdd, Nat.reduceMul, Nat.reduceSub, Nat.reduceLeDiff, Nat.reduceEqDiff, Nat.add_zero, Nat.add_sub_cancel, Option.toList, List.cons_append, List.nil_append, i188_21, i188_22, i188_23, i188_24, i188_25, i188_26, rv_27_9, c189k (N := 240) (p := 486) ht hr]
theorem w188_27k (ht : 55 ≤ t) (h : I 27 41 = nI 726) : WP V 188 27 [.ref 27, .int (nI 1), w] [] t I L (m_RR e 28 b) Q = WP V 188 33 [.ref 27, .int (nI 1), w] [] t (z_mv I 33 726 0 240) L (m_RR e 28 b) Q := by
  have hr : m_ar 33 2 240 = true := by decide
  simp (disch := first | assumption | omega | decide) only [nI_add, n_mul, n_sub, n_le, n_lt, n_eq, n_ne1, n_0, m_bl_t, m_bl_f, if_true, if_false, Nat.reduceAdd, Nat.reduceMul, Nat.reduceSub, Nat.reduceLeDiff, Nat.reduceEqDiff, Nat.add_zero, Nat.add_sub_cancel, Option.toList, List.cons_append, List.nil_append, i188_27, i188_28, i188_29, i188_30, i188_31, i188_32, rv_27_10, c189k (N := 240) (p := 726) ht hr]
theorem w188_33k (ht : 55 ≤ t) (h : I 27 41 = nI 966) : WP V 188 33 [.ref 27, .int (nI 1), w] [] t I L (m_RR e 28 b) Q = WP V 188 39 [.ref 27, .int (nI 1), w] [] t (z_mv I 35 966 0 6) L (m_RR e 28 b) Q := by
  have hr : m_ar 35 2 6 = true := by decide
  simp (disch := first | assumption | omega | decide) only [nI_add, n_mul, n_sub, n_le, n_lt, n_eq, n_ne1, n_0, m_bl_t, m_bl_f, if_true, if_false, Nat.reduceAdd, Nat.reduceMul, Nat.reduceSub, Nat.reduceLeDiff, Nat.reduceEqDiff, Nat.add_zero, Nat.add_sub_cancel, Option.toList, List.cons_append, List.nil_append, i188_33, i188_34, i188_35, i188_36, i188_37, i188_38, rv_27_12, c189k (N := 6) (p := 966) ht hr]
theorem w188_39k (ht : 55 ≤ t) (h : I 27 41 = nI 972) : WP V 188 39 [.ref 27, .int (nI 1), w] [] t I L (m_RR e 28 b) Q = WP V 188 45 [.ref 27, .int (nI 1), w] [] t (z_mv I 36 972 0 6) L (m_RR e 28 b) Q := by
  have hr : m_ar 36 2 6 = true := by decide
  simp (disch := first | assumption | omega | decide) only [nI_add, n_mul, n_sub, n_le, n_lt, n_eq, n_ne1, n_0, m_bl_t, m_bl_f, if_true, if_false, Nat.reduceAdd, Nat.reduceMul, Nat.reduceSub, Nat.reduceLeDiff, Nat.reduceEqDiff, Nat.add_zero, Nat.add_sub_cancel, Option.toList, List.cons_append, List.nil_append, i188_39, i188_40, i188_41, i188_42, i188_43, i188_44, rv_27_13, c189k (N := 6) (p := 972) ht hr]
theorem w188_45k (ht : 55 ≤ t) (h : I 27 41 = nI 978) : WP V 188 45 [.ref 27, .int (nI 1), w] [] t I L (m_RR e 28 b) Q = WP V 188 51 [.ref 27, .int (nI 1), w] [] t (z_mv I 38 978 0 8) L (m_RR e 28 b) Q := by
  have hr : m_ar 38 2 8 = true := by decide
  simp (disch := first | assumption | omega | decide) only [nI_add, n_mul, n_sub, n_le, n_lt, n_eq, n_ne1, n_0, m_bl_t, m_bl_f, if_true, if_false, Nat.reduceAdd, Nat.reduceMul, Nat.reduceSub, Nat.reduceLeDiff, Nat.reduceEqDiff, Nat.add_zero, Nat.add_sub_cancel, Option.toList, List.cons_append, List.nil_append, i188_45, i188_46, i188_47, i188_48, i188_49, i188_50, rv_27_15, c189k (N := 8) (p := 978) ht hr]
theorem w188_51k (ht : 55 ≤ t) (h : I 27 41 = nI 986) : WP V 188 51 [.ref 27, .int (nI 1), w] [] t I L (m_RR e 28 b) Q = WP V 188 57 [.ref 27, .int (nI 1), w] [] t (z_mv I 39 986 0 8) L (m_RR e 28 b) Q := by
  have hr : m_ar 39 2 8 = true := by decide
  simp (disch := first | assumption | omega | decide) only [nI_add, n_mul, n_sub, n_le, n_lt, n_eq, n_ne1, n_0, m_bl_t, m_bl_f, if_true, if_false, Nat.reduceAdd, Nat.reduceMul, Nat.reduceSub, Nat.reduceLeDiff, Nat.reduceEqDiff, Nat.add_zero, Nat.add_sub_cancel, Option.toList, List.cons_append, List.nil_append, i188_51, i188_52, i188_53, i188_54, i188_55, i188_56, rv_27_16, c189k (N := 8) (p := 986) ht hr]
theorem w188_57k (ht : 55 ≤ t) (h : I 27 41 = nI 994) : WP V 188 57 [.ref 27, .int (nI 1), w] [] t I L (m_RR e 28 b) Q = WP V 188 63 [.ref 27, .int (nI 1), w] [] t (z_mv I 40 994 0 60) L (m_RR e 28 b) Q := by
  have hr : m_ar 40 2 60 = true := by decide
  simp (disch := first | assumption | omega | decide) only [nI_add, n_mul, n_sub, n_le, n_lt, n_eq, n_ne1, n_0, m_bl_t, m_bl_f, if_true, if_false, Nat.reduceAdd, Nat.reduceMul, Nat.reduceSub, Nat.reduceLeDiff, Nat.reduceEqDiff, Nat.add_zero, Nat.add_sub_cancel, Option.toList, List.cons_append, List.nil_append, i188_57, i188_58, i188_59, i188_60, i188_61, i188_62, rv_27_18, c189k (N := 60) (p := 994) ht hr]
theorem w188_63k (ht : 55 ≤ t) (h : I 27 41 = nI 1054) : WP V 188 63 [.ref 27, .int (nI 1), w] [] t I L (m_RR e 28 b) Q = WP V 188 69 [.ref 27, .int (nI 1), w] [] t (z_mv I 41 1054 0 60) L (m_RR e 28 b) Q := by
  have hr : m_ar 41 2 60 = true := by decide
  simp (disch := first | assumption | omega | decide) only [nI_add, n_mul, n_sub, n_le, n_lt, n_eq, n_ne1, n_0, m_bl_t, m_bl_f, if_true, if_false, Nat.reduceAdd, Nat.reduceMul, Nat.reduceSub, Nat.reduceLeDiff, Nat.reduceEqDiff, Nat.add_zero, Nat.add_sub_cancel, Option.toList, List.cons_append, List.nil_append, i188_63, i188_64, i188_65, i188_66, i188_67, i188_68, rv_27_19, c189k (N := 60) (p := 1054) ht hr]
theorem w188_69k (ht : 55 ≤ t) (h : I 27 41 = nI 1114) : WP V 188 69 [.ref 27, .int (nI 1), w] [] t I L (m_RR e 28 b) Q = WP V 188 75 [.ref 27, .int (nI 1), w] [] t (z_mv I 42 1114 0 60) L (m_RR e 28 b) Q := by
  have hr : m_ar 42 2 60 = true := by decide
  simp (disch := first | assumption | omega | decide) only [nI_add, n_mul, n_sub, n_le, n_lt, n_eq, n_ne1, n_0, m_bl_t, m_bl_f, if_true, if_false, Nat.reduceAdd, Nat.reduceMul, Nat.reduceSub, Nat.reduceLeDiff, Nat.reduceEqDiff, Nat.add_zero, Nat.add_sub_cancel, Option.toList, List.cons_append, List.nil_append, i188_69, i188_70, i188_71, i188_72, i188_73, i188_74, rv_27_20, c189k (N := 60) (p := 1114) ht hr]
theorem w188_75k (ht : 55 ≤ t) (h : I 27 41 = nI 1174) : WP V 188 75 [.ref 27, .int (nI 1), w] [] t I L (m_RR e 28 b) Q = WP V 188 81 [.ref 27, .int (nI 1), w] [] t (z_mv I 43 1174 0 1920) L (m_RR e 28 b) Q := by
  have hr : m_ar 43 2 1920 = true := by decide
  simp (disch := first | assumption | omega | decide) only [nI_add, n_mul, n_sub, n_le, n_lt, n_eq, n_ne1, n_0, m_bl_t, m_bl_f, if_true, if_false, Nat.reduceAdd, Nat.reduceMul, Nat.reduceSub, Nat.reduceLeDiff, Nat.reduceEqDiff, Nat.add_zero, Nat.add_sub_cancel, Option.toList, List.cons_append, List.nil_append, i188_75, i188_76, i188_77, i188_78, i188_79, i188_80, rv_27_21, c189k (N := 1920) (p := 1174) ht hr]
theorem w188_140k (ht : 55 ≤ t) (h : I 27 41 = nI 3094) : WP V 188 140 [.ref 27, .int (nI 1), w] [] t I L (m_RR e 28 b) Q = WP V 188 146 [.ref 27, .int (nI 1), w] [] t (z_mv I 52 3094 0 6) L (m_RR e 28 b) Q := by
  have hr : m_ar 52 2 6 = true := by decide
  have hA := aa28
  simp (disch := first | assumption | omega | decide) only [nI_add, n_mul, n_sub, n_le, n_lt, n_eq, n_ne1, n_0, m_bl_t, m_bl_f, if_true, if_false, Nat.reduceAdd, Nat.reduceMul, Nat.reduceSub, Nat.reduceLeDiff, Nat.reduceEqDiff, Nat.add_zero, Nat.add_sub_cancel, Option.toList, List.cons_append, List.nil_append, i188_140, i188_141, i188_142, i188_143, i188_144, i188_145, rv_27_38, c189k (N := 6) (p := 3094) ht hr]
theorem w188_146k (ht : 55 ≤ t) (h : I 27 41 = nI 3100) : WP V 188 146 [.ref 27, .int (nI 1), w] [] t I L (m_RR e 28 b) Q = WP V 188 152 [.ref 27, .int (nI 1), w] [] t (z_mv I 28 3100 0 612) L (m_RR e 28 b) Q := by
  have hr : m_ar 28 2 612 = true := by decide
  have hA := aa28
  simp (disch := first | assumption | omega | decide) only [nI_add, n_mul, n_sub, n_le, n_lt, n_eq, n_ne1, n_0, m_bl_t, m_bl_f, if_true, if_false, Nat.reduceAdd, Nat.reduceMul, Nat.reduceSub, Nat.reduceLeDiff, Nat.reduceEqDiff, Nat.add_zero, Nat.add_sub_cancel, Option.toList, List.cons_append, List.nil_append, i188_146, i188_147, i188_148, i188_149, i188_150, i188_151, rv_27_0, c189k (N := 612) (p := 3100) ht hr]
def z_m13 (I : m_I) : m_I := (z_mv (z_mv (z_mv (z_mv (z_mv (z_mv (z_mv (z_mv (z_mv (z_mv (z_mv (z_mv (z_mv I 29 0 0 6) 30 6 0 240) 31 246 0 240) 32 486 0 240) 33 726 0 240) 35 966 0 6) 36 972 0 6) 38 978 0 8) 39 986 0 8) 40 994 0 60) 41 1054 0 60) 42 1114 0 60) 43 1174 0 1920)
theorem w188_3kk (ht : 55 ≤ t) (h : I 27 41 = nI 0) : WP V 188 3 [.ref 27, .int (nI 1), w] [] t I L (m_RR e 28 b) Q = WP V 188 81 [.ref 27, .int (nI 1), w] [] t (z_m13 I) L (m_RR e 28 b) Q := by
  unfold z_m13
  rw [w188_3k ht h, w188_9k ht z_mv_41, w188_15k ht z_mv_41, w188_21k ht z_mv_41, w188_27k ht z_mv_41, w188_33k ht z_mv_41, w188_39k ht z_mv_41, w188_45k ht z_mv_41, w188_51k ht z_mv_41, w188_57k ht z_mv_41, w188_63k ht z_mv_41, w188_69k ht z_mv_41, w188_75k ht z_mv_41]
def z_m2 (I : m_I) : m_I := m_sc (m_sc I 52 (z_nu I)) 52 (m_sc (z_nu I) 5 (z_or (I 34) 0 6 (nI 0)))
def z_m3 (I : m_I) : m_I := z_mv (z_mv I 52 3094 0 6) 28 3100 0 612
def z_m4 (I : m_I) : m_I := m_sc (m_sc I 27 (z_fl I)) 34 (z_un (I 52 5) 0 6 (I 34))
def z_M (I : m_I) : m_I := z_m2 (z_m13 (m_sc I 27 (m_sc (I 27) 41 (nI 0))))
def z_mov (I : m_I) : m_I := z_m4 (z_m3 (z_M I))
theorem z_m13_41 : z_m13 I 27 41 = nI 3094 := z_mv_41
theorem z_m2_41 : z_m2 I 27 41 = I 27 41 := rfl
theorem w188k (ht : 55 ≤ t) : WP V 188 0 (m_loc 188 [.ref 27, .int (nI 1)]) [] t I L (m_RR e 28 b) Q = Q none t (z_mov I) L (m_RR e 28 b) := by
  rw [show m_loc 188 [.ref 27, .int (nI 1)] = [.ref 27, .int (nI 1), m_u] from rfl]
  have h41 : m_sc I 27 (m_sc (I 27) 41 (nI 0)) 27 41 = nI 0 := by rw [m_sc_self, m_sc_self]
  simp (disch := first | assumption | omega | decide) only [nI_add, n_mul, n_sub, n_le, n_lt, n_eq, n_ne1, n_0, m_bl_t, m_bl_f, if_true, if_false, Nat.reduceAdd, Nat.reduceMul, Nat.reduceSub, Nat.reduceLeDiff, Nat.reduceEqDiff, Nat.add_zero, Nat.add_sub_cancel, Option.toList, List.cons_append, List.nil_append, i188_0, i188_1, i188_2]
  obtain ⟨J, hJ⟩ : ∃ J, J = z_m13 (m_sc I 27 (m_sc (I 27) 41 (nI 0))) := ⟨_, rfl⟩
  have hJ41 : J 27 41 = nI 3094 := by rw [hJ]; exact z_m13_41
  unfold z_mov z_M
  rw [w188_3kk ht h41, ← hJ, w188_81 ht, w188_118 ht 6 0 _ rfl]
  have e2 : m_sc (m_sc J 52 (z_nu J)) 52 (m_sc (m_sc J 52 (z_nu J) 52) 5 (z_or (m_sc J 52 (z_nu J) 34) 0 6 (m_sc J 52 (z_nu J) 52 5))) = z_m2 J := by
    unfold z_m2
    rw [m_sc_self, m_sc_ne (j := 34) (by omega), show z_nu J 5 = nI 0 from m_sc_self]
  have h2 : z_m2 J 27 41 = nI 3094 := z_m2_41.trans hJ41
  rw [e2, w188_140k ht h2, w188_146k ht z_mv_41, w188_152 ht, w188_184 ht 6 0 _ rfl]
  rfl
theorem c188k (ht : 55 ≤ t) : WPC V 188 [.ref 27, .int (nI 1)] m n ls st t I L (m_RR e 28 b) Q = WP V m n ls st t (z_mov I) L (m_RR e 28 b) Q := wpc_of (fun Q => w188k ht)
theorem w188_3b (ht : 55 ≤ t) (h : I 27 41 = nI 0) : WP V 188 3 [.ref 27, .int (nI 0), w] [] t I L (m_RR e 28 b) Q = WP V 188 9 [.ref 27, .int (nI 0), w] [] t (y_mv I 29 0 0 6) L (m_RR e 28 b) Q := by
  have hr : m_ar 29 2 6 = true := by decide
  simp (disch := first | assumption | omega | decide) only [nI_add, n_mul, n_sub, n_le, n_lt, n_eq, n_ne1, n_0, m_bl_t, m_bl_f, if_true, if_false, Nat.reduceAdd, Nat.reduceMul, Nat.reduceSub, Nat.reduceLeDiff, Nat.reduceEqDiff, Nat.add_zero, Nat.add_sub_cancel, Option.toList, List.cons_append, List.nil_append, i188_3, i188_4, i188_5, i188_6, i188_7, i188_8, rv_27_6, c189b (N := 6) (p := 0) ht hr]
theorem w188_9b (ht : 55 ≤ t) (h : I 27 41 = nI 6) : WP V 188 9 [.ref 27, .int (nI 0), w] [] t I L (m_RR e 28 b) Q = WP V 188 15 [.ref 27, .int (nI 0), w] [] t (y_mv I 30 6 0 240) L (m_RR e 28 b) Q := by
  have hr : m_ar 30 2 240 = true := by decide
  simp (disch := first | assumption | omega | decide) only [nI_add, n_mul, n_sub, n_le, n_lt, n_eq, n_ne1, n_0, m_bl_t, m_bl_f, if_true, if_false, Nat.reduceAdd, Nat.reduceMul, Nat.reduceSub, Nat.reduceLeDiff, Nat.reduceEqDiff, Nat.add_zero, Nat.add_sub_cancel, Option.toList, List.cons_append, List.nil_append, i188_9, i188_10, i188_11, i188_12, i188_13, i188_14, rv_27_7, c189b (N := 240) (p := 6) ht hr]
theorem w188_15b (ht : 55 ≤ t) (h : I 27 41 = nI 246) : WP V 188 15 [.ref 27, .int (nI 0), w] [] t I L (m_RR e 28 b) Q = WP V 188 21 [.ref 27, .int (nI 0), w] [] t (y_mv I 31 246 0 240) L (m_RR e 28 b) Q := by
  have hr : m_ar 31 2 240 = true := by decide
  simp (disch := first | assumption | omega | decide) only [nI_add, n_mul, n_sub, n_le, n_lt, n_eq, n_ne1, n_0, m_bl_t, m_bl_f, if_true, if_false, Nat.reduceAdd, Nat.reduceMul, Nat.reduceSub, Nat.reduceLeDiff, Nat.reduceEqDiff, Nat.add_zero, Nat.add_sub_cancel, Option.toList, List.cons_append, List.nil_append, i188_15, i188_16, i188_17, i188_18, i188_19, i188_20, rv_27_8, c189b (N := 240) (p := 246) ht hr]
theorem w188_21b (ht : 55 ≤ t) (h : I 27 41 = nI 486) : WP V 188 21 [.ref 27, .int (nI 0), w] [] t I L (m_RR e 28 b) Q = WP V 188 27 [.ref 27, .int (nI 0), w] [] t (y_mv I 32 486 0 240) L (m_RR e 28 b) Q := by
  have hr : m_ar 32 2 240 = true := by decide
  simp (disch := first | assumption | omega | decide) only [nI_add, n_mul, n_sub, n_le, n_lt, n_eq, n_ne1, n_0, m_bl_t, m_bl_f, if_true, if_false, Nat.reduceAdd, Nat.reduceMul, Nat.reduceSub, Nat.reduceLeDiff, Nat.reduceEqDiff, Nat.add_zero, Nat.add_sub_cancel, Option.toList, List.cons_append, List.nil_append, i188_21, i188_22, i188_23, i188_24, i188_25, i188_26, rv_27_9, c189b (N := 240) (p := 486) ht hr]
theorem w188_27b (ht : 55 ≤ t) (h : I 27 41 = nI 726) : WP V 188 27 [.ref 27, .int (nI 0), w] [] t I L (m_RR e 28 b) Q = WP V 188 33 [.ref 27, .int (nI 0), w] [] t (y_mv I 33 726 0 240) L (m_RR e 28 b) Q := by
  have hr : m_ar 33 2 240 = true := by decide
  simp (disch := first | assumption | omega | decide) only [nI_add, n_mul, n_sub, n_le, n_lt, n_eq, n_ne1, n_0, m_bl_t, m_bl_f, if_true, if_false, Nat.reduceAdd, Nat.reduceMul, Nat.reduceSub, Nat.reduceLeDiff, Nat.reduceEqDiff, Nat.add_zero, Nat.add_sub_cancel, Option.toList, List.cons_append, List.nil_append, i188_27, i188_28, i188_29, i188_30, i188_31, i188_32, rv_27_10, c189b (N := 240) (p := 726) ht hr]
theorem w188_33b (ht : 55 ≤ t) (h : I 27 41 = nI 966) : WP V 188 33 [.ref 27, .int (nI 0), w] [] t I L (m_RR e 28 b) Q = WP V 188 39 [.ref 27, .int (nI 0), w] [] t (y_mv I 35 966 0 6) L (m_RR e 28 b) Q := by
  have hr : m_ar 35 2 6 = true := by decide
  simp (disch := first | assumption | omega | decide) only [nI_add, n_mul, n_sub, n_le, n_lt, n_eq, n_ne1, n_0, m_bl_t, m_bl_f, if_true, if_false, Nat.reduceAdd, Nat.reduceMul, Nat.reduceSub, Nat.reduceLeDiff, Nat.reduceEqDiff, Nat.add_zero, Nat.add_sub_cancel, Option.toList, List.cons_append, List.nil_append, i188_33, i188_34, i188_35, i188_36, i188_37, i188_38, rv_27_12, c189b (N := 6) (p := 966) ht hr]
theorem w188_39b (ht : 55 ≤ t) (h : I 27 41 = nI 972) : WP V 188 39 [.ref 27, .int (nI 0), w] [] t I L (m_RR e 28 b) Q = WP V 188 45 [.ref 27, .int (nI 0), w] [] t (y_mv I 36 972 0 6) L (m_RR e 28 b) Q := by
  have hr : m_ar 36 2 6 = true := by decide
  simp (disch := first | assumption | omega | decide) only [nI_add, n_mul, n_sub, n_le, n_lt, n_eq, n_ne1, n_0, m_bl_t, m_bl_f, if_true, if_false, Nat.reduceAdd, Nat.reduceMul, Nat.reduceSub, Nat.reduceLeDiff, Nat.reduceEqDiff, Nat.add_zero, Nat.add_sub_cancel, Option.toList, List.cons_append, List.nil_append, i188_39, i188_40, i188_41, i188_42, i188_43, i188_44, rv_27_13, c189b (N := 6) (p := 972) ht hr]
theorem w188_45b (ht : 55 ≤ t) (h : I 27 41 = nI 978) : WP V 188 45 [.ref 27, .int (nI 0), w] [] t I L (m_RR e 28 b) Q = WP V 188 51 [.ref 27, .int (nI 0), w] [] t (y_mv I 38 978 0 8) L (m_RR e 28 b) Q := by
  have hr : m_ar 38 2 8 = true := by decide
  simp (disch := first | assumption | omega | decide) only [nI_add, n_mul, n_sub, n_le, n_lt, n_eq, n_ne1, n_0, m_bl_t, m_bl_f, if_true, if_false, Nat.reduceAdd, Nat.reduceMul, Nat.reduceSub, Nat.reduceLeDiff, Nat.reduceEqDiff, Nat.add_zero, Nat.add_sub_cancel, Option.toList, List.cons_append, List.nil_append, i188_45, i188_46, i188_47, i188_48, i188_49, i188_50, rv_27_15, c189b (N := 8) (p := 978) ht hr]
theorem w188_51b (ht : 55 ≤ t) (h : I 27 41 = nI 986) : WP V 188 51 [.ref 27, .int (nI 0), w] [] t I L (m_RR e 28 b) Q = WP V 188 57 [.ref 27, .int (nI 0), w] [] t (y_mv I 39 986 0 8) L (m_RR e 28 b) Q := by
  have hr : m_ar 39 2 8 = true := by decide
  simp (disch := first | assumption | omega | decide) only [nI_add, n_mul, n_sub, n_le, n_lt, n_eq, n_ne1, n_0, m_bl_t, m_bl_f, if_true, if_false, Nat.reduceAdd, Nat.reduceMul, Nat.reduceSub, Nat.reduceLeDiff, Nat.reduceEqDiff, Nat.add_zero, Nat.add_sub_cancel, Option.toList, List.cons_append, List.nil_append, i188_51, i188_52, i188_53, i188_54, i188_55, i188_56, rv_27_16, c189b (N := 8) (p := 986) ht hr]
theorem w188_57b (ht : 55 ≤ t) (h : I 27 41 = nI 994) : WP V 188 57 [.ref 27, .int (nI 0), w] [] t I L (m_RR e 28 b) Q = WP V 188 63 [.ref 27, .int (nI 0), w] [] t (y_mv I 40 994 0 60) L (m_RR e 28 b) Q := by
  have hr : m_ar 40 2 60 = true := by decide
  simp (disch := first | assumption | omega | decide) only [nI_add, n_mul, n_sub, n_le, n_lt, n_eq, n_ne1, n_0, m_bl_t, m_bl_f, if_true, if_false, Nat.reduceAdd, Nat.reduceMul, Nat.reduceSub, Nat.reduceLeDiff, Nat.reduceEqDiff, Nat.add_zero, Nat.add_sub_cancel, Option.toList, List.cons_append, List.nil_append, i188_57, i188_58, i188_59, i188_60, i188_61, i188_62, rv_27_18, c189b (N := 60) (p := 994) ht hr]
theorem w188_63b (ht : 55 ≤ t) (h : I 27 41 = nI 1054) : WP V 188 63 [.ref 27, .int (nI 0), w] [] t I L (m_RR e 28 b) Q = WP V 188 69 [.ref 27, .int (nI 0), w] [] t (y_mv I 41 1054 0 60) L (m_RR e 28 b) Q := by
  have hr : m_ar 41 2 60 = true := by decide
  simp (disch := first | assumption | omega | decide) only [nI_add, n_mul, n_sub, n_le, n_lt, n_eq, n_ne1, n_0, m_bl_t, m_bl_f, if_true, if_false, Nat.reduceAdd, Nat.reduceMul, Nat.reduceSub, Nat.reduceLeDiff, Nat.reduceEqDiff, Nat.add_zero, Nat.add_sub_cancel, Option.toList, List.cons_append, List.nil_append, i188_63, i188_64, i188_65, i188_66, i188_67, i188_68, rv_27_19, c189b (N := 60) (p := 1054) ht hr]
theorem w188_69b (ht : 55 ≤ t) (h : I 27 41 = nI 1114) : WP V 188 69 [.ref 27, .int (nI 0), w] [] t I L (m_RR e 28 b) Q = WP V 188 75 [.ref 27, .int (nI 0), w] [] t (y_mv I 42 1114 0 60) L (m_RR e 28 b) Q := by
  have hr : m_ar 42 2 60 = true := by decide
  simp (disch := first | assumption | omega | decide) only [nI_add, n_mul, n_sub, n_le, n_lt, n_eq, n_ne1, n_0, m_bl_t, m_bl_f, if_true, if_false, Nat.reduceAdd, Nat.reduceMul, Nat.reduceSub, Nat.reduceLeDiff, Nat.reduceEqDiff, Nat.add_zero, Nat.add_sub_cancel, Option.toList, List.cons_append, List.nil_append, i188_69, i188_70, i188_71, i188_72, i188_73, i188_74, rv_27_20, c189b (N := 60) (p := 1114) ht hr]
theorem w188_75b (ht : 55 ≤ t) (h : I 27 41 = nI 1174) : WP V 188 75 [.ref 27, .int (nI 0), w] [] t I L (m_RR e 28 b) Q = WP V 188 81 [.ref 27, .int (nI 0), w] [] t (y_mv I 43 1174 0 1920) L (m_RR e 28 b) Q := by
  have hr : m_ar 43 2 1920 = true := by decide
  simp (disch := first | assumption | omega | decide) only [nI_add, n_mul, n_sub, n_le, n_lt, n_eq, n_ne1, n_0, m_bl_t, m_bl_f, if_true, if_false, Nat.reduceAdd, Nat.reduceMul, Nat.reduceSub, Nat.reduceLeDiff, Nat.reduceEqDiff, Nat.add_zero, Nat.add_sub_cancel, Option.toList, List.cons_append, List.nil_append, i188_75, i188_76, i188_77, i188_78, i188_79, i188_80, rv_27_21, c189b (N := 1920) (p := 1174) ht hr]
theorem w188_140b (ht : 55 ≤ t) (h : I 27 41 = nI 3094) : WP V 188 140 [.ref 27, .int (nI 0), w] [] t I L (m_RR e 28 b) Q = WP V 188 146 [.ref 27, .int (nI 0), w] [] t (y_mv I 52 3094 0 6) L (m_RR e 28 b) Q := by
  have hr : m_ar 52 2 6 = true := by decide
  have hA := aa28
  simp (disch := first | assumption | omega | decide) only [nI_add, n_mul, n_sub, n_le, n_lt, n_eq, n_ne1, n_0, m_bl_t, m_bl_f, if_true, if_false, Nat.reduceAdd, Nat.reduceMul, Nat.reduceSub, Nat.reduceLeDiff, Nat.reduceEqDiff, Nat.add_zero, Nat.add_sub_cancel, Option.toList, List.cons_append, List.nil_append, i188_140, i188_141, i188_142, i188_143, i188_144, i188_145, rv_27_38, c189b (N := 6) (p := 3094) ht hr]
theorem w188_146b (ht : 55 ≤ t) (h : I 27 41 = nI 3100) : WP V 188 146 [.ref 27, .int (nI 0), w] [] t I L (m_RR e 28 b) Q = WP V 188 152 [.ref 27, .int (nI 0), w] [] t (y_mv I 28 3100 0 612) L (m_RR e 28 b) Q := by
  have hr : m_ar 28 2 612 = true := by decide
  have hA := aa28
  simp (disch := first | assumption | omega | decide) only [nI_add, n_mul, n_sub, n_le, n_lt, n_eq, n_ne1, n_0, m_bl_t, m_bl_f, if_true, if_false, Nat.reduceAdd, Nat.reduceMul, Nat.reduceSub, Nat.reduceLeDiff, Nat.reduceEqDiff, Nat.add_zero, Nat.add_sub_cancel, Option.toList, List.cons_append, List.nil_append, i188_146, i188_147, i188_148, i188_149, i188_150, i188_151, rv_27_0, c189b (N := 612) (p := 3100) ht hr]
def y_m13 (I : m_I) : m_I := (y_mv (y_mv (y_mv (y_mv (y_mv (y_mv (y_mv (y_mv (y_mv (y_mv (y_mv (y_mv (y_mv I 29 0 0 6) 30 6 0 240) 31 246 0 240) 32 486 0 240) 33 726 0 240) 35 966 0 6) 36 972 0 6) 38 978 0 8) 39 986 0 8) 40 994 0 60) 41 1054 0 60) 42 1114 0 60) 43 1174 0 1920)
theorem w188_3bb (ht : 55 ≤ t) (h : I 27 41 = nI 0) : WP V 188 3 [.ref 27, .int (nI 0), w] [] t I L (m_RR e 28 b) Q = WP V 188 81 [.ref 27, .int (nI 0), w] [] t (y_m13 I) L (m_RR e 28 b) Q := by
  unfold y_m13
  rw [w188_3b ht h, w188_9b ht y_mv_41, w188_15b ht y_mv_41, w188_21b ht y_mv_41, w188_27b ht y_mv_41, w188_33b ht y_mv_41, w188_39b ht y_mv_41, w188_45b ht y_mv_41, w188_51b ht y_mv_41, w188_57b ht y_mv_41, w188_63b ht y_mv_41, w188_69b ht y_mv_41, w188_75b ht y_mv_41]
def y_m2 (I : m_I) : m_I := m_sc (m_sc I 52 (z_nu I)) 52 (m_sc (z_nu I) 5 (z_or (I 34) 0 6 (nI 0)))
def y_m3 (I : m_I) : m_I := y_mv (y_mv I 52 3094 0 6) 28 3100 0 612
def y_m4 (I : m_I) : m_I := m_sc (m_sc I 27 (z_fl I)) 34 (z_un (I 52 5) 0 6 (I 34))
def y_M (I : m_I) : m_I := y_m2 (y_m13 (m_sc I 27 (m_sc (I 27) 41 (nI 0))))
def y_mov (I : m_I) : m_I := y_m4 (y_m3 (y_M I))
theorem y_m13_41 : y_m13 I 27 41 = nI 3094 := y_mv_41
theorem y_m2_41 : y_m2 I 27 41 = I 27 41 := rfl
theorem w188b (ht : 55 ≤ t) : WP V 188 0 (m_loc 188 [.ref 27, .int (nI 0)]) [] t I L (m_RR e 28 b) Q = Q none t (y_mov I) L (m_RR e 28 b) := by
  rw [show m_loc 188 [.ref 27, .int (nI 0)] = [.ref 27, .int (nI 0), m_u] from rfl]
  have h41 : m_sc I 27 (m_sc (I 27) 41 (nI 0)) 27 41 = nI 0 := by rw [m_sc_self, m_sc_self]
  simp (disch := first | assumption | omega | decide) only [nI_add, n_mul, n_sub, n_le, n_lt, n_eq, n_ne1, n_0, m_bl_t, m_bl_f, if_true, if_false, Nat.reduceAdd, Nat.reduceMul, Nat.reduceSub, Nat.reduceLeDiff, Nat.reduceEqDiff, Nat.add_zero, Nat.add_sub_cancel, Option.toList, List.cons_append, List.nil_append, i188_0, i188_1, i188_2]
  obtain ⟨J, hJ⟩ : ∃ J, J = y_m13 (m_sc I 27 (m_sc (I 27) 41 (nI 0))) := ⟨_, rfl⟩
  have hJ41 : J 27 41 = nI 3094 := by rw [hJ]; exact y_m13_41
  unfold y_mov y_M
  rw [w188_3bb ht h41, ← hJ, w188_81 ht, w188_118 ht 6 0 _ rfl]
  have e2 : m_sc (m_sc J 52 (z_nu J)) 52 (m_sc (m_sc J 52 (z_nu J) 52) 5 (z_or (m_sc J 52 (z_nu J) 34) 0 6 (m_sc J 52 (z_nu J) 52 5))) = y_m2 J := by
    unfold y_m2
    rw [m_sc_self, m_sc_ne (j := 34) (by omega), show z_nu J 5 = nI 0 from m_sc_self]
  have h2 : y_m2 J 27 41 = nI 3094 := y_m2_41.trans hJ41
  rw [e2, w188_140b ht h2, w188_146b ht y_mv_41, w188_152 ht, w188_184 ht 6 0 _ rfl]
  rfl
theorem c188b (ht : 55 ≤ t) : WPC V 188 [.ref 27, .int (nI 0)] m n ls st t I L (m_RR e 28 b) Q = WP V m n ls st t (y_mov I) L (m_RR e 28 b) Q := wpc_of (fun Q => w188b ht)
end RAF
