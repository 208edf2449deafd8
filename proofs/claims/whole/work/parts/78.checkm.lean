/-! check: the model's code -/
section RZW
variable {V : m_V} {m n : Nat} {ls st : List Value} {t N M : Nat} {I I' : m_I} {R : m_R} {L L' : m_L} {e : Option Nat} {a b u x i s : Nat} {Q : Option Value → Nat → m_I → m_L → m_R → Prop} {A C : Nat → Int32} {off : Nat}
theorem k_fu_s {c : Nat} : k_fu A C off (c + 1) x = if A (off + x) = -1 then k_fu A C off c (x + 1) else if A (off + x) = C x ∧ A (off + 8 + x) = C (8 + x) then k_fu A C off c (x + 1) else some x := rfl
/-- the model's cells of check() stand as the class's -/
def k_D (I : m_I) (C : Nat → Int32) : Prop := ∀ x, x < 8 → I 50 x = C x ∧ I 51 x = C (8 + x)
theorem w187_41 (ht : 55 ≤ t) (hi : i < 60) (hA : ∀ j, j < 16 → I 43 (32 * i + j) = A (off + j)) (hD : k_D I C) : ∀ c x w, x + c = 8 → ∃ w', ∀ Q, WP V 187 41 [.ref 27, .int (nI i), .int (nI (32 * i)), .int (nI x), w] [] t I L (m_RR e 28 b) Q = (match k_fu A C off c x with | some y => Q (some (.int (nI (8 * i + y)))) t I L (m_RR e 28 b) | none => WP V 187 81 [.ref 27, .int (nI i), .int (nI (32 * i)), .int (nI 8), w'] [] t I L (m_RR e 28 b) Q) := by
  intro c
  induction c with
  | zero =>
    intro x w hx
    obtain rfl : x = 8 := by omega
    refine ⟨w, fun Q => ?_⟩
    have h8 : 8 ≤ 8 := Nat.le_refl _
    rw [i187_41]
    simp (disch := first | assumption | omega | decide) only [nI_add, n_mul, n_sub, n_le, n_lt, n_eq, n_ne1, n_0, m_bl_t, m_bl_f, if_true, if_false, Nat.reduceAdd, Nat.reduceMul, Nat.reduceSub, Nat.reduceLeDiff, Nat.reduceEqDiff, Nat.add_zero, Nat.add_sub_cancel, Option.toList, List.cons_append, List.nil_append, i187_42, i187_43, h8]
    rfl
  | succ c ih =>
    intro x w hx
    have hx8 : ¬ 8 ≤ x := by omega
    have hx9 : x < 8 := by omega
    have hj1 : 32 * i + x < 1920 := by omega
    have hj2 : 32 * i + 8 + x < 1920 := by omega
    have g1 : I 43 (32 * i + x) = A (off + x) := hA x (by omega)
    have g2 : I 43 (32 * i + 8 + x) = A (off + 8 + x) := by rw [Nat.add_assoc, Nat.add_assoc]; exact hA (8 + x) (by omega)
    obtain ⟨d1, d2⟩ := hD x hx9
    rw [k_fu_s]
    by_cases h0 : A (off + x) = -1
    · obtain ⟨w', hw'⟩ := ih (x + 1) (.int (-1)) (by omega)
      refine ⟨w', fun Q => ?_⟩
      have h0' : I 43 (32 * i + x) = -1 := g1.trans h0
      rw [if_pos h0, ← hw' Q, i187_41]
      simp (disch := first | assumption | omega | decide) only [nI_add, n_mul, n_sub, n_le, n_lt, n_eq, n_ne1, n_0, m_bl_t, m_bl_f, if_true, if_false, Nat.reduceAdd, Nat.reduceMul, Nat.reduceSub, Nat.reduceLeDiff, Nat.reduceEqDiff, Nat.add_zero, Nat.add_sub_cancel, Option.toList, List.cons_append, List.nil_append, i187_42, i187_43, i187_44, i187_45, i187_46, i187_47, i187_48, i187_49, i187_50, i187_51, i187_52, i187_53, i187_79, i187_80, rv_27_21, hx8, h0']
    · have h0' : ¬ I 43 (32 * i + x) = -1 := fun q => h0 (g1.symm.trans q)
      rw [if_neg h0]
      by_cases h1 : A (off + x) = C x ∧ A (off + 8 + x) = C (8 + x)
      · obtain ⟨w', hw'⟩ := ih (x + 1) (.int (I 43 (32 * i + x))) (by omega)
        refine ⟨w', fun Q => ?_⟩
        have e1 : I 43 (32 * i + x) = I 50 x := g1.trans (h1.1.trans d1.symm)
        have e2 : I 43 (32 * i + 8 + x) = I 51 x := g2.trans (h1.2.trans d2.symm)
        rw [if_pos h1, ← hw' Q, i187_41]
        simp (disch := first | assumption | omega | decide) only [nI_add, n_mul, n_sub, n_le, n_lt, n_eq, n_ne1, n_0, m_bl_t, m_bl_f, if_true, if_false, Nat.reduceAdd, Nat.reduceMul, Nat.reduceSub, Nat.reduceLeDiff, Nat.reduceEqDiff, Nat.add_zero, Nat.add_sub_cancel, Option.toList, List.cons_append, List.nil_append, i187_42, i187_43, i187_44, i187_45, i187_46, i187_47, i187_48, i187_49, i187_50, i187_51, i187_52, i187_53, i187_54, i187_55, i187_56, i187_57, i187_58, i187_59, rv_27_21, rv_27_35, hx8, h0']
        rw [if_pos e1]
        simp (disch := first | assumption | omega | decide) only [nI_add, n_mul, n_sub, n_le, n_lt, n_eq, n_ne1, n_0, m_bl_t, m_bl_f, if_true, if_false, Nat.reduceAdd, Nat.reduceMul, Nat.reduceSub, Nat.reduceLeDiff, Nat.reduceEqDiff, Nat.add_zero, Nat.add_sub_cancel, Option.toList, List.cons_append, List.nil_append, i187_60, i187_61, i187_62, i187_63, i187_64, i187_65, i187_66, i187_67, i187_68, i187_69, i187_70, i187_71, i187_72, rv_27_21, rv_27_36]
        rw [if_pos e2]
        simp (disch := first | assumption | omega | decide) only [nI_add, n_mul, n_sub, n_le, n_lt, n_eq, n_ne1, n_0, m_bl_t, m_bl_f, if_true, if_false, Nat.reduceAdd, Nat.reduceMul, Nat.reduceSub, Nat.reduceLeDiff, Nat.reduceEqDiff, Nat.add_zero, Nat.add_sub_cancel, Option.toList, List.cons_append, List.nil_append, i187_79, i187_80]
      · refine ⟨m_u, fun Q => ?_⟩
        rw [if_neg h1, i187_41]
        by_cases e1 : I 43 (32 * i + x) = I 50 x
        · have e2 : ¬ I 43 (32 * i + 8 + x) = I 51 x := fun q => h1 ⟨g1.symm.trans (e1.trans d1), g2.symm.trans (q.trans d2)⟩
          simp (disch := first | assumption | omega | decide) only [nI_add, n_mul, n_sub, n_le, n_lt, n_eq, n_ne1, n_0, m_bl_t, m_bl_f, if_true, if_false, Nat.reduceAdd, Nat.reduceMul, Nat.reduceSub, Nat.reduceLeDiff, Nat.reduceEqDiff, Nat.add_zero, Nat.add_sub_cancel, Option.toList, List.cons_append, List.nil_append, i187_42, i187_43, i187_44, i187_45, i187_46, i187_47, i187_48, i187_49, i187_50, i187_51, i187_52, i187_53, i187_54, i187_55, i187_56, i187_57, i187_58, i187_59, rv_27_21, rv_27_35, hx8, h0']
          rw [if_pos e1]
          simp (disch := first | assumption | omega | decide) only [nI_add, n_mul, n_sub, n_le, n_lt, n_eq, n_ne1, n_0, m_bl_t, m_bl_f, if_true, if_false, Nat.reduceAdd, Nat.reduceMul, Nat.reduceSub, Nat.reduceLeDiff, Nat.reduceEqDiff, Nat.add_zero, Nat.add_sub_cancel, Option.toList, List.cons_append, List.nil_append, i187_60, i187_61, i187_62, i187_63, i187_64, i187_65, i187_66, i187_67, i187_68, i187_69, i187_70, i187_71, i187_72, rv_27_21, rv_27_36]
          rw [if_neg e2]
          simp (disch := first | assumption | omega | decide) only [nI_add, n_mul, n_sub, n_le, n_lt, n_eq, n_ne1, n_0, m_bl_t, m_bl_f, if_true, if_false, Nat.reduceAdd, Nat.reduceMul, Nat.reduceSub, Nat.reduceLeDiff, Nat.reduceEqDiff, Nat.add_zero, Nat.add_sub_cancel, Option.toList, List.cons_append, List.nil_append, i187_73, i187_74, i187_75, i187_76, i187_77, i187_78]
        · simp (disch := first | assumption | omega | decide) only [nI_add, n_mul, n_sub, n_le, n_lt, n_eq, n_ne1, n_0, m_bl_t, m_bl_f, if_true, if_false, Nat.reduceAdd, Nat.reduceMul, Nat.reduceSub, Nat.reduceLeDiff, Nat.reduceEqDiff, Nat.add_zero, Nat.add_sub_cancel, Option.toList, List.cons_append, List.nil_append, i187_42, i187_43, i187_44, i187_45, i187_46, i187_47, i187_48, i187_49, i187_50, i187_51, i187_52, i187_53, i187_54, i187_55, i187_56, i187_57, i187_58, i187_59, rv_27_21, rv_27_35, hx8, h0']
          rw [if_neg e1]
          simp (disch := first | assumption | omega | decide) only [nI_add, n_mul, n_sub, n_le, n_lt, n_eq, n_ne1, n_0, m_bl_t, m_bl_f, if_true, if_false, Nat.reduceAdd, Nat.reduceMul, Nat.reduceSub, Nat.reduceLeDiff, Nat.reduceEqDiff, Nat.add_zero, Nat.add_sub_cancel, Option.toList, List.cons_append, List.nil_append, i187_73, i187_74, i187_75, i187_76, i187_77, i187_78]
def z_w1 (I : m_I) (i x : Nat) : m_I := if I 43 (32 * i + 16 + x) = -1 then I else m_sc (m_sc I 50 (m_sc (I 50) x (I 43 (32 * i + 16 + x)))) 51 (m_sc (I 51) x (I 43 (32 * i + 24 + x)))
def z_w (I : m_I) (i : Nat) : Nat → m_I
  | 0 => I
  | x + 1 => z_w1 (z_w I i x) i x
theorem w187_83 (ht : 55 ≤ t) (hi : i < 60) (hx : x < 8) {w : Value} : WP V 187 83 [.ref 27, .int (nI i), .int (nI (32 * i)), .int (nI x), w] [] t I L (m_RR e 28 b) Q = WP V 187 83 [.ref 27, .int (nI i), .int (nI (32 * i)), .int (nI (x + 1)), w] [] t (z_w1 I i x) L (m_RR e 28 b) Q := by
  have hx8 : ¬ 8 ≤ x := by omega
  have hj1 : 32 * i + 16 + x < 1920 := by omega
  have hj2 : 32 * i + 24 + x < 1920 := by omega
  unfold z_w1
  rw [i187_83]
  by_cases h0 : I 43 (32 * i + 16 + x) = -1
  · rw [if_pos h0]
    simp (disch := first | assumption | omega | decide) only [nI_add, n_mul, n_sub, n_le, n_lt, n_eq, n_ne1, n_0, m_bl_t, m_bl_f, if_true, if_false, Nat.reduceAdd, Nat.reduceMul, Nat.reduceSub, Nat.reduceLeDiff, Nat.reduceEqDiff, Nat.add_zero, Nat.add_sub_cancel, Option.toList, List.cons_append, List.nil_append, i187_84, i187_85, i187_86, i187_87, i187_88, i187_89, i187_90, i187_91, i187_92, i187_93, i187_94, i187_95, i187_120, i187_121, rv_27_21, hx8, h0]
  · rw [if_neg h0]
    simp (disch := first | assumption | omega | decide) only [nI_add, n_mul, n_sub, n_le, n_lt, n_eq, n_ne1, n_0, m_bl_t, m_bl_f, if_true, if_false, Nat.reduceAdd, Nat.reduceMul, Nat.reduceSub, Nat.reduceLeDiff, Nat.reduceEqDiff, Nat.add_zero, Nat.add_sub_cancel, Option.toList, List.cons_append, List.nil_append, i187_84, i187_85, i187_86, i187_87, i187_88, i187_89, i187_90, i187_91, i187_92, i187_93, i187_94, i187_95, i187_96, i187_97, i187_98, i187_99, i187_100, i187_101, i187_102, i187_103, i187_104, i187_105, i187_106, i187_107, i187_108, i187_109, i187_110, i187_111, i187_112, i187_113, i187_114, i187_115, i187_116, i187_117, i187_118, i187_119, i187_120, i187_121, rv_27_21, rv_27_35, rv_27_36, hx8, h0, m_sc_ne]
theorem z_w_o {k : Nat} (h : k ≠ 50 ∧ k ≠ 51) : z_w I i x k = I k := by
  induction x with
  | zero => rfl
  | succ x ih =>
    show z_w1 (z_w I i x) i x k = I k
    unfold z_w1
    split
    · exact ih
    · rw [m_sc_ne h.2, m_sc_ne h.1, ih]
theorem z_w_D (hD : k_D I C) (hA : ∀ j, j < 16 → I 43 (32 * i + 16 + j) = A (off + j)) (hx : x ≤ 8) : k_D (z_w I i x) (k_wr A off C x) := by
  induction x with
  | zero => exact hD
  | succ x ih =>
    have g1 : z_w I i x 43 (32 * i + 16 + x) = A (off + x) := by rw [z_w_o (by omega)]; exact hA x (by omega)
    have g2 : z_w I i x 43 (32 * i + 24 + x) = A (off + 8 + x) := by
      rw [z_w_o (by omega), show 32 * i + 24 + x = 32 * i + 16 + (8 + x) by omega, show off + 8 + x = off + (8 + x) by omega]
      exact hA (8 + x) (by omega)
    have hd := ih (by omega)
    show k_D (z_w1 (z_w I i x) i x) (k_wr1 A off x (k_wr A off C x))
    unfold z_w1 k_wr1
    rw [g1, g2]
    by_cases h0 : A (off + x) = -1
    · rw [if_pos h0, if_pos h0]; exact hd
    · rw [if_neg h0, if_neg h0]
      intro y hy
      obtain ⟨q1, q2⟩ := hd y hy
      rw [m_sc_ne (j := 50) (by omega), m_sc_self, m_sc_self, m_sc_ne (j := y) (k := 8 + x) (by omega)]
      by_cases hyx : y = x
      · subst hyx
        rw [m_sc_self, m_sc_self, m_sc_self, m_sc_self]
        exact ⟨rfl, rfl⟩
      · rw [m_sc_ne hyx, m_sc_ne hyx, m_sc_ne hyx, m_sc_ne (by omega), m_sc_ne (by omega)]
        exact ⟨q1, q2⟩
theorem w187_126 (ht : 55 ≤ t) {f : Nat → Int32} (hD : k_D I C) (hf : ∀ x, x < 8 → f (49 + x) = I 28 (18 * x) ∧ f (57 + x) = I 28 (18 * x + 1) ∧ ¬ f (49 + x) = -1) {w2 w3 w4 : Value} : ∀ c x, x + c = 8 → WP V 187 126 [.ref 27, .int (nI x), w2, w3, w4] [] t I L (m_RR e 28 b) Q = Q (some (.int (match k_fu f C 49 c x with | some y => nI (480 + y) | none => -1))) t I L (m_RR e 28 b) := by
  have hA := aa28
  intro c
  induction c with
  | zero =>
    intro x hx
    obtain rfl : x = 8 := by omega
    have h8 : 8 ≤ 8 := Nat.le_refl _
    rw [i187_126]
    simp (disch := first | assumption | omega | decide) only [nI_add, n_mul, n_sub, n_le, n_lt, n_eq, n_ne1, n_0, m_bl_t, m_bl_f, if_true, if_false, Nat.reduceAdd, Nat.reduceMul, Nat.reduceSub, Nat.reduceLeDiff, Nat.reduceEqDiff, Nat.add_zero, Nat.add_sub_cancel, Option.toList, List.cons_append, List.nil_append, i187_127, i187_128, i187_157, i187_158, h8]
    rfl
  | succ c ih =>
    intro x hx
    have hx8 : ¬ 8 ≤ x := by omega
    have hx9 : x < 8 := by omega
    obtain ⟨f1, f2, f3⟩ := hf x hx9
    obtain ⟨d1, d2⟩ := hD x hx9
    have f2' : f (49 + 8 + x) = I 28 (18 * x + 1) := f2
    rw [k_fu_s, if_neg f3, i187_126]
    by_cases h1 : f (49 + x) = C x ∧ f (49 + 8 + x) = C (8 + x)
    · have e1 : I 50 x = I 28 (18 * x) := d1.trans (h1.1.symm.trans f1)
      have e2 : I 51 x = I 28 (18 * x + 1) := d2.trans (h1.2.symm.trans f2')
      rw [if_pos h1]
      simp (disch := first | assumption | omega | decide) only [nI_add, n_mul, n_sub, n_le, n_lt, n_eq, n_ne1, n_0, m_bl_t, m_bl_f, if_true, if_false, Nat.reduceAdd, Nat.reduceMul, Nat.reduceSub, Nat.reduceLeDiff, Nat.reduceEqDiff, Nat.add_zero, Nat.add_sub_cancel, Option.toList, List.cons_append, List.nil_append, i187_127, i187_128, i187_129, i187_130, i187_131, i187_132, i187_133, i187_134, i187_135, i187_136, i187_137, i187_138, rv_27_0, rv_27_35, hx8, c112]
      rw [if_pos e1]
      simp (disch := first | assumption | omega | decide) only [nI_add, n_mul, n_sub, n_le, n_lt, n_eq, n_ne1, n_0, m_bl_t, m_bl_f, if_true, if_false, Nat.reduceAdd, Nat.reduceMul, Nat.reduceSub, Nat.reduceLeDiff, Nat.reduceEqDiff, Nat.add_zero, Nat.add_sub_cancel, Option.toList, List.cons_append, List.nil_append, i187_139, i187_140, i187_141, i187_142, i187_143, i187_144, i187_145, i187_146, i187_147, i187_148, i187_149, i187_150, rv_27_0, rv_27_36, c112]
      rw [if_pos e2]
      simp (disch := first | assumption | omega | decide) only [nI_add, n_mul, n_sub, n_le, n_lt, n_eq, n_ne1, n_0, m_bl_t, m_bl_f, if_true, if_false, Nat.reduceAdd, Nat.reduceMul, Nat.reduceSub, Nat.reduceLeDiff, Nat.reduceEqDiff, Nat.add_zero, Nat.add_sub_cancel, Option.toList, List.cons_append, List.nil_append, i187_155, i187_156]
      exact ih (x + 1) (by omega)
    · rw [if_neg h1]
      by_cases e1 : I 50 x = I 28 (18 * x)
      · have e2 : ¬ I 51 x = I 28 (18 * x + 1) := fun q => h1 ⟨f1.trans (e1.symm.trans d1), f2'.trans (q.symm.trans d2)⟩
        simp (disch := first | assumption | omega | decide) only [nI_add, n_mul, n_sub, n_le, n_lt, n_eq, n_ne1, n_0, m_bl_t, m_bl_f, if_true, if_false, Nat.reduceAdd, Nat.reduceMul, Nat.reduceSub, Nat.reduceLeDiff, Nat.reduceEqDiff, Nat.add_zero, Nat.add_sub_cancel, Option.toList, List.cons_append, List.nil_append, i187_127, i187_128, i187_129, i187_130, i187_131, i187_132, i187_133, i187_134, i187_135, i187_136, i187_137, i187_138, rv_27_0, rv_27_35, hx8, c112]
        rw [if_pos e1]
        simp (disch := first | assumption | omega | decide) only [nI_add, n_mul, n_sub, n_le, n_lt, n_eq, n_ne1, n_0, m_bl_t, m_bl_f, if_true, if_false, Nat.reduceAdd, Nat.reduceMul, Nat.reduceSub, Nat.reduceLeDiff, Nat.reduceEqDiff, Nat.add_zero, Nat.add_sub_cancel, Option.toList, List.cons_append, List.nil_append, i187_139, i187_140, i187_141, i187_142, i187_143, i187_144, i187_145, i187_146, i187_147, i187_148, i187_149, i187_150, rv_27_0, rv_27_36, c112]
        rw [if_neg e2]
        simp (disch := first | assumption | omega | decide) only [nI_add, n_mul, n_sub, n_le, n_lt, n_eq, n_ne1, n_0, m_bl_t, m_bl_f, if_true, if_false, Nat.reduceAdd, Nat.reduceMul, Nat.reduceSub, Nat.reduceLeDiff, Nat.reduceEqDiff, Nat.add_zero, Nat.add_sub_cancel, Option.toList, List.cons_append, List.nil_append, i187_151, i187_152, i187_153, i187_154]
      · simp (disch := first | assumption | omega | decide) only [nI_add, n_mul, n_sub, n_le, n_lt, n_eq, n_ne1, n_0, m_bl_t, m_bl_f, if_true, if_false, Nat.reduceAdd, Nat.reduceMul, Nat.reduceSub, Nat.reduceLeDiff, Nat.reduceEqDiff, Nat.add_zero, Nat.add_sub_cancel, Option.toList, List.cons_append, List.nil_append, i187_127, i187_128, i187_129, i187_130, i187_131, i187_132, i187_133, i187_134, i187_135, i187_136, i187_137, i187_138, rv_27_0, rv_27_35, hx8, c112]
        rw [if_neg e1]
        simp (disch := first | assumption | omega | decide) only [nI_add, n_mul, n_sub, n_le, n_lt, n_eq, n_ne1, n_0, m_bl_t, m_bl_f, if_true, if_false, Nat.reduceAdd, Nat.reduceMul, Nat.reduceSub, Nat.reduceLeDiff, Nat.reduceEqDiff, Nat.add_zero, Nat.add_sub_cancel, Option.toList, List.cons_append, List.nil_append, i187_151, i187_152, i187_153, i187_154]
end RZW
