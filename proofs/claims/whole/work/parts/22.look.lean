/-! specs: reading a cell, and what stands around it -/
def c_look2 (f g : Nat → Int32) (u x : Nat) : c_O := if f (15 + u) = nI 3 then c_seeR (m_sc f (41 + x) (nI u)) g u x 0 else if decide (f (15 + u) = nI 1) && decide (f 564 = nI 2) then c_picR f g u x else c_clkR f g u x
def c_own (f : Nat → Int32) (x : Nat) : Nat := (f (33 + x)).toNatClampNeg
def c_look (f g : Nat → Int32) (u x : Nat) : c_O :=
  if f (15 + u) = -1 then c_out f g u x
  else if ¬ f (176 + 47 * u + x) = -1 then c_find f g (f (176 + 47 * u + x)) (f (176 + 47 * u + x + 8))
  else if f 564 = nI 3 then c_seeR (c_come f u x) g u x 0
  else if c_oth (f (41 + x)) (nI u) then (nI 0, f, g)
  else if c_rival f u x = -1 then c_look2 f g u x
  else if c_elder f u (c_own f x) then c_look2 (c_anew f (c_own f x)) g u x else (nI 0, f, g)
def c_owned (f : Nat → Int32) (x : Nat) : Prop := f (33 + x) = -1 ∨ ∃ w, w < 3 ∧ f (33 + x) = nI w
theorem c_rival_of {f : Nat → Int32} {u x : Nat} (h : c_owned f x) : c_rival f u x = -1 ∨ (c_own f x < 3 ∧ c_rival f u x = nI (c_own f x) ∧ f (33 + x) = nI (c_own f x)) := by
  unfold c_rival
  split
  · rename_i hc
    rcases h with h | ⟨w, hw, h⟩
    · exact Or.inl h
    · have : c_own f x = w := by rw [c_own, h]; exact nI_clamp (by omega)
      rw [this]
      exact Or.inr ⟨hw, h, h⟩
  · exact Or.inl rfl
theorem n_ne1' {a : Nat} (ha : a < 2147483648) : ¬ nI a = -1 := by rw [n_ne1 ha]; exact id
section T22
variable {V : m_V} {t m n : Nat} {ls st : List Value} {I J : m_I} {f g nn ww : Nat → Int32} {L : m_L} {R : m_R} {e : Option Nat} {a b : Nat} {Q : Option Value → Nat → m_I → m_L → m_R → Prop} {u x : Nat}
theorem w11_86 (ht : 55 ≤ t) (hu : u < 3) (hx : x < 8) {y z : Value} : WP V 11 86 [.ref 26, .int (nI u), .int (nI x), y, z] [] t (mC J f g nn ww) L (m_RR e a b) Q = Q (some (.int (c_look2 f g u x).1)) t (mC J (c_look2 f g u x).2.1 (c_look2 f g u x).2.2 nn ww) L (m_RR e a b) := by
  have h0 : (0 : Nat) ≤ 72 := by decide
  simp (disch := first | assumption | omega | decide) only [nI_add, n_mul, n_sub, n_le, n_lt, n_eq, n_ne1, n_0, m_bl_t, m_bl_f, if_true, if_false, Nat.reduceAdd, Nat.reduceMul, Nat.reduceSub, Nat.reduceLeDiff, Option.toList, List.cons_append, List.nil_append, i11_86, i11_87, i11_88, i11_89, i11_90, i11_91, i11_92, i11_93, i11_94, i11_95, i11_96, i11_97, i11_98, i11_99, i11_100, i11_101, i11_102, i11_103, i11_104, i11_105, i11_106, i11_107, i11_108, i11_109, i11_110, i11_111, i11_112, i11_113, i11_114, i11_115, i11_116, i11_117, i11_118, i11_119, i11_120, i11_121, i11_122, i11_123, i11_124, i11_125, i11_126, i11_127, i11_128, rv_26_1, mC_2, mC_s2, c8, c14, c15, c16', b_0]
  unfold c_look2
  by_cases h1 : f (15 + u) = nI 3
  · simp [h1]
  · by_cases h2 : f (15 + u) = nI 1
    · by_cases h3 : f 564 = nI 2
      · simp [h1, h2, h3, n_eq]
      · simp [h1, h2, h3, n_eq]
    · simp [h1, h2]
theorem w11_26 (ht : 55 ≤ t) (hu : u < 3) (hx : x < 8) (hO : c_owned f x) (hin : ¬ f (15 + u) = -1) {y z : Value} : WP V 11 13 [.ref 26, .int (nI u), .int (nI x), m_u, m_u] [] t (mC J f g nn ww) L (m_RR e a b) Q = Q (some (.int (c_look f g u x).1)) t (mC J (c_look f g u x).2.1 (c_look f g u x).2.2 nn ww) L (m_RR e a b) := by
  have h0 : (0 : Nat) ≤ 72 := by decide
  simp (disch := first | assumption | omega | decide) only [nI_add, n_mul, n_sub, n_le, n_lt, n_eq, n_ne1, n_0, m_bl_t, m_bl_f, if_true, if_false, Nat.reduceAdd, Nat.reduceMul, Nat.reduceSub, Nat.reduceLeDiff, Option.toList, List.cons_append, List.nil_append, i11_13, i11_14, i11_15, i11_16, i11_17, i11_18, i11_19, i11_20, i11_21, i11_22, i11_23, i11_24, i11_25, rv_26_1, mC_2]
  by_cases h1 : f (176 + 47 * u + x) = -1
  · simp (disch := first | assumption | omega | decide) only [nI_add, n_mul, n_sub, n_le, n_lt, n_eq, n_ne1, n_0, m_bl_t, m_bl_f, if_true, if_false, Nat.reduceAdd, Nat.reduceMul, Nat.reduceSub, Nat.reduceLeDiff, Option.toList, List.cons_append, List.nil_append, i11_26, i11_40, i11_41, i11_42, i11_43, mC_2, h1, c8, b_0]
    by_cases h2 : f 564 = nI 3
    · simp only [h2, decide_true, Bool.true_eq_false, if_false]
      simp (disch := first | assumption | omega | decide) only [nI_add, n_mul, n_sub, n_le, n_lt, n_eq, n_ne1, n_0, m_bl_t, m_bl_f, if_true, if_false, Nat.reduceAdd, Nat.reduceMul, Nat.reduceSub, Nat.reduceLeDiff, Option.toList, List.cons_append, List.nil_append, i11_44, i11_45, i11_46, i11_47, i11_48, i11_49, i11_50, i11_51, i11_52, i11_53, c13, mC_2, mC_s2, c16']
      simp [c_look, hin, h1, h2]
    · simp only [h2, decide_false, if_true]
      simp (disch := first | assumption | omega | decide) only [nI_add, n_mul, n_sub, n_le, n_lt, n_eq, n_ne1, n_0, m_bl_t, m_bl_f, if_true, if_false, Nat.reduceAdd, Nat.reduceMul, Nat.reduceSub, Nat.reduceLeDiff, Option.toList, List.cons_append, List.nil_append, i11_54, i11_55, i11_56, i11_57, i11_58, i11_59, i11_60, i11_61, i11_62, rv_26_1, mC_2, c9', b_0]
      cases h3 : c_oth (f (41 + x)) (nI u)
      · simp (disch := first | assumption | omega | decide) only [nI_add, n_mul, n_sub, n_le, n_lt, n_eq, n_ne1, n_0, m_bl_t, m_bl_f, if_true, if_false, Nat.reduceAdd, Nat.reduceMul, Nat.reduceSub, Nat.reduceLeDiff, Option.toList, List.cons_append, List.nil_append, i11_65, i11_66, i11_67, i11_68, i11_69, i11_70, i11_71, i11_72, c18, mC_2]
        rcases c_rival_of (u := u) hO with h4 | ⟨hw, h4, h5⟩
        · simp (disch := first | assumption | omega | decide) only [nI_add, n_mul, n_sub, n_le, n_lt, n_eq, n_ne1, n_0, m_bl_t, m_bl_f, if_true, if_false, Nat.reduceAdd, Nat.reduceMul, Nat.reduceSub, Nat.reduceLeDiff, Option.toList, List.cons_append, List.nil_append, h4, i11_80, i11_81, i11_82, w11_86]
          simp [c_look, hin, h1, h2, h3, h4]
        · rw [h4]
          simp (disch := first | assumption | omega | decide) only [nI_add, n_mul, n_sub, n_le, n_lt, n_eq, n_ne1, n_0, m_bl_t, m_bl_f, if_true, if_false, Nat.reduceAdd, Nat.reduceMul, Nat.reduceSub, Nat.reduceLeDiff, Option.toList, List.cons_append, List.nil_append, i11_73, i11_74, i11_75, i11_76, i11_77, c19, mC_2, b_0]
          cases h6 : c_elder f u (c_own f x)
          · simp (disch := first | assumption | omega | decide) only [nI_add, n_mul, n_sub, n_le, n_lt, n_eq, n_ne1, n_0, m_bl_t, m_bl_f, if_true, if_false, Nat.reduceAdd, Nat.reduceMul, Nat.reduceSub, Nat.reduceLeDiff, Option.toList, List.cons_append, List.nil_append, i11_78, i11_79]
            simp [c_look, hin, h1, h2, h3, h4, h6, n_ne1' (show c_own f x < 2147483648 by omega)]
          · simp (disch := first | assumption | omega | decide) only [nI_add, n_mul, n_sub, n_le, n_lt, n_eq, n_ne1, n_0, m_bl_t, m_bl_f, if_true, if_false, Nat.reduceAdd, Nat.reduceMul, Nat.reduceSub, Nat.reduceLeDiff, Option.toList, List.cons_append, List.nil_append, Bool.true_eq_false, i11_80, i11_81, i11_82, i11_83, i11_84, i11_85, c30, mC_2, mC_s2, w11_86]
            simp [c_look, hin, h1, h2, h3, h4, h6, n_ne1' (show c_own f x < 2147483648 by omega)]
      · simp (disch := first | assumption | omega | decide) only [nI_add, n_mul, n_sub, n_le, n_lt, n_eq, n_ne1, n_0, m_bl_t, m_bl_f, if_true, if_false, Nat.reduceAdd, Nat.reduceMul, Nat.reduceSub, Nat.reduceLeDiff, Option.toList, List.cons_append, List.nil_append, Bool.true_eq_false, i11_63, i11_64]
        simp [c_look, hin, h1, h2, h3]
  · simp (disch := first | assumption | omega | decide) only [nI_add, n_mul, n_sub, n_le, n_lt, n_eq, n_ne1, n_0, m_bl_t, m_bl_f, if_true, if_false, Nat.reduceAdd, Nat.reduceMul, Nat.reduceSub, Nat.reduceLeDiff, Option.toList, List.cons_append, List.nil_append, i11_26, i11_27, i11_28, i11_29, i11_30, i11_31, i11_32, i11_33, i11_34, i11_35, i11_36, i11_37, i11_38, i11_39, rv_26_1, mC_2, mC_26, mC_s26, h1, c17]
    simp [c_look, hin, h1, c_find]
theorem w11 (ht : 55 ≤ t) (hu : u < 3) (hx : x < 8) (hO : c_owned f x) : WP V 11 0 (m_loc 11 [.ref 26, .int (nI u), .int (nI x)]) [] t (mC J f g nn ww) L (m_RR e a b) Q = Q (some (.int (c_look f g u x).1)) t (mC J (c_look f g u x).2.1 (c_look f g u x).2.2 nn ww) L (m_RR e a b) := by
  rw [show m_loc 11 [.ref 26, .int (nI u), .int (nI x)] = [.ref 26, .int (nI u), .int (nI x), m_u, m_u] from rfl]
  simp (disch := first | assumption | omega | decide) only [nI_add, n_mul, n_sub, n_le, n_lt, n_eq, n_ne1, n_0, m_bl_t, m_bl_f, if_true, if_false, Nat.reduceAdd, Nat.reduceMul, Nat.reduceSub, Nat.reduceLeDiff, Option.toList, List.cons_append, List.nil_append, i11_0, i11_1, i11_2, i11_3, i11_4, i11_5, i11_6, i11_7, rv_26_1, mC_2]
  by_cases h1 : f (15 + u) = -1
  · simp (disch := first | assumption | omega | decide) only [nI_add, n_mul, n_sub, n_le, n_lt, n_eq, n_ne1, n_0, m_bl_t, m_bl_f, if_true, if_false, Nat.reduceAdd, Nat.reduceMul, Nat.reduceSub, Nat.reduceLeDiff, Option.toList, List.cons_append, List.nil_append, i11_8, i11_9, i11_10, i11_11, i11_12, h1, c12]
    simp [c_look, h1]
  · rw [if_neg h1]
    exact w11_26 ht hu hx hO h1 (y := m_u) (z := m_u)
theorem c11 (ht : 55 ≤ t) (hu : u < 3) (hx : x < 8) (hO : c_owned f x) : WPC V 11 [.ref 26, .int (nI u), .int (nI x)] m n ls st t (mC J f g nn ww) L (m_RR e a b) Q = WP V m n ls ((.int (c_look f g u x).1) :: st) t (mC J (c_look f g u x).2.1 (c_look f g u x).2.2 nn ww) L (m_RR e a b) Q := wpc_of (fun Q => w11 ht hu hx hO)
end T22
