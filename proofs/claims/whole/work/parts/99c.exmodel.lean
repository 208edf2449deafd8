/-! explore: the model's beginning and end -/
section RBN
variable {V : m_V} {t m n : Nat} {ls st : List Value} {IB IC I J : m_I} {L : m_L} {R : m_R} {e : Option Nat} {a b : Nat} {Q : Option Value → Nat → m_I → m_L → m_R → Prop} {f g h hB hu fe ag FE0 : Nat → Int32} {u k c i y N NN own s mm : Nat} {v : Int32} {w4 w5 w6 w7 : Value}
theorem x_RM : m_sc (m_RR e 28 48) 27 (m_sc (m_RR e 28 48 27) 0 (some 48)) = m_RR e 48 48 := by
  funext k
  by_cases h : k = 27
  · subst h
    rw [m_sc_self]
    funext j
    match j with
    | 0 => rfl
    | j + 1 => rfl
  · rw [m_sc_ne h]
    unfold m_RR
    have : m_RT e 28 48 k = m_RT e 48 48 k := by
      unfold m_RT
      split <;> first | rfl | (exact absurd rfl h)
    rw [this]
theorem x_RN : m_sc (m_RR e 48 48) 27 (m_sc (m_RR e 48 48 27) 33 (some 48)) = m_RR e 48 48 := by
  have h33 : m_RR e 48 48 27 33 = some 48 := rfl
  have : m_sc (m_RR e 48 48 27) 33 (some 48) = m_RR e 48 48 27 := by rw [← h33]; exact s_sce
  rw [this]
  exact s_sce
theorem x_RO : m_sc (m_RR e 48 48) 27 (m_sc (m_RR e 48 48 27) 0 (some 28)) = m_RR e 28 48 := by
  funext k
  by_cases h : k = 27
  · subst h
    rw [m_sc_self]
    funext j
    match j with
    | 0 => rfl
    | j + 1 => rfl
  · rw [m_sc_ne h]
    unfold m_RR
    have : m_RT e 48 48 k = m_RT e 28 48 k := by
      unfold m_RT
      split <;> first | rfl | (exact absurd rfl h)
    rw [this]
theorem w179_31 (ht : 55 ≤ t) {w1 w3 : Value} : ∀ c i (K : m_I), i + c = 612 → WP V 179 31 [.ref 27, w1, .ref 28, .int v, .int (nI i), w5, w6, w7] [] t K L (m_RR e 48 48) Q = WP V 179 43 [.ref 27, w1, .ref 28, .int v, .int (nI 612), w5, w6, w7] [] t (m_sc K 48 (va_cpy (K 28) (K 48) i i c)) L (m_RR e 48 48) Q := by
  have a28 : m_ar 28 2 612 = true := by decide
  have hA : m_aa 48 := Or.inr rfl
  intro c
  induction c with
  | zero =>
    intro i K hi
    obtain rfl : i = 612 := by omega
    rw [cpy_0, s_sce, i179_31]
    simp (disch := first | assumption | omega | decide) only [nI_add, n_mul, n_sub, n_le, n_lt, n_eq, n_ne1, n_0, m_bl_t, m_bl_f, if_true, if_false, Nat.reduceAdd, Nat.reduceMul, Nat.reduceSub, Nat.reduceLeDiff, Nat.reduceEqDiff, Nat.add_zero, Nat.add_sub_cancel, Option.toList, List.cons_append, List.nil_append, i179_32, i179_33, Nat.le_refl]
  | succ c ih =>
    intro i K hi
    have hi6 : ¬ 612 ≤ i := by omega
    have hi7 : i < 612 := by omega
    have e1 := ih (i + 1) (m_sc K 48 (m_sc (K 48) i (K 28 i))) (by omega)
    rw [m_sc_ne (j := 28) (by omega), m_sc_self, s_scc, cpy_s] at e1
    rw [← e1, i179_31]
    simp (disch := first | assumption | omega | decide) only [nI_add, n_mul, n_sub, n_le, n_lt, n_eq, n_ne1, n_0, m_bl_t, m_bl_f, if_true, if_false, Nat.reduceAdd, Nat.reduceMul, Nat.reduceSub, Nat.reduceLeDiff, Nat.reduceEqDiff, Nat.add_zero, Nat.add_sub_cancel, Option.toList, List.cons_append, List.nil_append, i179_32, i179_33, i179_34, i179_35, i179_36, i179_37, i179_38, i179_39, i179_40, i179_41, i179_42, rv_27_0, hi6]
theorem w179_43 (ht : 55 ≤ t) {w1 : Value} : WP V 179 43 [.ref 27, w1, .ref 28, .int v, w4, w5, w6, w7] [] t (eM J g h hu fe ag) L (m_RR e 48 48) Q = WP V 179 64 [.ref 27, w1, .ref 28, .int v, .int (nI 0), .int (nI 0), w6, w7] [] t (eM J g (m_sc (m_sc (m_sc h 5 (nI 1)) 27 (nI 1)) 32 (nI 0)) (va_cpy g hu 0 (612 * 0) 612) fe ag) L (m_RR e 48 48) Q := by
  have z4 : (0 : Nat) < 400 := by decide
  have c172' : ∀ {X hh : Nat → Int32} {m n : Nat} {ls st : List Value} {Q : Option Value → Nat → m_I → m_L → m_R → Prop}, WPC V 172 [.ref 27, .ref 48, .int (nI 0)] m n ls st t (eM J g hh X fe ag) L (m_RR e 48 48) Q = WP V m n ls st t (eM J g hh (va_cpy g X 0 (612 * 0) 612) fe ag) L (m_RR e 48 48) Q := fun {X hh m n ls st Q} => by
    rw [c172 ht z4, eM_48, eM_45, eM_s45]
  have s27 : ∀ X Y Z, m_sc (eM J g X Y fe ag) 27 Z = eM J g Z Y fe ag := fun X Y Z => eM_s27
  have r27 : ∀ X Y, eM J g X Y fe ag 27 = X := fun X Y => eM_27
  simp (disch := first | assumption | omega | decide) only [nI_add, n_mul, n_sub, n_le, n_lt, n_eq, n_ne1, n_0, m_bl_t, m_bl_f, if_true, if_false, Nat.reduceAdd, Nat.reduceMul, Nat.reduceSub, Nat.reduceLeDiff, Nat.reduceEqDiff, Nat.add_zero, Nat.add_sub_cancel, Option.toList, List.cons_append, List.nil_append, i179_43, i179_44, i179_45, i179_46, i179_47, i179_48, i179_49, i179_50, i179_51, i179_52, i179_53, i179_54, i179_55, i179_56, i179_57, i179_58, i179_59, i179_60, i179_61, i179_62, i179_63, rv_27_0, m_01_1, s27, r27, c172', s_scc]
theorem w179_139f (ht : 55 ≤ t) : WP V 179 139 [.ref 27, .int (nI N), .ref 28, .int (nI own), .int (m_bl true), w5, w6, w7] [] t I L (m_RR e 48 48) Q = Q (some (.int (-1 - nI N))) t (m_sc I 27 (m_sc (m_sc (I 27) 5 (nI 0)) 2 (nI own))) L (m_RR e 28 48) := by
  have n10 : ¬ nI 1 = nI 0 := by decide
  simp (disch := first | assumption | omega | decide) only [nI_add, n_mul, n_sub, n_le, n_lt, n_eq, n_ne1, n_0, m_bl_t, m_bl_f, if_true, if_false, Nat.reduceAdd, Nat.reduceMul, Nat.reduceSub, Nat.reduceLeDiff, Nat.reduceEqDiff, Nat.add_zero, Nat.add_sub_cancel, Option.toList, List.cons_append, List.nil_append, i179_139, i179_140, i179_141, i179_142, i179_143, i179_144, i179_145, i179_146, i179_147, rv_27_0, m_01_0, m_sc_self, s_scc]
  simp (disch := first | assumption | omega | decide) only [nI_add, n_mul, n_sub, n_le, n_lt, n_eq, n_ne1, n_0, m_bl_t, m_bl_f, if_true, if_false, Nat.reduceAdd, Nat.reduceMul, Nat.reduceSub, Nat.reduceLeDiff, Nat.reduceEqDiff, Nat.add_zero, Nat.add_sub_cancel, Option.toList, List.cons_append, List.nil_append, i179_148, i179_148n, x_RN]
  simp (disch := first | assumption | omega | decide) only [nI_add, n_mul, n_sub, n_le, n_lt, n_eq, n_ne1, n_0, m_bl_t, m_bl_f, if_true, if_false, Nat.reduceAdd, Nat.reduceMul, Nat.reduceSub, Nat.reduceLeDiff, Nat.reduceEqDiff, Nat.add_zero, Nat.add_sub_cancel, Option.toList, List.cons_append, List.nil_append, i179_149, i179_150, i179_151, i179_151n, x_RO]
  simp (disch := first | assumption | omega | decide) only [nI_add, n_mul, n_sub, n_le, n_lt, n_eq, n_ne1, n_0, m_bl_t, m_bl_f, if_true, if_false, Nat.reduceAdd, Nat.reduceMul, Nat.reduceSub, Nat.reduceLeDiff, Nat.reduceEqDiff, Nat.add_zero, Nat.add_sub_cancel, Option.toList, List.cons_append, List.nil_append, i179_152, i179_153, i179_154, i179_155, i179_156, i179_157, n10]
theorem w179_167 (ht : 55 ≤ t) (hm : 19 * mm ≤ 7700) {w1 w3 : Value} {w4 : Int32} : ∀ c i (K : m_I), i + c = 19 * mm → K 27 29 = nI mm → K 27 27 = nI y → WP V 179 167 [.ref 27, w1, .ref 28, w3, .int w4, .int (nI i), w6, w7] [] t K L (m_RR e 28 48) Q = Q (some (.int (nI y))) t (m_sc K 46 (va_cpy (K 47) (K 46) i i c)) L (m_RR e 28 48) := by
  intro c
  induction c with
  | zero =>
    intro i K hi h29 h27
    rw [cpy_0, s_sce, i179_167]
    have : 19 * mm ≤ i := by omega
    simp (disch := first | assumption | omega | decide) only [nI_add, n_mul, n_sub, n_le, n_lt, n_eq, n_ne1, n_0, m_bl_t, m_bl_f, if_true, if_false, Nat.reduceAdd, Nat.reduceMul, Nat.reduceSub, Nat.reduceLeDiff, Nat.reduceEqDiff, Nat.add_zero, Nat.add_sub_cancel, Option.toList, List.cons_append, List.nil_append, i179_168, i179_169, i179_170, i179_171, i179_172, i179_183, i179_184, i179_185, h29, h27, this]
  | succ c ih =>
    intro i K hi h29 h27
    have hi6 : ¬ 19 * mm ≤ i := by omega
    have e1 := ih (i + 1) (m_sc K 46 (m_sc (K 46) i (K 47 i))) (by omega) (by rw [m_sc_ne (by omega)]; exact h29) (by rw [m_sc_ne (by omega)]; exact h27)
    rw [m_sc_ne (j := 47) (by omega), m_sc_self, s_scc, cpy_s] at e1
    rw [← e1, i179_167]
    simp (disch := first | assumption | omega | decide) only [nI_add, n_mul, n_sub, n_le, n_lt, n_eq, n_ne1, n_0, m_bl_t, m_bl_f, if_true, if_false, Nat.reduceAdd, Nat.reduceMul, Nat.reduceSub, Nat.reduceLeDiff, Nat.reduceEqDiff, Nat.add_zero, Nat.add_sub_cancel, Option.toList, List.cons_append, List.nil_append, i179_168, i179_169, i179_170, i179_171, i179_172, i179_173, i179_174, i179_175, i179_176, i179_177, i179_178, i179_179, i179_180, i179_181, i179_182, rv_27_30, rv_27_31, h29, hi6]
def x_H9 (h : Nat → Int32) (own mm : Nat) : Nat → Int32 := m_sc (m_sc (m_sc (m_sc h 5 (nI 0)) 2 (nI own)) 28 (nI 1)) 29 (nI mm)
theorem w179_139t (ht : 55 ≤ t) (hm : 19 * mm ≤ 7700) (h32 : I 27 32 = nI mm) (h27 : I 27 27 = nI y) : WP V 179 139 [.ref 27, .int (nI N), .ref 28, .int (nI own), .int (m_bl false), w5, w6, w7] [] t I L (m_RR e 48 48) Q = Q (some (.int (nI y))) t (m_sc (m_sc I 27 (x_H9 (I 27) own mm)) 46 (va_cpy (I 47) (I 46) 0 0 (19 * mm))) L (m_RR e 28 48) := by
  obtain ⟨K, hK⟩ : ∃ K, K = m_sc I 27 (x_H9 (I 27) own mm) := ⟨_, rfl⟩
  have k29 : K 27 29 = nI mm := by rw [hK, m_sc_self]; unfold x_H9; rw [m_sc_self]
  have k27 : K 27 27 = nI y := by rw [hK, m_sc_self]; unfold x_H9; rw [m_sc_ne (by omega), m_sc_ne (by omega), m_sc_ne (by omega), m_sc_ne (by omega)]; exact h27
  have e1 := w179_167 (V := V) (t := t) (L := L) (e := e) (Q := Q) (y := y) (w1 := .int (nI N)) (w3 := .int (nI own)) (w4 := nI 0) (w6 := w6) (w7 := w7) ht hm (19 * mm) 0 K (Nat.zero_add _) k29 k27
  have k47 : K 47 = I 47 := by rw [hK, m_sc_ne (by omega)]
  have k46 : K 46 = I 46 := by rw [hK, m_sc_ne (by omega)]
  rw [k47, k46] at e1
  rw [← hK, ← e1]
  have hx : m_sc I 27 (m_sc (m_sc (m_sc (m_sc (I 27) 5 (nI 0)) 2 (nI own)) 28 (nI 1)) 29 (nI mm)) = K := hK.symm
  simp (disch := first | assumption | omega | decide) only [nI_add, n_mul, n_sub, n_le, n_lt, n_eq, n_ne1, n_0, m_bl_t, m_bl_f, if_true, if_false, Nat.reduceAdd, Nat.reduceMul, Nat.reduceSub, Nat.reduceLeDiff, Nat.reduceEqDiff, Nat.add_zero, Nat.add_sub_cancel, Option.toList, List.cons_append, List.nil_append, i179_139, i179_140, i179_141, i179_142, i179_143, i179_144, i179_145, i179_146, i179_147, rv_27_0, m_01_0, m_sc_self, s_scc]
  simp (disch := first | assumption | omega | decide) only [nI_add, n_mul, n_sub, n_le, n_lt, n_eq, n_ne1, n_0, m_bl_t, m_bl_f, if_true, if_false, Nat.reduceAdd, Nat.reduceMul, Nat.reduceSub, Nat.reduceLeDiff, Nat.reduceEqDiff, Nat.add_zero, Nat.add_sub_cancel, Option.toList, List.cons_append, List.nil_append, i179_148, i179_148n, x_RN]
  simp (disch := first | assumption | omega | decide) only [nI_add, n_mul, n_sub, n_le, n_lt, n_eq, n_ne1, n_0, m_bl_t, m_bl_f, if_true, if_false, Nat.reduceAdd, Nat.reduceMul, Nat.reduceSub, Nat.reduceLeDiff, Nat.reduceEqDiff, Nat.add_zero, Nat.add_sub_cancel, Option.toList, List.cons_append, List.nil_append, i179_149, i179_150, i179_151, i179_151n, x_RO]
  simp (disch := first | assumption | omega | decide) only [nI_add, n_mul, n_sub, n_le, n_lt, n_eq, n_ne1, n_0, m_bl_t, m_bl_f, if_true, if_false, Nat.reduceAdd, Nat.reduceMul, Nat.reduceSub, Nat.reduceLeDiff, Nat.reduceEqDiff, Nat.add_zero, Nat.add_sub_cancel, Option.toList, List.cons_append, List.nil_append, i179_152, i179_153, i179_158, i179_159, i179_160, i179_161, i179_162, i179_163, i179_164, i179_165, i179_166, m_01_1, m_sc_self, m_sc_ne, s_scc, h32, hx]
/-- explore()'s beginning in the model -/
def x_H0 (h : Nat → Int32) (x : Int32) : Nat → Int32 := m_sc (m_sc (m_sc (m_sc h 25 x) 5 (nI 1)) 27 (nI 1)) 32 (nI 0)
def x_g0 (I : m_I) : Nat → Int32 := va_cpy (I 28) (I 48) 0 0 612
theorem w179_13 (ht : 55 ≤ t) (hown : I 27 2 = nI own) : WP V 179 13 [.ref 27, .int v, m_u, m_u, m_u, m_u, m_u, m_u] [] t I L (m_RR e 28 48) Q = WP V 179 64 [.ref 27, .int v, .ref 28, .int (nI own), .int (m_bl false), .int (nI 0), m_u, m_u] [] t (eM I (x_g0 I) (x_H0 (I 27) (I 27 25 - v)) (va_cpy (x_g0 I) (I 45) 0 (612 * 0) 612) (I 47) (I 49)) L (m_RR e 48 48) Q := by
  obtain ⟨K, hK⟩ : ∃ K, K = m_sc I 27 (m_sc (I 27) 25 (I 27 25 - v)) := ⟨_, rfl⟩
  have k27 : K 27 = m_sc (I 27) 25 (I 27 25 - v) := by rw [hK, m_sc_self]
  have k2 : K 27 2 = nI own := by rw [k27, m_sc_ne (by omega)]; exact hown
  have ko : ∀ k, k ≠ 27 → K k = I k := fun k hk => by rw [hK, m_sc_ne hk]
  have run : WP V 179 13 [.ref 27, .int v, m_u, m_u, m_u, m_u, m_u, m_u] [] t I L (m_RR e 28 48) Q = WP V 179 31 [.ref 27, .int v, .ref 28, .int (nI own), .int (nI 0), m_u, m_u, m_u] [] t K L (m_RR e 48 48) Q := by
    have r28 : m_rv (m_RR e 28 48 27 33) = .ref 48 := rfl
    simp (disch := first | assumption | omega | decide) only [nI_add, n_mul, n_sub, n_le, n_lt, n_eq, n_ne1, n_0, m_bl_t, m_bl_f, if_true, if_false, Nat.reduceAdd, Nat.reduceMul, Nat.reduceSub, Nat.reduceLeDiff, Nat.reduceEqDiff, Nat.add_zero, Nat.add_sub_cancel, Option.toList, List.cons_append, List.nil_append, i179_13, i179_14, i179_15, i179_16, i179_17, i179_18]
    rw [← hK]
    simp (disch := first | assumption | omega | decide) only [nI_add, n_mul, n_sub, n_le, n_lt, n_eq, n_ne1, n_0, m_bl_t, m_bl_f, if_true, if_false, Nat.reduceAdd, Nat.reduceMul, Nat.reduceSub, Nat.reduceLeDiff, Nat.reduceEqDiff, Nat.add_zero, Nat.add_sub_cancel, Option.toList, List.cons_append, List.nil_append, i179_19, i179_20, i179_21, i179_22, i179_23, i179_24, i179_25, i179_26, i179_27, rv_27_0, rv_27_33, k2]
    simp (disch := first | assumption | omega | decide) only [nI_add, n_mul, n_sub, n_le, n_lt, n_eq, n_ne1, n_0, m_bl_t, m_bl_f, if_true, if_false, Nat.reduceAdd, Nat.reduceMul, Nat.reduceSub, Nat.reduceLeDiff, Nat.reduceEqDiff, Nat.add_zero, Nat.add_sub_cancel, Option.toList, List.cons_append, List.nil_append, i179_28, i179_28n, x_RM]
    simp (disch := first | assumption | omega | decide) only [nI_add, n_mul, n_sub, n_le, n_lt, n_eq, n_ne1, n_0, m_bl_t, m_bl_f, if_true, if_false, Nat.reduceAdd, Nat.reduceMul, Nat.reduceSub, Nat.reduceLeDiff, Nat.reduceEqDiff, Nat.add_zero, Nat.add_sub_cancel, Option.toList, List.cons_append, List.nil_append, i179_29, i179_30]
  have e1 := w179_31 (V := V) (t := t) (L := L) (e := e) (Q := Q) (v := nI own) (w1 := .int v) (w3 := m_u) (w5 := m_u) (w6 := m_u) (w7 := m_u) ht 612 0 K rfl
  have e2 : m_sc K 48 (va_cpy (K 28) (K 48) 0 0 612) = eM I (x_g0 I) (m_sc (I 27) 25 (I 27 25 - v)) (I 45) (I 47) (I 49) := by
    funext k
    unfold x_g0 eM
    rw [ko 28 (by omega), ko 48 (by omega)]
    by_cases q48 : k = 48
    · subst q48; rw [m_sc_self, if_pos rfl]
    · rw [m_sc_ne q48, if_neg q48]
      by_cases q27 : k = 27
      · subst q27; rw [if_pos rfl, k27]
      · rw [if_neg q27, ko k q27]
        split
        · next q => rw [q]
        · split
          · next q => rw [q]
          · split
            · next q => rw [q]
            · rfl
  rw [run, e1, e2, w179_43 ht]
  rfl
end RBN
