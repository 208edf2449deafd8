/-! explore: its loops, both -/
section RBL
variable {V : m_V} {t m n : Nat} {ls st : List Value} {IB IC I : m_I} {L : m_L} {e : Option Nat} {Q : Option Value → Nat → m_I → m_L → m_R → Prop} {f g h hB hu fe ag FE0 : Nat → Int32} {u k c b b2 i y N NN own s : Nat}
theorem ex_in (ht : 62 ≤ t) (hB0 : x_B L IB hB NN own N) : ∀ cc u, u + cc = 3 → ∀ (IC : m_I) (g h hu ag : Nat → Int32) (y : Nat), x_I IB hB FE0 NN own N IC h hu fe y i → i < y →
    ∃ IC' g' h' hu' ag' y' ma u', (∀ Q, WP V 34 42 [.ref 55, .int (nI N), .int (m_bl true), .int (nI i), .int (nI u)] [] t IC L (m_RR e 28 48) Q = WP V 34 79 [.ref 55, .int (nI N), .int (m_bl ma), .int (nI i), .int (nI u')] [] t IC' L (m_RR e 28 48) Q) ∧ (∀ J1, st_eq2 J1 IB → ∀ Q, WP V 179 74 [.ref 27, .int (nI N), .ref 28, .int (nI own), .int (m_bl false), .int (nI i), .int (m_bl (z_S (IC 59) i)), .int (nI u)] [] t (eM J1 g h hu fe ag) L (m_RR e 48 48) Q = WP V 179 130 [.ref 27, .int (nI N), .ref 28, .int (nI own), .int (m_bl (!ma)), .int (nI i), .int (m_bl (z_S (IC' 59) i)), .int (nI u')] [] t (eM J1 g' h' hu' fe ag') L (m_RR e 48 48) Q) ∧ x_I IB hB FE0 NN own N IC' h' hu' fe y' i ∧ i < y' := by
  intro cc
  induction cc with
  | zero =>
    intro u hu3 IC g h hu ag y hX hi
    obtain rfl : u = 3 := by omega
    refine ⟨IC, g, h, hu, ag, y, true, 3, fun Q => ?_, fun J1 hs Q => ?_, hX, hi⟩
    · rw [i34_42]
      simp (disch := first | assumption | omega | decide) only [nI_add, n_mul, n_sub, n_le, n_lt, n_eq, n_ne1, n_0, m_bl_t, m_bl_f, if_true, if_false, Nat.reduceAdd, Nat.reduceMul, Nat.reduceSub, Nat.reduceLeDiff, Nat.reduceEqDiff, Nat.add_zero, Nat.add_sub_cancel, Option.toList, List.cons_append, List.nil_append, i34_43, i34_44, Nat.le_refl]
    · rw [i179_74, Bool.not_true]
      simp (disch := first | assumption | omega | decide) only [nI_add, n_mul, n_sub, n_le, n_lt, n_eq, n_ne1, n_0, m_bl_t, m_bl_f, if_true, if_false, Nat.reduceAdd, Nat.reduceMul, Nat.reduceSub, Nat.reduceLeDiff, Nat.reduceEqDiff, Nat.add_zero, Nat.add_sub_cancel, Option.toList, List.cons_append, List.nil_append, i179_75, i179_76, Nat.le_refl]
  | succ cc ih =>
    intro u hu3 IC g h hu ag y hX hi
    obtain ⟨IC', g', h', hu', ag', y', ma, r1, r2, r3, r4⟩ := ex_step (V := V) (t := t) (e := e) (u := u) (g := g) (ag := ag) ht hB0 hX hi (by omega)
    cases ma
    · refine ⟨IC', g', h', hu', ag', y', false, u + 1, fun Q => ?_, fun J1 hs Q => ?_, r3, r4⟩
      · rw [r1 Q, i34_42]
        by_cases q : 3 ≤ u + 1
        · simp (disch := first | assumption | omega | decide) only [nI_add, n_mul, n_sub, n_le, n_lt, n_eq, n_ne1, n_0, m_bl_t, m_bl_f, if_true, if_false, Nat.reduceAdd, Nat.reduceMul, Nat.reduceSub, Nat.reduceLeDiff, Nat.reduceEqDiff, Nat.add_zero, Nat.add_sub_cancel, Option.toList, List.cons_append, List.nil_append, i34_43, i34_44, q]
        · simp (disch := first | assumption | omega | decide) only [nI_add, n_mul, n_sub, n_le, n_lt, n_eq, n_ne1, n_0, m_bl_t, m_bl_f, if_true, if_false, Nat.reduceAdd, Nat.reduceMul, Nat.reduceSub, Nat.reduceLeDiff, Nat.reduceEqDiff, Nat.add_zero, Nat.add_sub_cancel, Option.toList, List.cons_append, List.nil_append, i34_43, i34_44, i34_45, i34_46, q]
      · rw [r2 J1 hs Q, i179_74, Bool.not_false]
        have n10 : ¬ nI 1 = nI 0 := by decide
        by_cases q : 3 ≤ u + 1
        · simp (disch := first | assumption | omega | decide) only [nI_add, n_mul, n_sub, n_le, n_lt, n_eq, n_ne1, n_0, m_bl_t, m_bl_f, if_true, if_false, Nat.reduceAdd, Nat.reduceMul, Nat.reduceSub, Nat.reduceLeDiff, Nat.reduceEqDiff, Nat.add_zero, Nat.add_sub_cancel, Option.toList, List.cons_append, List.nil_append, i179_75, i179_76, q]
        · simp (disch := first | assumption | omega | decide) only [nI_add, n_mul, n_sub, n_le, n_lt, n_eq, n_ne1, n_0, m_bl_t, m_bl_f, if_true, if_false, Nat.reduceAdd, Nat.reduceMul, Nat.reduceSub, Nat.reduceLeDiff, Nat.reduceEqDiff, Nat.add_zero, Nat.add_sub_cancel, Option.toList, List.cons_append, List.nil_append, i179_75, i179_76, i179_77, i179_78, q, n10]
    · obtain ⟨IC2, g2, h2, hu2, ag2, y2, ma2, u2, s1, s2, s3, s4⟩ := ih (u + 1) (by omega) IC' g' h' hu' ag' y' r3 r4
      exact ⟨IC2, g2, h2, hu2, ag2, y2, ma2, u2, fun Q => (r1 Q).trans (s1 Q), fun J1 hs Q => (r2 J1 hs Q).trans (s2 J1 hs Q), s3, s4⟩
theorem x_I_n (hX : x_I IB hB FE0 NN own N IC h hu fe y i) : (z_S (IC 59) i = true → x_I IB hB FE0 NN own N IC (m_sc h 32 (nI (e_st (d_erw hu i) ((e_f FE0 (d_erw hu) (z_S (IC 59)) i).1, fe)).1)) hu (e_st (d_erw hu i) ((e_f FE0 (d_erw hu) (z_S (IC 59)) i).1, fe)).2 y (i + 1)) ∧ (z_S (IC 59) i = false → x_I IB hB FE0 NN own N IC h hu fe y (i + 1)) := by
  obtain ⟨a1, a2, a3, a4, a5, a6, a7, a8, a9⟩ := hX
  have e0 : e_f FE0 (d_erw hu) (z_S (IC 59)) (i + 1) = if z_S (IC 59) i = true then e_st (d_erw hu i) (e_f FE0 (d_erw hu) (z_S (IC 59)) i) else e_f FE0 (d_erw hu) (z_S (IC 59)) i := rfl
  refine ⟨fun hS => ?_, fun hS => ?_⟩
  · have e1 : ((e_f FE0 (d_erw hu) (z_S (IC 59)) i).1, fe) = e_f FE0 (d_erw hu) (z_S (IC 59)) i := by rw [a9]
    rw [e1]
    rw [hS, if_pos rfl] at e0
    unfold x_I
    rw [e0, m_sc_self, m_sc_ne (j := 27) (by omega)]
    exact ⟨a1, a2, a3, a4, a5, fun j j1 j2 j3 j4 j5 => (m_sc_ne j5).trans (a6 j j1 j2 j3 j4 j5), a7, rfl, rfl⟩
  · rw [hS, if_neg Bool.false_ne_true] at e0
    unfold x_I
    rw [e0]
    exact ⟨a1, a2, a3, a4, a5, a6, a7, a8, a9⟩
set_option maxRecDepth 20000 in
theorem ex_out (ht : 62 ≤ t) (hB0 : x_B L IB hB NN own N) : ∀ cc i, i + cc = N → ∀ (IC : m_I) (g h hu fe ag : Nat → Int32) (y : Nat) (w4 w6 w7 : Value), x_I IB hB FE0 NN own N IC h hu fe y i → i ≤ y →
    ∃ IC' g' h' hu' fe' ag' y' ma i' i2 w4' w6' w7', (∀ Q, WP V 34 26 [.ref 55, .int (nI N), .int (m_bl true), .int (nI i), w4] [] t IC L (m_RR e 28 48) Q = WP V 34 81 [.ref 55, .int (nI N), .int (m_bl ma), .int (nI i'), w4'] [] t IC' L (m_RR e 28 48) Q) ∧ (∀ J1, st_eq2 J1 IB → ∀ Q, WP V 179 64 [.ref 27, .int (nI N), .ref 28, .int (nI own), .int (m_bl false), .int (nI i), w6, w7] [] t (eM J1 g h hu fe ag) L (m_RR e 48 48) Q = WP V 179 139 [.ref 27, .int (nI N), .ref 28, .int (nI own), .int (m_bl (!ma)), .int (nI i'), w6', w7'] [] t (eM J1 g' h' hu' fe' ag') L (m_RR e 48 48) Q) ∧ x_I IB hB FE0 NN own N IC' h' hu' fe' y' i2 ∧ (ma = true → i2 = y') := by
  have hN := hB0.2.2.2.2.2.2.2.2
  have n10 : ¬ nI 1 = nI 0 := by decide
  have exit : ∀ i, i ≤ N → ∀ (IC : m_I) (g h hu fe ag : Nat → Int32) (y : Nat) (w4 w6 w7 : Value), x_I IB hB FE0 NN own N IC h hu fe y i → y ≤ i → i ≤ y → ∃ IC' g' h' hu' fe' ag' y' ma i' i2 w4' w6' w7', (∀ Q, WP V 34 26 [.ref 55, .int (nI N), .int (m_bl true), .int (nI i), w4] [] t IC L (m_RR e 28 48) Q = WP V 34 81 [.ref 55, .int (nI N), .int (m_bl ma), .int (nI i'), w4'] [] t IC' L (m_RR e 28 48) Q) ∧ (∀ J1, st_eq2 J1 IB → ∀ Q, WP V 179 64 [.ref 27, .int (nI N), .ref 28, .int (nI own), .int (m_bl false), .int (nI i), w6, w7] [] t (eM J1 g h hu fe ag) L (m_RR e 48 48) Q = WP V 179 139 [.ref 27, .int (nI N), .ref 28, .int (nI own), .int (m_bl (!ma)), .int (nI i'), w6', w7'] [] t (eM J1 g' h' hu' fe' ag') L (m_RR e 48 48) Q) ∧ x_I IB hB FE0 NN own N IC' h' hu' fe' y' i2 ∧ (ma = true → i2 = y') := by
    intro i hiN IC g h hu fe ag y w4 w6 w7 hX h1 h2
    obtain rfl : i = y := by omega
    have h8 : IC 55 8 = nI i := hX.2.2.1.1
    have h27 : h 27 = nI i := hX.2.2.2.2.2.2.1
    refine ⟨IC, g, h, hu, fe, ag, i, true, i, i, w4, w6, w7, fun Q => ?_, fun J1 hs Q => ?_, hX, fun _ => rfl⟩
    · rw [i34_26]
      by_cases qN : N ≤ i
      · simp (disch := first | assumption | omega | decide) only [nI_add, n_mul, n_sub, n_le, n_lt, n_eq, n_ne1, n_0, m_bl_t, m_bl_f, if_true, if_false, Nat.reduceAdd, Nat.reduceMul, Nat.reduceSub, Nat.reduceLeDiff, Nat.reduceEqDiff, Nat.add_zero, Nat.add_sub_cancel, Option.toList, List.cons_append, List.nil_append, i34_27, i34_28, qN]
      · simp (disch := first | assumption | omega | decide) only [nI_add, n_mul, n_sub, n_le, n_lt, n_eq, n_ne1, n_0, m_bl_t, m_bl_f, if_true, if_false, Nat.reduceAdd, Nat.reduceMul, Nat.reduceSub, Nat.reduceLeDiff, Nat.reduceEqDiff, Nat.add_zero, Nat.add_sub_cancel, Option.toList, List.cons_append, List.nil_append, i34_27, i34_28, i34_29, i34_30, i34_31, i34_32, qN, h8, Nat.le_refl]
    · have r27 : eM J1 g h hu fe ag 27 = h := eM_27
      rw [i179_64, Bool.not_true]
      simp (disch := first | assumption | omega | decide) only [nI_add, n_mul, n_sub, n_le, n_lt, n_eq, n_ne1, n_0, m_bl_t, m_bl_f, if_true, if_false, Nat.reduceAdd, Nat.reduceMul, Nat.reduceSub, Nat.reduceLeDiff, Nat.reduceEqDiff, Nat.add_zero, Nat.add_sub_cancel, Option.toList, List.cons_append, List.nil_append, i179_65, i179_66, i179_67, r27, h27, Nat.le_refl]
  intro cc
  induction cc with
  | zero =>
    intro i hi IC g h hu fe ag y w4 w6 w7 hX hiy
    exact exit i (by omega) IC g h hu fe ag y w4 w6 w7 hX (by have := hX.2.2.2.1; omega) hiy
  | succ cc ih =>
    intro i hi IC g h hu fe ag y w4 w6 w7 hX hiy
    by_cases hyi : y ≤ i
    · exact exit i (by omega) IC g h hu fe ag y w4 w6 w7 hX hyi hiy
    · have hiy2 : i < y := by omega
      have hi4 : i < 400 := by omega
      have hy4 : y ≤ 400 := by have := hX.2.2.2.1; omega
      have h8 : IC 55 8 = nI y := hX.2.2.1.1
      have h27 : h 27 = nI y := hX.2.2.2.2.2.2.1
      obtain ⟨X1, hX1⟩ : ∃ X1, X1 = m_sc (IC 59) i (nI 1) := ⟨_, rfl⟩
      obtain ⟨IC1, hIC1⟩ : ∃ IC1, IC1 = m_sc IC 59 X1 := ⟨_, rfl⟩
      have hX2 : x_I IB hB FE0 NN own N IC1 h hu fe y i := by
        rw [hIC1]
        exact x_I_s hX (fun j hj => by rw [hX1, m_sc_ne (by omega)])
      have hS1 : z_S (IC1 59) i = true := by
        unfold z_S
        rw [hIC1, m_sc_self, hX1, m_sc_self, decide_eq_false n10]; rfl
      obtain ⟨IC', g', h', hu', ag', y', ma, u', r1, r2, r3, r4⟩ := ex_in (V := V) (t := t) (e := e) ht hB0 3 0 rfl IC1 g h hu ag y hX2 hiy2
      rw [hS1] at r2
      have q1 : nI 1 &&& 1 = nI 1 := by decide
      have runC : ∀ Q, WP V 34 26 [.ref 55, .int (nI N), .int (m_bl true), .int (nI i), w4] [] t IC L (m_RR e 28 48) Q = WP V 34 26 [.ref 55, .int (nI N), .int (m_bl ma), .int (nI (i + 1)), .int (nI u')] [] t IC' L (m_RR e 28 48) Q := fun Q => by
        have e1 := r1 Q
        rw [m_bl_t] at e1
        rw [i34_26]
        have qN : ¬ N ≤ i := by omega
        simp (disch := first | assumption | omega | decide) only [nI_add, n_mul, n_sub, n_le, n_lt, n_eq, n_ne1, n_0, m_bl_t, m_bl_f, if_true, if_false, Nat.reduceAdd, Nat.reduceMul, Nat.reduceSub, Nat.reduceLeDiff, Nat.reduceEqDiff, Nat.add_zero, Nat.add_sub_cancel, Option.toList, List.cons_append, List.nil_append, i34_27, i34_28, i34_29, i34_30, i34_31, i34_32, i34_33, i34_34, i34_35, i34_36, i34_37, i34_38, i34_39, i34_40, i34_41, rv_55_6, qN, h8, hyi, n10, q1]
        rw [← hX1, ← hIC1, e1]
        simp (disch := first | assumption | omega | decide) only [nI_add, n_mul, n_sub, n_le, n_lt, n_eq, n_ne1, n_0, m_bl_t, m_bl_f, if_true, if_false, Nat.reduceAdd, Nat.reduceMul, Nat.reduceSub, Nat.reduceLeDiff, Nat.reduceEqDiff, Nat.add_zero, Nat.add_sub_cancel, Option.toList, List.cons_append, List.nil_append, i34_79, i34_80]
      have runM : ∀ J1, st_eq2 J1 IB → ∀ Q, WP V 179 64 [.ref 27, .int (nI N), .ref 28, .int (nI own), .int (m_bl false), .int (nI i), w6, w7] [] t (eM J1 g h hu fe ag) L (m_RR e 48 48) Q = WP V 179 130 [.ref 27, .int (nI N), .ref 28, .int (nI own), .int (m_bl (!ma)), .int (nI i), .int (m_bl (z_S (IC' 59) i)), .int (nI u')] [] t (eM J1 g' h' hu' fe ag') L (m_RR e 48 48) Q := fun J1 hs Q => by
        have r27 : eM J1 g h hu fe ag 27 = h := eM_27
        have e1 := r2 J1 hs Q
        rw [m_bl_t] at e1
        rw [← e1, i179_64]
        simp (disch := first | assumption | omega | decide) only [nI_add, n_mul, n_sub, n_le, n_lt, n_eq, n_ne1, n_0, m_bl_t, m_bl_f, if_true, if_false, Nat.reduceAdd, Nat.reduceMul, Nat.reduceSub, Nat.reduceLeDiff, Nat.reduceEqDiff, Nat.add_zero, Nat.add_sub_cancel, Option.toList, List.cons_append, List.nil_append, i179_65, i179_66, i179_67, i179_68, i179_69, i179_70, i179_71, i179_72, i179_73, r27, h27, hyi]
      have h8' : IC' 55 8 = nI y' := r3.2.2.1.1
      have h27' : h' 27 = nI y' := r3.2.2.2.2.2.2.1
      have hy4' : y' ≤ 400 := by have := r3.2.2.2.1; omega
      cases ma
      · refine ⟨IC', g', h', hu', fe, ag', y', false, i + 1, i, .int (nI u'), .int (m_bl (z_S (IC' 59) i)), .int (nI u'), fun Q => ?_, fun J1 hs Q => ?_, r3, fun q => by cases q⟩
        · rw [runC Q, i34_26]
          by_cases qN : N ≤ i + 1
          · simp (disch := first | assumption | omega | decide) only [nI_add, n_mul, n_sub, n_le, n_lt, n_eq, n_ne1, n_0, m_bl_t, m_bl_f, if_true, if_false, Nat.reduceAdd, Nat.reduceMul, Nat.reduceSub, Nat.reduceLeDiff, Nat.reduceEqDiff, Nat.add_zero, Nat.add_sub_cancel, Option.toList, List.cons_append, List.nil_append, i34_27, i34_28, qN]
          · by_cases q : y' ≤ i + 1
            · simp (disch := first | assumption | omega | decide) only [nI_add, n_mul, n_sub, n_le, n_lt, n_eq, n_ne1, n_0, m_bl_t, m_bl_f, if_true, if_false, Nat.reduceAdd, Nat.reduceMul, Nat.reduceSub, Nat.reduceLeDiff, Nat.reduceEqDiff, Nat.add_zero, Nat.add_sub_cancel, Option.toList, List.cons_append, List.nil_append, i34_27, i34_28, i34_29, i34_30, i34_31, i34_32, qN, h8', q]
            · simp (disch := first | assumption | omega | decide) only [nI_add, n_mul, n_sub, n_le, n_lt, n_eq, n_ne1, n_0, m_bl_t, m_bl_f, if_true, if_false, Nat.reduceAdd, Nat.reduceMul, Nat.reduceSub, Nat.reduceLeDiff, Nat.reduceEqDiff, Nat.add_zero, Nat.add_sub_cancel, Option.toList, List.cons_append, List.nil_append, i34_27, i34_28, i34_29, i34_30, i34_31, i34_32, i34_33, i34_34, qN, h8', q]
        · rw [runM J1 hs Q, Bool.not_false]
          have r27 : eM J1 g' h' hu' fe ag' 27 = h' := eM_27
          have e9 : WP V 179 130 [.ref 27, .int (nI N), .ref 28, .int (nI own), .int (m_bl true), .int (nI i), .int (m_bl (z_S (IC' 59) i)), .int (nI u')] [] t (eM J1 g' h' hu' fe ag') L (m_RR e 48 48) Q = WP V 179 64 [.ref 27, .int (nI N), .ref 28, .int (nI own), .int (m_bl true), .int (nI (i + 1)), .int (m_bl (z_S (IC' 59) i)), .int (nI u')] [] t (eM J1 g' h' hu' fe ag') L (m_RR e 48 48) Q := by
            cases z_S (IC' 59) i
            · simp (disch := first | assumption | omega | decide) only [nI_add, n_mul, n_sub, n_le, n_lt, n_eq, n_ne1, n_0, m_bl_t, m_bl_f, if_true, if_false, Nat.reduceAdd, Nat.reduceMul, Nat.reduceSub, Nat.reduceLeDiff, Nat.reduceEqDiff, Nat.add_zero, Nat.add_sub_cancel, Option.toList, List.cons_append, List.nil_append, i179_130, i179_131, i179_137, i179_138]
            · simp (disch := first | assumption | omega | decide) only [nI_add, n_mul, n_sub, n_le, n_lt, n_eq, n_ne1, n_0, m_bl_t, m_bl_f, if_true, if_false, Nat.reduceAdd, Nat.reduceMul, Nat.reduceSub, Nat.reduceLeDiff, Nat.reduceEqDiff, Nat.add_zero, Nat.add_sub_cancel, Option.toList, List.cons_append, List.nil_append, i179_130, i179_131, i179_132, i179_133, i179_137, i179_138, n10]
          rw [e9, i179_64]
          by_cases q : y' ≤ i + 1
          · simp (disch := first | assumption | omega | decide) only [nI_add, n_mul, n_sub, n_le, n_lt, n_eq, n_ne1, n_0, m_bl_t, m_bl_f, if_true, if_false, Nat.reduceAdd, Nat.reduceMul, Nat.reduceSub, Nat.reduceLeDiff, Nat.reduceEqDiff, Nat.add_zero, Nat.add_sub_cancel, Option.toList, List.cons_append, List.nil_append, i179_65, i179_66, i179_67, r27, h27', q]
          · simp (disch := first | assumption | omega | decide) only [nI_add, n_mul, n_sub, n_le, n_lt, n_eq, n_ne1, n_0, m_bl_t, m_bl_f, if_true, if_false, Nat.reduceAdd, Nat.reduceMul, Nat.reduceSub, Nat.reduceLeDiff, Nat.reduceEqDiff, Nat.add_zero, Nat.add_sub_cancel, Option.toList, List.cons_append, List.nil_append, i179_65, i179_66, i179_67, i179_68, i179_69, r27, h27', q, n10]
      · obtain ⟨n1, n2⟩ := x_I_n r3
        cases hS : z_S (IC' 59) i
        · obtain ⟨IC2, g2, h2, hu2, fe2, ag2, y2, ma2, i2, i3, w42, w62, w72, s1, s2, s3, s4⟩ := ih (i + 1) (by omega) IC' g' h' hu' fe ag' y' (.int (nI u')) (.int (m_bl false)) (.int (nI u')) (n2 hS) (by omega)
          refine ⟨IC2, g2, h2, hu2, fe2, ag2, y2, ma2, i2, i3, w42, w62, w72, fun Q => (runC Q).trans (s1 Q), fun J1 hs Q => ?_, s3, s4⟩
          rw [runM J1 hs Q, hS, Bool.not_true, ← s2 J1 hs Q]
          simp (disch := first | assumption | omega | decide) only [nI_add, n_mul, n_sub, n_le, n_lt, n_eq, n_ne1, n_0, m_bl_t, m_bl_f, if_true, if_false, Nat.reduceAdd, Nat.reduceMul, Nat.reduceSub, Nat.reduceLeDiff, Nat.reduceEqDiff, Nat.add_zero, Nat.add_sub_cancel, Option.toList, List.cons_append, List.nil_append, i179_130, i179_131, i179_137, i179_138]
        · obtain ⟨mm, hmm⟩ : ∃ mm, mm = (e_f FE0 (d_erw hu') (z_S (IC' 59)) i).1 := ⟨_, rfl⟩
          have hmi : mm ≤ i := by rw [hmm]; exact e_f_le i
          have n3 := n1 hS
          rw [← hmm] at n3
          have h32 : h' 32 = nI mm := by rw [hmm]; exact r3.2.2.2.2.2.2.2.1
          obtain ⟨IC2, g2, h2, hu2, fe2, ag2, y2, ma2, i2, i3, w42, w62, w72, s1, s2, s3, s4⟩ := ih (i + 1) (by omega) IC' g' _ hu' _ ag' y' (.int (nI u')) (.int (m_bl true)) (.int (nI u')) n3 (by omega)
          refine ⟨IC2, g2, h2, hu2, fe2, ag2, y2, ma2, i2, i3, w42, w62, w72, fun Q => (runC Q).trans (s1 Q), fun J1 hs Q => ?_, s3, s4⟩
          have ht55 : 55 ≤ t := by omega
          have c178' : ∀ {m n : Nat} {ls st : List Value} {Q : Option Value → Nat → m_I → m_L → m_R → Prop}, WPC V 178 [.ref 27, .int (nI i)] m n ls st t (eM J1 g' h' hu' fe ag') L (m_RR e 48 48) Q = WP V m n ls st t (eM J1 g' (m_sc h' 32 (nI (e_st (d_erw hu' i) (mm, fe)).1)) hu' (e_st (d_erw hu' i) (mm, fe)).2 ag') L (m_RR e 48 48) Q := fun {m n ls st Q} => by
            rw [c178 (k := mm) ht55 hi4 (by omega) (by rw [eM_27]; exact h32), eM_45, eM_47]
            unfold n_gm
            rw [eM_s47, eM_27, eM_s27]
          rw [runM J1 hs Q, hS, Bool.not_true, ← s2 J1 hs Q]
          simp (disch := first | assumption | omega | decide) only [nI_add, n_mul, n_sub, n_le, n_lt, n_eq, n_ne1, n_0, m_bl_t, m_bl_f, if_true, if_false, Nat.reduceAdd, Nat.reduceMul, Nat.reduceSub, Nat.reduceLeDiff, Nat.reduceEqDiff, Nat.add_zero, Nat.add_sub_cancel, Option.toList, List.cons_append, List.nil_append, i179_130, i179_131, i179_132, i179_133, i179_134, i179_135, i179_136, i179_137, i179_138, n10, c178']
end RBL
