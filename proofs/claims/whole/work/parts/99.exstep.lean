/-! explore: one thread's step, both -/
section RBK
variable {V : m_V} {t m n : Nat} {ls st : List Value} {IB IC I : m_I} {L : m_L} {e : Option Nat} {Q : Option Value → Nat → m_I → m_L → m_R → Prop} {f g h hB hu fe ag FE0 : Nat → Int32} {u k c b b2 i y N NN own s : Nat}
theorem x_found {f3 g3 mt h3 : Nat → Int32} {c' b' : Nat} (hb : NN < 900000) (hL : rl_L f3 g3 h3 c' b' b2) (hc : c' < 2147483648) (hr : z_RK f3) (h561 : ∀ u, u < 3 → f3 (561 + u) = IB 2 (561 + u)) (hy : y ≤ 400) (hH : ∀ i', i' < y → x_HR IB hB NN own i' (z_row mt i') (h_row hu i')) : (∃ i', i' < y ∧ z_lk (z_row mt i') f3) ↔ s_any (fun hh => d_lkb hu g3 (612 * hh)) 0 y = true := by
  rw [s_any_iff]
  constructor
  · rintro ⟨i', hi, hk⟩
    obtain ⟨⟨c, b, c1, b1, hLi⟩, ri, qi⟩ := hH i' hi
    refine ⟨i', by omega, by omega, ?_⟩
    rw [d_lkb_iff]
    exact lk_to hL hLi hc (by omega) (fun u hu => (qi u hu).trans (h561 u hu).symm) hk
  · rintro ⟨i', _, hi, hk⟩
    obtain ⟨⟨c, b, c1, b1, hLi⟩, ri, qi⟩ := hH i' (by omega)
    rw [d_lkb_iff] at hk
    exact ⟨i', by omega, lk_from hL hLi hr ri hk⟩
theorem z_D4_of {h : Nat → Int32} (hL : rl_L f g h c b b2) : z_D4 f := by
  intro u hu
  obtain ⟨d, o, ht⟩ := hL.2.1 u hu
  have e1 := ht.2.2.2.1.1
  have e2 := ht.2.2.2.1.2.2.1
  unfold z_dd
  rw [e1, nI_clamp (by omega)]
  exact ⟨rfl, e2⟩
theorem rl_can {h : Nat → Int32} (hL : rl_L f g h c b b2) (hu : u < 3) : d_goon g u = c_can f u := by
  obtain ⟨d, o, ht⟩ := hL.2.1 u hu
  unfold d_goon c_can
  rw [← ht.1.1]
theorem n_3i {own i : Nat} : nI own + nI 3 * nI i + nI 10 = nI (own + 3 * i + 10) := by rw [n_mul, nI_add, nI_add]
set_option maxRecDepth 20000 in
theorem ex_step (ht : 62 ≤ t) (hB0 : x_B L IB hB NN own N) (hX : x_I IB hB FE0 NN own N IC h hu fe y i) (hi : i < y) (hu3 : u < 3) :
    ∃ IC' g' h' hu' ag' y' ma, (∀ Q, WP V 34 42 [.ref 55, .int (nI N), .int (m_bl true), .int (nI i), .int (nI u)] [] t IC L (m_RR e 28 48) Q = WP V 34 42 [.ref 55, .int (nI N), .int (m_bl ma), .int (nI i), .int (nI (u + 1))] [] t IC' L (m_RR e 28 48) Q) ∧ (∀ J1, st_eq2 J1 IB → ∀ Q, WP V 179 74 [.ref 27, .int (nI N), .ref 28, .int (nI own), .int (m_bl false), .int (nI i), .int (m_bl (z_S (IC 59) i)), .int (nI u)] [] t (eM J1 g h hu fe ag) L (m_RR e 48 48) Q = WP V 179 74 [.ref 27, .int (nI N), .ref 28, .int (nI own), .int (m_bl (!ma)), .int (nI i), .int (m_bl (z_S (IC' 59) i)), .int (nI (u + 1))] [] t (eM J1 g' h' hu' fe ag') L (m_RR e 48 48) Q) ∧ x_I IB hB FE0 NN own N IC' h' hu' fe y' i ∧ i < y' := by
  obtain ⟨hro, hcd, ⟨kk, kk1, kk2⟩, hn3, ⟨nn17, n171, n172⟩, hB5, hNN, hown, hN⟩ := id hB0
  obtain ⟨a1, a2, a3, a4, a5, a6, a7, a8, a9⟩ := id hX
  have hu3' : ¬ 3 ≤ u := by omega
  have n10 : ¬ nI 1 = nI 0 := by decide
  have hy4 : y ≤ 400 := by omega
  have hi4 : i < 400 := by omega
  obtain ⟨⟨c, b, c1, b1, hL0⟩, _, q561⟩ := a5 i hi
  -- the class takes the house
  obtain ⟨f1, hf1⟩ : ∃ f1, f1 = va_cpy (IC 57) (IC 2) (i * 581) 0 581 := ⟨_, rfl⟩
  obtain ⟨IC1, hIC1⟩ : ∃ IC1, IC1 = m_sc IC 2 f1 := ⟨_, rfl⟩
  have i12 : IC1 2 = f1 := by rw [hIC1, m_sc_self]
  have i1o : ∀ k, k ≠ 2 → IC1 k = IC k := fun k hk => by rw [hIC1, m_sc_ne hk]
  have f1j : ∀ j, j < 581 → f1 j = z_row (IC 57) i j := fun j hj => by
    rw [hf1]; unfold va_cpy z_row; rw [if_pos (by omega), Nat.sub_zero]
  have runC : ∀ Q, WP V 34 42 [.ref 55, .int (nI N), .int (m_bl true), .int (nI i), .int (nI u)] [] t IC L (m_RR e 28 48) Q = if c_can f1 u = true then WP V 34 62 [.ref 55, .int (nI N), .int (m_bl true), .int (nI i), .int (nI u)] [] t IC1 L (m_RR e 28 48) Q else WP V 34 42 [.ref 55, .int (nI N), .int (m_bl true), .int (nI i), .int (nI (u + 1))] [] t IC1 L (m_RR e 28 48) Q := fun Q => by
    have hl : i * 581 + 581 ≤ 232400 := by omega
    have c50' : ∀ {m n : Nat} {ls st : List Value} {Q : Option Value → Nat → m_I → m_L → m_R → Prop}, WPC V 50 [.ref 1, .int (nI u)] m n ls st t IC1 L (m_RR e 28 48) Q = WP V m n ls (.int (m_bl (c_can f1 u)) :: st) t IC1 L (m_RR e 28 48) Q := fun {m n ls st Q} => by rw [c50 (by omega) hu3, i12]
    rw [i34_42]
    cases hc : c_can f1 u
    · rw [if_neg Bool.false_ne_true]
      simp (disch := first | assumption | omega | decide) only [nI_add, n_mul, n_sub, n_le, n_lt, n_eq, n_ne1, n_0, m_bl_t, m_bl_f, if_true, if_false, Nat.reduceAdd, Nat.reduceMul, Nat.reduceSub, Nat.reduceLeDiff, Nat.reduceEqDiff, Nat.add_zero, Nat.add_sub_cancel, Option.toList, List.cons_append, List.nil_append, i34_43, i34_44, i34_45, i34_46, i34_47, i34_48, i34_49, i34_50, i34_51, i34_52, i34_53, i34_54, i34_55, i34_56, rv_55_2, rv_55_4, hu3', n10]
      rw [← hf1, ← hIC1]
      simp (disch := first | assumption | omega | decide) only [nI_add, n_mul, n_sub, n_le, n_lt, n_eq, n_ne1, n_0, m_bl_t, m_bl_f, if_true, if_false, Nat.reduceAdd, Nat.reduceMul, Nat.reduceSub, Nat.reduceLeDiff, Nat.reduceEqDiff, Nat.add_zero, Nat.add_sub_cancel, Option.toList, List.cons_append, List.nil_append, i34_57, i34_58, i34_59, i34_60, i34_61, i34_77, i34_78, rv_55_0, c50', hc, b_0]
    · rw [if_pos rfl]
      simp (disch := first | assumption | omega | decide) only [nI_add, n_mul, n_sub, n_le, n_lt, n_eq, n_ne1, n_0, m_bl_t, m_bl_f, if_true, if_false, Nat.reduceAdd, Nat.reduceMul, Nat.reduceSub, Nat.reduceLeDiff, Nat.reduceEqDiff, Nat.add_zero, Nat.add_sub_cancel, Option.toList, List.cons_append, List.nil_append, i34_43, i34_44, i34_45, i34_46, i34_47, i34_48, i34_49, i34_50, i34_51, i34_52, i34_53, i34_54, i34_55, i34_56, rv_55_2, rv_55_4, hu3', n10]
      rw [← hf1, ← hIC1]
      simp (disch := first | assumption | omega | decide) only [nI_add, n_mul, n_sub, n_le, n_lt, n_eq, n_ne1, n_0, m_bl_t, m_bl_f, if_true, if_false, Nat.reduceAdd, Nat.reduceMul, Nat.reduceSub, Nat.reduceLeDiff, Nat.reduceEqDiff, Nat.add_zero, Nat.add_sub_cancel, Option.toList, List.cons_append, List.nil_append, i34_57, i34_58, i34_59, i34_60, i34_61, rv_55_0, c50', hc, b_0, Bool.true_eq_false]
  -- the model takes it
  obtain ⟨g1, hg1⟩ : ∃ g1, g1 = va_cpy hu g (612 * i) 0 612 := ⟨_, rfl⟩
  obtain ⟨h1, hh1⟩ : ∃ h1, h1 = m_sc h 2 (nI (own + 3 * i + 10)) := ⟨_, rfl⟩
  have g1j : ∀ j, j < 612 → g1 j = h_row hu i j := fun j hj => by
    rw [hg1]; unfold va_cpy h_row; rw [if_pos (by omega), Nat.sub_zero]
  have h1o : ∀ j, j ≠ 2 → h1 j = h j := fun j hj => by rw [hh1, m_sc_ne hj]
  have hL1 : rl_L f1 g1 h1 c b (own + 3 * i + 10) := by
    refine rl_h2 (rl_L_cg hL0 f1j g1j rfl rfl) ?_ (by rw [hh1, m_sc_self]) (by omega) (by omega)
    rw [h1o 1 (by omega), a6 1 (by omega) (by omega) (by omega) (by omega) (by omega), m_sc_ne (by omega)]
  have hcan := rl_can hL1 hu3
  have runM : ∀ J1, st_eq2 J1 IB → ∀ (S0 : Bool) Q, WP V 179 74 [.ref 27, .int (nI N), .ref 28, .int (nI own), .int (m_bl false), .int (nI i), .int (m_bl S0), .int (nI u)] [] t (eM J1 g h hu fe ag) L (m_RR e 48 48) Q = if c_can f1 u = true then WP V 179 95 [.ref 27, .int (nI N), .ref 28, .int (nI own), .int (m_bl false), .int (nI i), .int (m_bl S0), .int (nI u)] [] t (eM J1 g1 h1 hu fe ag) L (m_RR e 48 48) Q else WP V 179 74 [.ref 27, .int (nI N), .ref 28, .int (nI own), .int (m_bl false), .int (nI i), .int (m_bl S0), .int (nI (u + 1))] [] t (eM J1 g1 h1 hu fe ag) L (m_RR e 48 48) Q := fun J1 hs S0 Q => by
    have ht55 : 55 ≤ t := by omega
    have c177' : ∀ {m n : Nat} {ls st : List Value} {Q : Option Value → Nat → m_I → m_L → m_R → Prop}, WPC V 177 [.ref 27, .int (nI i)] m n ls st t (eM J1 g h hu fe ag) L (m_RR e 48 48) Q = WP V m n ls st t (eM J1 g1 h hu fe ag) L (m_RR e 48 48) Q := fun {m n ls st Q} => by rw [c177 ht55 hi4, eM_45, eM_48, eM_s48, ← hg1]
    have s27 : ∀ X, m_sc (eM J1 g1 h hu fe ag) 27 X = eM J1 g1 X hu fe ag := fun X => eM_s27
    have r27 : eM J1 g1 h hu fe ag 27 = h := eM_27
    have c168' : ∀ {m n : Nat} {ls st : List Value} {Q : Option Value → Nat → m_I → m_L → m_R → Prop}, WPC V 168 [.ref 27, .int (nI u)] m n ls st t (eM J1 g1 h1 hu fe ag) L (m_RR e 48 48) Q = WP V m n ls (.int (m_bl (c_can f1 u)) :: st) t (eM J1 g1 h1 hu fe ag) L (m_RR e 48 48) Q := fun {m n ls st Q} => by rw [c168x ht55 hu3, eM_48, hcan]
    rw [i179_74]
    cases hc : c_can f1 u
    · rw [if_neg Bool.false_ne_true]
      simp (disch := first | assumption | omega | decide) only [nI_add, n_mul, n_sub, n_le, n_lt, n_eq, n_ne1, n_0, m_bl_t, m_bl_f, if_true, if_false, Nat.reduceAdd, Nat.reduceMul, Nat.reduceSub, Nat.reduceLeDiff, Nat.reduceEqDiff, Nat.add_zero, Nat.add_sub_cancel, Option.toList, List.cons_append, List.nil_append, i179_75, i179_76, i179_77, i179_78, i179_79, i179_80, i179_81, i179_82, i179_83, i179_84, i179_85, i179_86, i179_87, i179_88, i179_89, i179_90, hu3', c177', s27, r27]
      rw [← hh1]
      simp (disch := first | assumption | omega | decide) only [nI_add, n_mul, n_sub, n_le, n_lt, n_eq, n_ne1, n_0, m_bl_t, m_bl_f, if_true, if_false, Nat.reduceAdd, Nat.reduceMul, Nat.reduceSub, Nat.reduceLeDiff, Nat.reduceEqDiff, Nat.add_zero, Nat.add_sub_cancel, Option.toList, List.cons_append, List.nil_append, i179_91, i179_92, i179_93, i179_94, i179_128, i179_129, c168', hc, b_0]
    · rw [if_pos rfl]
      simp (disch := first | assumption | omega | decide) only [nI_add, n_mul, n_sub, n_le, n_lt, n_eq, n_ne1, n_0, m_bl_t, m_bl_f, if_true, if_false, Nat.reduceAdd, Nat.reduceMul, Nat.reduceSub, Nat.reduceLeDiff, Nat.reduceEqDiff, Nat.add_zero, Nat.add_sub_cancel, Option.toList, List.cons_append, List.nil_append, i179_75, i179_76, i179_77, i179_78, i179_79, i179_80, i179_81, i179_82, i179_83, i179_84, i179_85, i179_86, i179_87, i179_88, i179_89, i179_90, hu3', c177', s27, r27]
      rw [← hh1]
      simp (disch := first | assumption | omega | decide) only [nI_add, n_mul, n_sub, n_le, n_lt, n_eq, n_ne1, n_0, m_bl_t, m_bl_f, if_true, if_false, Nat.reduceAdd, Nat.reduceMul, Nat.reduceSub, Nat.reduceLeDiff, Nat.reduceEqDiff, Nat.add_zero, Nat.add_sub_cancel, Option.toList, List.cons_append, List.nil_append, i179_91, i179_92, i179_93, i179_94, c168', hc, b_0, Bool.true_eq_false]
  have hX1 : x_I IB hB FE0 NN own N IC1 h1 hu fe y i := x_I_k hX (fun k k1 _ => i1o k k1) (fun j j1 _ _ => h1o j j1)
  have s59 : IC1 59 = IC 59 := i1o 59 (by omega)
  cases hc : c_can f1 u
  · rw [hc] at runC runM
    exact ⟨IC1, g1, h1, hu, ag, y, true, fun Q => by rw [runC Q, if_neg Bool.false_ne_true], fun J1 hs Q => by rw [runM J1 hs _ Q, if_neg Bool.false_ne_true, s59, Bool.not_true], hX1, hi⟩
  · rw [hc] at runC runM
    have hst : f1 (3 + u) = nI 1 ∨ f1 (3 + u) = nI 4 := by
      unfold c_can at hc
      rw [Bool.or_eq_true, decide_eq_true_eq, decide_eq_true_eq] at hc
      exact hc
    have i1B : ∀ k, k ≠ 2 → k ≠ 26 → k ≠ 55 → k ≠ 57 → k ≠ 58 → k ≠ 59 → k ≠ 60 → IC1 k = IB k := fun k k1 k2 k3 k4 k5 k6 k7 => (i1o k k1).trans (a1 k k1 k2 k3 k4 k5 k6 k7)
    have hsB : st_eq IC1 IB := ⟨i1B 4 (by omega) (by omega) (by omega) (by omega) (by omega) (by omega) (by omega), i1B 5 (by omega) (by omega) (by omega) (by omega) (by omega) (by omega) (by omega), i1B 7 (by omega) (by omega) (by omega) (by omega) (by omega) (by omega) (by omega), i1B 8 (by omega) (by omega) (by omega) (by omega) (by omega) (by omega) (by omega), i1B 29 (by omega) (by omega) (by omega) (by omega) (by omega) (by omega) (by omega), i1B 30 (by omega) (by omega) (by omega) (by omega) (by omega) (by omega) (by omega), i1B 31 (by omega) (by omega) (by omega) (by omega) (by omega) (by omega) (by omega), i1B 32 (by omega) (by omega) (by omega) (by omega) (by omega) (by omega) (by omega), i1B 33 (by omega) (by omega) (by omega) (by omega) (by omega) (by omega) (by omega), i1B 34 (by omega) (by omega) (by omega) (by omega) (by omega) (by omega) (by omega), i1B 35 (by omega) (by omega) (by omega) (by omega) (by omega) (by omega) (by omega), i1B 36 (by omega) (by omega) (by omega) (by omega) (by omega) (by omega) (by omega)⟩
    have i110 : IC1 10 = IB 10 := i1B 10 (by omega) (by omega) (by omega) (by omega) (by omega) (by omega) (by omega)
    have h1B : ∀ j, j ≠ 2 → j ≠ 22 → j ≠ 23 → j ≠ 27 → j ≠ 32 → h1 j = hB j := fun j j1 j2 j3 j4 j5 => (h1o j j1).trans (a6 j j1 j2 j3 j4 j5)
    obtain ⟨v, f2, g262, g2, h2, s1, s2, ⟨c', b', b2', z1, z2, z3, hL2⟩, s4, s5⟩ := rl_xse (V := V) (t := t) (e := e) (bb := 48) (g26 := IC1 26) (nn := IC1 10) (ww := IC1 11) (J0 := IC1) (k := kk) (n := nn17) (rl_ro_cg hsB hro) (rl_cd_cg hsB hcd) hL1 (by rw [i110]; exact kk2) (by rw [i110]; exact hn3) ((h1B 17 (by omega) (by omega) (by omega) (by omega) (by omega)).trans n172) n171 (by rw [h1B 5 (by omega) (by omega) (by omega) (by omega) (by omega)]; exact hB5) hu3 hst (by omega) (by omega) (by omega) kk1 (by omega)
    have es : mC IC1 f1 (IC1 26) (IC1 10) (IC1 11) = IC1 := by rw [← i12]; exact mC_self
    rw [es] at s1
    obtain ⟨IC2, hIC2⟩ : ∃ IC2, IC2 = mC IC1 f2 g262 (IC1 10) (IC1 11) := ⟨_, rfl⟩
    rw [← hIC2] at s1
    have i22 : IC2 2 = f2 := by rw [hIC2]; rfl
    have i2o : ∀ k, k ≠ 2 → k ≠ 26 → IC2 k = IC1 k := fun k k1 k2 => by
      rw [hIC2]
      by_cases q10 : k = 10
      · subst q10; rfl
      · by_cases q11 : k = 11
        · subst q11; rfl
        · exact mC_o ⟨k1, k2, q10, q11⟩
    have s2' : ∀ J1, st_eq2 J1 IB → ∀ Q, WP V 164 0 (m_loc 164 [.ref 27, .int (nI u)]) [] t (eM J1 g1 h1 hu fe ag) L (m_RR e 48 48) Q = Q (some (.int v)) t (eM J1 g2 h2 hu fe ag) L (m_RR e 48 48) := fun J1 hs Q => by
      have h40 : ∀ k, 40 ≤ k → k ≤ 44 → J1 k = IC1 k := fun k k1 k2 => (hs.2 k k1 k2).trans (i1B k (by omega) (by omega) (by omega) (by omega) (by omega) (by omega) (by omega)).symm
      have hst1 : st_eq (eM J1 g1 h1 hu fe ag) IC1 := by
        obtain ⟨b1, b2, b3, b4, b5, b6, b7, b8, b9, b10, b11, b12⟩ := hs.1
        obtain ⟨d1, d2, d3, d4, d5, d6, d7, d8, d9, d10, d11, d12⟩ := hsB
        exact ⟨b1.trans d1.symm, b2.trans d2.symm, b3.trans d3.symm, b4.trans d4.symm, b5.trans d5.symm, b6.trans d6.symm, b7.trans d7.symm, b8.trans d8.symm, b9.trans d9.symm, b10.trans d10.symm, b11.trans d11.symm, b12.trans d12.symm⟩
      have := s2 (eM J1 g1 h1 hu fe ag) hst1 Q
      rw [eM_mM h40, eM_mM h40] at this
      exact this
    have hX2 : x_I IB hB FE0 NN own N IC2 h2 hu fe y i := x_I_k hX1 i2o s5
    have s592 : IC2 59 = IC 59 := (i2o 59 (by omega) (by omega)).trans s59
    by_cases hv : v = nI 0
    · refine ⟨IC2, g2, h2, hu, ag, y, true, fun Q => ?_, fun J1 hs Q => ?_, hX2, hi⟩
      · rw [runC Q, if_pos rfl]
        simp (disch := first | assumption | omega | decide) only [nI_add, n_mul, n_sub, n_le, n_lt, n_eq, n_ne1, n_0, m_bl_t, m_bl_f, if_true, if_false, Nat.reduceAdd, Nat.reduceMul, Nat.reduceSub, Nat.reduceLeDiff, Nat.reduceEqDiff, Nat.add_zero, Nat.add_sub_cancel, Option.toList, List.cons_append, List.nil_append, i34_62, i34_63, i34_64, i34_65, rv_55_1, wpc_of s1]
        rw [i34_66, if_pos hv]
        simp (disch := first | assumption | omega | decide) only [nI_add, n_mul, n_sub, n_le, n_lt, n_eq, n_ne1, n_0, m_bl_t, m_bl_f, if_true, if_false, Nat.reduceAdd, Nat.reduceMul, Nat.reduceSub, Nat.reduceLeDiff, Nat.reduceEqDiff, Nat.add_zero, Nat.add_sub_cancel, Option.toList, List.cons_append, List.nil_append, i34_67, i34_77, i34_78]
      · rw [runM J1 hs _ Q, if_pos rfl, s592, Bool.not_true]
        simp (disch := first | assumption | omega | decide) only [nI_add, n_mul, n_sub, n_le, n_lt, n_eq, n_ne1, n_0, m_bl_t, m_bl_f, if_true, if_false, Nat.reduceAdd, Nat.reduceMul, Nat.reduceSub, Nat.reduceLeDiff, Nat.reduceEqDiff, Nat.add_zero, Nat.add_sub_cancel, Option.toList, List.cons_append, List.nil_append, i179_95, i179_96, i179_97, wpc_of (s2' J1 hs)]
        rw [i179_98, if_pos hv]
        simp (disch := first | assumption | omega | decide) only [nI_add, n_mul, n_sub, n_le, n_lt, n_eq, n_ne1, n_0, m_bl_t, m_bl_f, if_true, if_false, Nat.reduceAdd, Nat.reduceMul, Nat.reduceSub, Nat.reduceLeDiff, Nat.reduceEqDiff, Nat.add_zero, Nat.add_sub_cancel, Option.toList, List.cons_append, List.nil_append, i179_128, i179_129]
    · -- a house is made
      obtain ⟨X3, hX3⟩ : ∃ X3, X3 = m_sc (IC2 59) i (nI 0) := ⟨_, rfl⟩
      obtain ⟨IC3, hIC3⟩ : ∃ IC3, IC3 = m_sc IC2 59 X3 := ⟨_, rfl⟩
      have i3o : ∀ k, k ≠ 59 → IC3 k = IC2 k := fun k hk => by rw [hIC3, m_sc_ne hk]
      have i359 : IC3 59 = X3 := by rw [hIC3, m_sc_self]
      have hXx : x_I IB hB FE0 NN own N IC3 h2 hu fe y i := by
        rw [hIC3]
        exact x_I_s hX2 (fun j hj => by rw [hX3, m_sc_ne (by omega)])
      obtain ⟨e1, e2, e3, e4, e5, e6, e7, e8, e9⟩ := id hXx
      have i32 : IC3 2 = f2 := (i3o 2 (by omega)).trans i22
      have hS3 : z_S X3 i = false := by unfold z_S; rw [hX3, m_sc_self, decide_eq_true rfl]; rfl
      obtain ⟨r, IC4, m1, m2⟩ := z_meet (V := V) (L := L) (e := e) (a := 28) (b := 48) ht hN e4 e3 (by rw [i32]; exact z_D4_of hL2)
      rw [i32] at m2
      obtain ⟨f3, hf3⟩ : ∃ f3, f3 = z_ags f2 := ⟨_, rfl⟩
      obtain ⟨g3, hg3⟩ : ∃ g3, g3 = d_ags g2 := ⟨_, rfl⟩
      rw [← hf3] at m2
      have hLn : rl_L f3 g3 (m_sc hB 2 (nI (own + 10))) c' b' (own + 10) := by
        rw [hf3, hg3]
        refine rl_ags2 hL2 (by omega) (by omega) (by omega) ?_ m_sc_self
        rw [m_sc_ne (by omega), s5 1 (by omega) (by omega) (by omega), h1B 1 (by omega) (by omega) (by omega) (by omega) (by omega)]
      have hrk : z_RK f3 := by rw [hf3]; exact z_RK_ags (rl_dist hL2)
      have h561 : ∀ u, u < 3 → f3 (561 + u) = IB 2 (561 + u) := fun u hu => by
        rw [hf3, z_ags_o (by omega), s4 _ (by omega), f1j _ (by omega)]
        exact q561 u hu
      have hfd := x_found (IB := IB) (hB := hB) (NN := NN) (own := own) (y := y) (mt := IC3 57) (hu := hu) hNN hLn (by omega) hrk h561 hy4 e5
      obtain ⟨ag3, hag3⟩ : ∃ ag3 : m_I → Nat → Int32, ag3 = fun J1 => d_agd (eM J1 g2 h2 hu fe ag) := ⟨_, rfl⟩
      have ag3c : ∀ J1, ag3 J1 = m_sc (m_sc (m_sc ag 0 (nI (d_sum g2 0))) 1 (nI (d_sum g2 1))) 2 (nI (d_sum g2 2)) := fun J1 => by rw [hag3]; rfl
      obtain ⟨ag4, hag4⟩ : ∃ ag4, ag4 = m_sc (m_sc (m_sc ag 0 (nI (d_sum g2 0))) 1 (nI (d_sum g2 1))) 2 (nI (d_sum g2 2)) := ⟨_, rfl⟩
      have h27y : h2 27 = nI y := e7
      have runC2 : ∀ Q, WP V 34 62 [.ref 55, .int (nI N), .int (m_bl true), .int (nI i), .int (nI u)] [] t IC1 L (m_RR e 28 48) Q = WP V 34 42 [.ref 55, .int (nI N), .int (m_bl r), .int (nI i), .int (nI (u + 1))] [] t IC4 L (m_RR e 28 48) Q := fun Q => by
        have q0 : nI 0 &&& 1 = nI 0 := by decide
        simp (disch := first | assumption | omega | decide) only [nI_add, n_mul, n_sub, n_le, n_lt, n_eq, n_ne1, n_0, m_bl_t, m_bl_f, if_true, if_false, Nat.reduceAdd, Nat.reduceMul, Nat.reduceSub, Nat.reduceLeDiff, Nat.reduceEqDiff, Nat.add_zero, Nat.add_sub_cancel, Option.toList, List.cons_append, List.nil_append, i34_62, i34_63, i34_64, i34_65, rv_55_1, wpc_of s1]
        rw [i34_66, if_neg hv]
        simp (disch := first | assumption | omega | decide) only [nI_add, n_mul, n_sub, n_le, n_lt, n_eq, n_ne1, n_0, m_bl_t, m_bl_f, if_true, if_false, Nat.reduceAdd, Nat.reduceMul, Nat.reduceSub, Nat.reduceLeDiff, Nat.reduceEqDiff, Nat.add_zero, Nat.add_sub_cancel, Option.toList, List.cons_append, List.nil_append, i34_68, i34_69, i34_70, i34_71, i34_72, rv_55_6, q0]
        rw [← hX3, ← hIC3]
        simp (disch := first | assumption | omega | decide) only [nI_add, n_mul, n_sub, n_le, n_lt, n_eq, n_ne1, n_0, m_bl_t, m_bl_f, if_true, if_false, Nat.reduceAdd, Nat.reduceMul, Nat.reduceSub, Nat.reduceLeDiff, Nat.reduceEqDiff, Nat.add_zero, Nat.add_sub_cancel, Option.toList, List.cons_append, List.nil_append, i34_73, i34_74, i34_75, i34_76, i34_77, i34_78, wpc_of m1]
      have runM2 : ∀ J1, st_eq2 J1 IB → ∀ (S0 : Bool) Q, WP V 179 95 [.ref 27, .int (nI N), .ref 28, .int (nI own), .int (m_bl false), .int (nI i), .int (m_bl S0), .int (nI u)] [] t (eM J1 g1 h1 hu fe ag) L (m_RR e 48 48) Q = if s_any (fun hh => d_lkb hu g3 (612 * hh)) 0 y = true then WP V 179 128 [.ref 27, .int (nI N), .ref 28, .int (nI own), .int (m_bl false), .int (nI i), .int (m_bl false), .int (nI u)] [] t (eM J1 g3 h2 hu fe ag4) L (m_RR e 48 48) Q else WP V 179 106 [.ref 27, .int (nI N), .ref 28, .int (nI own), .int (m_bl false), .int (nI i), .int (m_bl false), .int (nI u)] [] t (eM J1 g3 h2 hu fe ag4) L (m_RR e 48 48) Q := fun J1 hs S0 Q => by
        have ht55 : 55 ≤ t := by omega
        have c180' : ∀ {m n : Nat} {ls st : List Value} {Q : Option Value → Nat → m_I → m_L → m_R → Prop}, WPC V 180 [.ref 27] m n ls st t (eM J1 g2 h2 hu fe ag) L (m_RR e 48 48) Q = WP V m n ls st t (eM J1 g3 h2 hu fe ag4) L (m_RR e 48 48) Q := fun {m n ls st Q} => by
          rw [c180 ht55, eM_48, eM_s49, eM_s48, ← hg3]
          have : d_agd (eM J1 g2 h2 hu fe ag) = ag4 := by rw [hag4]; rfl
          rw [this]
        have c176' : ∀ {m n : Nat} {ls st : List Value} {Q : Option Value → Nat → m_I → m_L → m_R → Prop}, WPC V 176 [.ref 27] m n ls st t (eM J1 g3 h2 hu fe ag4) L (m_RR e 48 48) Q = WP V m n ls (.int (m_bl (s_any (fun hh => d_lkb hu g3 (612 * hh)) 0 y)) :: st) t (eM J1 g3 h2 hu fe ag4) L (m_RR e 48 48) Q := fun {m n ls st Q} => by
          rw [c176 ht55 hy4 (by rw [eM_27]; exact h27y), eM_45, eM_48]
        cases hb : s_any (fun hh => d_lkb hu g3 (612 * hh)) 0 y
        · rw [if_neg Bool.false_ne_true]
          simp (disch := first | assumption | omega | decide) only [nI_add, n_mul, n_sub, n_le, n_lt, n_eq, n_ne1, n_0, m_bl_t, m_bl_f, if_true, if_false, Nat.reduceAdd, Nat.reduceMul, Nat.reduceSub, Nat.reduceLeDiff, Nat.reduceEqDiff, Nat.add_zero, Nat.add_sub_cancel, Option.toList, List.cons_append, List.nil_append, i179_95, i179_96, i179_97, wpc_of (s2' J1 hs)]
          rw [i179_98, if_neg hv]
          simp (disch := first | assumption | omega | decide) only [nI_add, n_mul, n_sub, n_le, n_lt, n_eq, n_ne1, n_0, m_bl_t, m_bl_f, if_true, if_false, Nat.reduceAdd, Nat.reduceMul, Nat.reduceSub, Nat.reduceLeDiff, Nat.reduceEqDiff, Nat.add_zero, Nat.add_sub_cancel, Option.toList, List.cons_append, List.nil_append, i179_99, i179_100, i179_101, i179_102, i179_103, i179_104, i179_105, c180', c176', hb, b_0]
        · rw [if_pos rfl]
          simp (disch := first | assumption | omega | decide) only [nI_add, n_mul, n_sub, n_le, n_lt, n_eq, n_ne1, n_0, m_bl_t, m_bl_f, if_true, if_false, Nat.reduceAdd, Nat.reduceMul, Nat.reduceSub, Nat.reduceLeDiff, Nat.reduceEqDiff, Nat.add_zero, Nat.add_sub_cancel, Option.toList, List.cons_append, List.nil_append, i179_95, i179_96, i179_97, wpc_of (s2' J1 hs)]
          rw [i179_98, if_neg hv]
          simp (disch := first | assumption | omega | decide) only [nI_add, n_mul, n_sub, n_le, n_lt, n_eq, n_ne1, n_0, m_bl_t, m_bl_f, if_true, if_false, Nat.reduceAdd, Nat.reduceMul, Nat.reduceSub, Nat.reduceLeDiff, Nat.reduceEqDiff, Nat.add_zero, Nat.add_sub_cancel, Option.toList, List.cons_append, List.nil_append, i179_99, i179_100, i179_101, i179_102, i179_103, i179_104, i179_105, c180', c176', hb, b_0, Bool.true_eq_false]
      have hXa : ∀ IC5, (∀ k, k ≠ 2 → k ≠ 26 → IC5 k = IC3 k) → x_I IB hB FE0 NN own N IC5 h2 hu fe y i := fun IC5 h5 => x_I_k hXx h5 (fun _ _ _ _ => rfl)
      have hJo : ∀ k, k ≠ 2 → k ≠ 26 → m_sc IC3 2 f3 k = IC3 k := fun k k1 _ => m_sc_ne k1
      rcases m2 with ⟨m3, m4, m5⟩ | ⟨m3, m4⟩
      · -- it is one of those that were met
        have hs : s_any (fun hh => d_lkb hu g3 (612 * hh)) 0 y = true := hfd.mp m5
        refine ⟨IC4, g3, h2, hu, ag4, y, true, fun Q => ?_, fun J1 hs1 Q => ?_, by rw [m4]; exact hXa _ hJo, hi⟩
        · rw [runC Q, if_pos rfl, runC2 Q, m3]
        · rw [runM J1 hs1 _ Q, if_pos rfl, runM2 J1 hs1 _ Q, if_pos hs, m4, m_sc_ne (j := 59) (by omega), i359, hS3, Bool.not_true]
          simp (disch := first | assumption | omega | decide) only [nI_add, n_mul, n_sub, n_le, n_lt, n_eq, n_ne1, n_0, m_bl_t, m_bl_f, if_true, if_false, Nat.reduceAdd, Nat.reduceMul, Nat.reduceSub, Nat.reduceLeDiff, Nat.reduceEqDiff, Nat.add_zero, Nat.add_sub_cancel, Option.toList, List.cons_append, List.nil_append, i179_128, i179_129]
      · have hs : ¬ s_any (fun hh => d_lkb hu g3 (612 * hh)) 0 y = true := fun q => by
          obtain ⟨i', hi', hk⟩ := hfd.mpr q
          exact m3 i' hi' hk
        rcases m4 with ⟨m4, m5, m6⟩ | ⟨m4, m5, sx, hx, m6, m7⟩
        · -- there are more than N
          refine ⟨IC4, g3, h2, hu, ag4, y, false, fun Q => ?_, fun J1 hs1 Q => ?_, by rw [m6]; exact hXa _ hJo, hi⟩
          · rw [runC Q, if_pos rfl, runC2 Q, m4]
          · rw [runM J1 hs1 _ Q, if_pos rfl, runM2 J1 hs1 _ Q, if_neg hs, m6, m_sc_ne (j := 59) (by omega), i359, hS3, Bool.not_false]
            have r27 : eM J1 g3 h2 hu fe ag4 27 = h2 := eM_27
            simp (disch := first | assumption | omega | decide) only [nI_add, n_mul, n_sub, n_le, n_lt, n_eq, n_ne1, n_0, m_bl_t, m_bl_f, if_true, if_false, Nat.reduceAdd, Nat.reduceMul, Nat.reduceSub, Nat.reduceLeDiff, Nat.reduceEqDiff, Nat.add_zero, Nat.add_sub_cancel, Option.toList, List.cons_append, List.nil_append, i179_106, i179_107, i179_108, r27, h27y]
            rw [i179_109, if_pos (by rw [m5])]
            simp (disch := first | assumption | omega | decide) only [nI_add, n_mul, n_sub, n_le, n_lt, n_eq, n_ne1, n_0, m_bl_t, m_bl_f, if_true, if_false, Nat.reduceAdd, Nat.reduceMul, Nat.reduceSub, Nat.reduceLeDiff, Nat.reduceEqDiff, Nat.add_zero, Nat.add_sub_cancel, Option.toList, List.cons_append, List.nil_append, i179_110, i179_111, i179_113, i179_114, i179_115, i179_128, i179_129, n10]
        · -- it is new
          have hyn : ¬ y = N := by omega
          have hy400 : y < 400 := by omega
          have hnew : x_HR IB hB NN own y ((m_sc IC3 2 f3) 2) g3 := by
            rw [m_sc_self]
            exact ⟨⟨c', b', by omega, by omega, hLn⟩, hrk, h561⟩
          refine ⟨IC4, g3, m_sc h2 27 (nI (y + 1)), va_cpy g3 hu 0 (612 * y) 612, ag4, y + 1, true, fun Q => ?_, fun J1 hs1 Q => ?_, ?_, by omega⟩
          · rw [runC Q, if_pos rfl, runC2 Q, m4]
          · rw [runM J1 hs1 _ Q, if_pos rfl, runM2 J1 hs1 _ Q, if_neg hs, m6, z_put_o (k := 59) (by omega), m_sc_ne (j := 59) (by omega), i359, hS3, Bool.not_true]
            have ht55 : 55 ≤ t := by omega
            have r27 : ∀ X, eM J1 g3 h2 X fe ag4 27 = h2 := fun X => eM_27
            have w27 : ∀ X Y, m_sc (eM J1 g3 h2 X fe ag4) 27 Y = eM J1 g3 Y X fe ag4 := fun X Y => eM_s27
            have c172' : ∀ {m n : Nat} {ls st : List Value} {Q : Option Value → Nat → m_I → m_L → m_R → Prop}, WPC V 172 [.ref 27, .ref 48, .int (nI y)] m n ls st t (eM J1 g3 h2 hu fe ag4) L (m_RR e 48 48) Q = WP V m n ls st t (eM J1 g3 h2 (va_cpy g3 hu 0 (612 * y) 612) fe ag4) L (m_RR e 48 48) Q := fun {m n ls st Q} => by
              rw [c172 ht55 hy400, eM_48, eM_45, eM_s45]
            simp (disch := first | assumption | omega | decide) only [nI_add, n_mul, n_sub, n_le, n_lt, n_eq, n_ne1, n_0, m_bl_t, m_bl_f, if_true, if_false, Nat.reduceAdd, Nat.reduceMul, Nat.reduceSub, Nat.reduceLeDiff, Nat.reduceEqDiff, Nat.add_zero, Nat.add_sub_cancel, Option.toList, List.cons_append, List.nil_append, i179_106, i179_107, i179_108, r27, h27y]
            rw [i179_109, if_neg (by rw [n_eq (by omega) (by omega)]; exact hyn)]
            simp (disch := first | assumption | omega | decide) only [nI_add, n_mul, n_sub, n_le, n_lt, n_eq, n_ne1, n_0, m_bl_t, m_bl_f, if_true, if_false, Nat.reduceAdd, Nat.reduceMul, Nat.reduceSub, Nat.reduceLeDiff, Nat.reduceEqDiff, Nat.add_zero, Nat.add_sub_cancel, Option.toList, List.cons_append, List.nil_append, i179_112, i179_113, i179_114, i179_115, i179_116, i179_117, i179_118, i179_119, i179_120, i179_121, i179_122, i179_123, i179_124, i179_125, i179_126, i179_127, i179_128, i179_129, rv_27_0, r27, w27, h27y, c172']
          · rw [m6] at m7 ⊢
            exact x_I_p (hXa _ hJo) m5 hi m7 hnew
end RBK
