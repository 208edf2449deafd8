/-! the run of steps, both -/
theorem n_md3 {u : Nat} (hu : u < 3) : nI (u + 1) - nI (u + 1) / nI 3 * nI 3 = nI ((u + 1) % 3) := by
  obtain rfl | rfl | rfl : u = 0 ∨ u = 1 ∨ u = 2 := by omega
  all_goals decide
def c_can (f : Nat → Int32) (u : Nat) : Bool := decide (f (3 + u) = nI 1) || decide (f (3 + u) = nI 4)
section T55
variable {V : m_V} {t m n : Nat} {ls st : List Value} {I J : m_I} {f g26 nn ww g h : Nat → Int32} {o : m_I} {L : m_L} {R : m_R} {e : Option Nat} {a b : Nat} {Q : Option Value → Nat → m_I → m_L → m_R → Prop} {u x k : Nat}
theorem w50 (ht : 55 ≤ t) (hu : u < 3) : WP V 50 0 (m_loc 50 [.ref 1, .int (nI u)]) [] t I L (m_RR e a b) Q = Q (some (.int (m_bl (c_can (I 2) u)))) t I L (m_RR e a b) := by
  rw [show m_loc 50 [.ref 1, .int (nI u)] = [.ref 1, .int (nI u), m_u] from rfl]
  simp (disch := first | assumption | omega | decide) only [nI_add, n_mul, n_sub, n_le, n_lt, n_eq, n_ne1, n_0, m_bl_t, m_bl_f, if_true, if_false, Nat.reduceAdd, Nat.reduceMul, Nat.reduceSub, Nat.reduceLeDiff, Nat.reduceEqDiff, Nat.add_zero, Nat.add_sub_cancel, Option.toList, List.cons_append, List.nil_append, i50_0, i50_1, i50_2, i50_3, i50_4, i50_5, i50_6, i50_7, i50_8, i50_9, i50_10, i50_11, i50_12, i50_13, i50_14, i50_15, i50_16, rv_13_0, rv_1_0]
  unfold c_can
  by_cases h1 : I 2 (3 + u) = nI 1
  · simp [h1, m_bl]
  · by_cases h2 : I 2 (3 + u) = nI 4
    · have h3 : ¬ nI 4 = nI 1 := by decide
      simp [h2, h3, m_bl]
    · simp [h1, h2, m_bl]
theorem c50 (ht : 55 ≤ t) (hu : u < 3) : WPC V 50 [.ref 1, .int (nI u)] m n ls st t I L (m_RR e a b) Q = WP V m n ls ((.int (m_bl (c_can (I 2) u))) :: st) t I L (m_RR e a b) Q := wpc_of (fun Q => w50 ht hu)
theorem w122 {v : Int32} : WP V 122 0 (m_loc 122 [.int v]) [] t I L R Q = Q (some (.int (m_bl (d_in v (nI 0) (nI 2))))) t I L R := by
  rw [show m_loc 122 [.int v] = [.int v] from rfl]
  simp (disch := first | assumption | omega | decide) only [i122_0, i122_1, i122_2, i122_3, c111, Option.toList, List.cons_append, List.nil_append]
  rw [i122_4 (m_01_bl _)]
theorem c122 {v : Int32} : WPC V 122 [.int v] m n ls st t I L R Q = WP V m n ls ((.int (m_bl (d_in v (nI 0) (nI 2)))) :: st) t I L R Q := wpc_of (fun Q => w122 )
theorem n_md6 (hx : x < 606) : nI x - nI x / nI 3 * nI 3 = nI (x % 3) := by
  have key : ∀ y : Fin 606, nI y.val - nI y.val / nI 3 * nI 3 = nI (y.val % 3) := by decide +kernel
  exact key ⟨x, hx⟩
theorem w97_53 {w0 w1 w2 w3 w4 w7 : Value} {y5 : Int32} : WP V 97 53 [w0, w1, w2, w3, w4, .int y5, .int (nI x), w7] [] t I L R Q = WP V 97 21 [w0, w1, w2, w3, w4, .int y5, .int (nI (x + 1)), w7] [] t I L R Q := by
  simp (disch := first | assumption | omega | decide) only [i97_53, i97_54, nI_add]
theorem w97_30 (h : k + x < 606) (hu : (k + x) % 3 = u) {w0 w2 w3 w4 w5 w7 : Value} : WP V 97 30 [w0, .int (nI k), w2, w3, w4, w5, .int (nI x), w7] [] t I L R Q = WP V 97 36 [w0, .int (nI k), w2, w3, w4, w5, .int (nI x), .int (nI u)] [] t I L R Q := by
  have h3 : ¬ nI 3 = 0 := by decide
  simp (disch := first | assumption | omega | decide) only [i97_30, i97_31, i97_32, i97_33, nI_add]
  rw [i97_34 h3, i97_35, n_md6 h, hu]
theorem w171_56 (hu : u < 3) {w0 w1 w2 w3 w4 : Value} {y5 : Int32} {w7 : Value} : WP V 171 56 [w0, w1, w2, w3, w4, .int y5, .int (nI u), w7] [] t I L R Q = WP V 171 20 [w0, w1, w2, w3, w4, .int y5, .int (nI ((u + 1) % 3)), w7] [] t I L R Q := by
  have h3 : ¬ nI 3 = 0 := by decide
  simp (disch := first | assumption | omega | decide) only [i171_56, i171_57, i171_58, i171_59, nI_add]
  rw [i171_60 h3]
  simp (disch := first | assumption | omega | decide) only [i171_61, i171_62, n_md3]
end T55
section RZB
variable {V : m_V} {t m n : Nat} {ls st : List Value} {J0 J1 I : m_I} {L : m_L} {e : Option Nat} {a bb : Nat} {Q : Option Value → Nat → m_I → m_L → m_R → Prop} {f0 nn0 ww0 h0 : Nat → Int32} {o0 : m_I} {v2 : Int32}
theorem rl_canx {N : Nat} {f g h nn ww : Nat → Int32} {oo : m_I} {u : Nat} (hX : rl_XX f0 nn0 ww0 h0 o0 N f g h nn ww oo) (hu : u < 3) : d_goon g u = c_can f u := by
  obtain ⟨c, b, k, n, _, _, _, hL, _⟩ := hX
  obtain ⟨d, o, ht⟩ := hL.2.1 u hu
  unfold d_goon c_can
  rw [← ht.1.1]
theorem rl_XX_le {N M : Nat} {f g h nn ww : Nat → Int32} {oo : m_I} (hX : rl_XX f0 nn0 ww0 h0 o0 N f g h nn ww oo) (hM : N ≤ M) : rl_XX f0 nn0 ww0 h0 o0 M f g h nn ww oo := by
  obtain ⟨c, b, k, n, c1, b1, k1, hL, hE⟩ := hX
  exact ⟨c, b, k, n, by omega, by omega, by omega, hL, hE⟩
theorem run_loop (hro : rl_ro J0 L) (hcd : rl_cd J0) (ht : 55 ≤ t) (ha : m_aa a) (hn : n ≤ 200) {u0 : Nat} (hu0 : u0 < 3) : ∀ (M us i dn u x N : Nat) (f g26 nn ww g h : Nat → Int32) (oo : m_I) (w7 w8 : Value), 4 * (n - us) + (3 - i) ≤ M → us ≤ n → i ≤ 3 → u = (u0 + x) % 3 → dn ≤ us → x ≤ 3 * dn + i → rl_XX f0 nn0 ww0 h0 o0 N f g h nn ww oo → N + (n - us) < 900000 →
    ∃ dn' f' g26' nn' ww' g' h' oo', (∀ Q, WP V 97 21 [.ref 0, .int (nI u0), .int (nI n), .int (nI dn), .int (nI i), .int (nI us), .int (nI x), w8] [] t (mC J0 f g26 nn ww) L (m_RR e a bb) Q = Q (some (.int (nI dn'))) t (mC J0 f' g26' nn' ww') L (m_RR e a bb)) ∧ (∀ J1, st_eq J1 J0 → ∀ Q, WP V 171 20 [.ref 27, .int v2, .int (nI n), .int (nI dn), .int (nI (n - us)), .int (nI i), .int (nI u), w7] [] t (mM J1 a g h oo) L (m_RR e a bb) Q = Q (some (.int (nI dn'))) t (mM J1 a g' h' oo') L (m_RR e a bb)) ∧ rl_XX f0 nn0 ww0 h0 o0 (N + (n - us)) f' g' h' nn' ww' oo' := by
  intro M
  induction M with
  | zero =>
    intro us i dn u x N f g26 nn ww g h oo w7 w8 hM h1 h2 hue hd hx hX hN
    have hu : u < 3 := by omega
    have hx6 : x ≤ 603 := by omega
    have hk : u0 + x < 606 := by omega
    obtain rfl : us = n := by omega
    obtain rfl : i = 3 := by omega
    refine ⟨dn, f, g26, nn, ww, g, h, oo, fun Q => ?_, fun J1 hs0 Q => ?_, rl_XX_le hX (by omega)⟩
    · rw [i97_21]
      by_cases q6 : 603 ≤ x
      · simp (disch := first | assumption | omega | decide) only [nI_add, n_mul, n_sub, n_le, n_lt, n_eq, n_ne1, n_0, m_bl_t, m_bl_f, if_true, if_false, Nat.reduceAdd, Nat.reduceMul, Nat.reduceSub, Nat.reduceLeDiff, Nat.reduceEqDiff, Nat.add_zero, Nat.add_sub_cancel, Option.toList, List.cons_append, List.nil_append, i97_22, i97_23, i97_55, i97_56, q6]
      · simp (disch := first | assumption | omega | decide) only [nI_add, n_mul, n_sub, n_le, n_lt, n_eq, n_ne1, n_0, m_bl_t, m_bl_f, if_true, if_false, Nat.reduceAdd, Nat.reduceMul, Nat.reduceSub, Nat.reduceLeDiff, Nat.reduceEqDiff, Nat.add_zero, Nat.add_sub_cancel, Option.toList, List.cons_append, List.nil_append, i97_22, i97_23, i97_24, i97_25, i97_26, i97_55, i97_56, q6, Nat.le_refl]
    · rw [i171_20]
      simp (disch := first | assumption | omega | decide) only [nI_add, n_mul, n_sub, n_le, n_lt, n_eq, n_ne1, n_0, m_bl_t, m_bl_f, if_true, if_false, Nat.reduceAdd, Nat.reduceMul, Nat.reduceSub, Nat.reduceLeDiff, Nat.reduceEqDiff, Nat.add_zero, Nat.add_sub_cancel, Option.toList, List.cons_append, List.nil_append, i171_21, i171_22, i171_63, i171_64, Nat.le_refl]
  | succ M ih =>
    intro us i dn u x N f g26 nn ww g h oo w7 w8 hM h1 h2 hue hd hx hX hN
    have hu : u < 3 := by omega
    have hx6 : x ≤ 603 := by omega
    have hk : u0 + x < 606 := by omega
    by_cases hus : us = n
    · subst hus
      refine ⟨dn, f, g26, nn, ww, g, h, oo, fun Q => ?_, fun J1 hs0 Q => ?_, rl_XX_le hX (by omega)⟩
      · rw [i97_21]
        by_cases q6 : 603 ≤ x
        · simp (disch := first | assumption | omega | decide) only [nI_add, n_mul, n_sub, n_le, n_lt, n_eq, n_ne1, n_0, m_bl_t, m_bl_f, if_true, if_false, Nat.reduceAdd, Nat.reduceMul, Nat.reduceSub, Nat.reduceLeDiff, Nat.reduceEqDiff, Nat.add_zero, Nat.add_sub_cancel, Option.toList, List.cons_append, List.nil_append, i97_22, i97_23, i97_55, i97_56, q6]
        · simp (disch := first | assumption | omega | decide) only [nI_add, n_mul, n_sub, n_le, n_lt, n_eq, n_ne1, n_0, m_bl_t, m_bl_f, if_true, if_false, Nat.reduceAdd, Nat.reduceMul, Nat.reduceSub, Nat.reduceLeDiff, Nat.reduceEqDiff, Nat.add_zero, Nat.add_sub_cancel, Option.toList, List.cons_append, List.nil_append, i97_22, i97_23, i97_24, i97_25, i97_26, i97_55, i97_56, q6, Nat.le_refl]
      · rw [i171_20]
        by_cases hi3 : 3 ≤ i
        · simp (disch := first | assumption | omega | decide) only [nI_add, n_mul, n_sub, n_le, n_lt, n_eq, n_ne1, n_0, m_bl_t, m_bl_f, if_true, if_false, Nat.reduceAdd, Nat.reduceMul, Nat.reduceSub, Nat.reduceLeDiff, Nat.reduceEqDiff, Nat.add_zero, Nat.add_sub_cancel, Option.toList, List.cons_append, List.nil_append, i171_21, i171_22, i171_63, i171_64, hi3]
        · have h00 : (0 : Nat) ≤ 0 := Nat.le_refl _
          simp (disch := first | assumption | omega | decide) only [nI_add, n_mul, n_sub, n_le, n_lt, n_eq, n_ne1, n_0, m_bl_t, m_bl_f, if_true, if_false, Nat.reduceAdd, Nat.reduceMul, Nat.reduceSub, Nat.reduceLeDiff, Nat.reduceEqDiff, Nat.add_zero, Nat.add_sub_cancel, Option.toList, List.cons_append, List.nil_append, i171_21, i171_22, i171_23, i171_24, i171_63, i171_64, hi3, Nat.sub_self, Nat.le_refl]
    · have hus2 : ¬ n ≤ us := by omega
      have q6 : ¬ 603 ≤ x := by omega
      have hleft : ¬ n - us ≤ 0 := by omega
      by_cases hi3 : 3 ≤ i
      · refine ⟨dn, f, g26, nn, ww, g, h, oo, fun Q => ?_, fun J1 hs0 Q => ?_, rl_XX_le hX (by omega)⟩
        · rw [i97_21]
          simp (disch := first | assumption | omega | decide) only [nI_add, n_mul, n_sub, n_le, n_lt, n_eq, n_ne1, n_0, m_bl_t, m_bl_f, if_true, if_false, Nat.reduceAdd, Nat.reduceMul, Nat.reduceSub, Nat.reduceLeDiff, Nat.reduceEqDiff, Nat.add_zero, Nat.add_sub_cancel, Option.toList, List.cons_append, List.nil_append, i97_22, i97_23, i97_24, i97_25, i97_26, i97_27, i97_28, i97_29, i97_55, i97_56, q6, hus2, hi3]
        · rw [i171_20]
          simp (disch := first | assumption | omega | decide) only [nI_add, n_mul, n_sub, n_le, n_lt, n_eq, n_ne1, n_0, m_bl_t, m_bl_f, if_true, if_false, Nat.reduceAdd, Nat.reduceMul, Nat.reduceSub, Nat.reduceLeDiff, Nat.reduceEqDiff, Nat.add_zero, Nat.add_sub_cancel, Option.toList, List.cons_append, List.nil_append, i171_21, i171_22, i171_63, i171_64, hi3]
      · have hm3 : (u + 1) % 3 = (u0 + (x + 1)) % 3 := by omega
        have hcan := rl_canx hX hu
        cases h5 : c_can f u
        · obtain ⟨dn', f', g26', nn', ww', g', h', oo', r1, r2, r3⟩ := ih us (i + 1) dn ((u + 1) % 3) (x + 1) N f g26 nn ww g h oo (.int (nI 0)) (.int (nI u)) (by omega) h1 (by omega) hm3 hd (by omega) hX hN
          rw [h5] at hcan
          refine ⟨dn', f', g26', nn', ww', g', h', oo', fun Q => ?_, fun J1 hs0 Q => ?_, r3⟩
          · rw [i97_21]
            simp (disch := first | assumption | omega | decide) only [nI_add, n_mul, n_sub, n_le, n_lt, n_eq, n_ne1, n_0, m_bl_t, m_bl_f, if_true, if_false, Nat.reduceAdd, Nat.reduceMul, Nat.reduceSub, Nat.reduceLeDiff, Nat.reduceEqDiff, Nat.add_zero, Nat.add_sub_cancel, Option.toList, List.cons_append, List.nil_append, i97_22, i97_23, i97_24, i97_25, i97_26, i97_27, i97_28, i97_29, i97_36, i97_37, i97_38, i97_39, i97_40, i97_41, i97_42, rv_0_0, q6, hus2, hi3, w97_30 hk hue.symm, c50, mC_2, b_0, h5, w97_53, r1]
          · rw [i171_20]
            simp (disch := first | assumption | omega | decide) only [nI_add, n_mul, n_sub, n_le, n_lt, n_eq, n_ne1, n_0, m_bl_t, m_bl_f, if_true, if_false, Nat.reduceAdd, Nat.reduceMul, Nat.reduceSub, Nat.reduceLeDiff, Nat.reduceEqDiff, Nat.add_zero, Nat.add_sub_cancel, Option.toList, List.cons_append, List.nil_append, i171_21, i171_22, i171_23, i171_24, i171_25, i171_26, i171_27, i171_28, i171_29, i171_30, hi3, hleft, c168, b_0, hcan]
            simp (disch := first | assumption | omega | decide) only [nI_add, n_mul, n_sub, n_le, n_lt, n_eq, n_ne1, n_0, m_bl_t, m_bl_f, if_true, if_false, Nat.reduceAdd, Nat.reduceMul, Nat.reduceSub, Nat.reduceLeDiff, Nat.reduceEqDiff, Nat.add_zero, Nat.add_sub_cancel, Option.toList, List.cons_append, List.nil_append, i171_40, i171_41, i171_42, i171_43, i171_44, i171_45, i171_46, i171_47, i171_48, i171_49, i171_50, i171_51, i171_52, i171_53, i171_54, i171_55, w171_56 hu, r2 J1 hs0]
        · have hs : f (3 + u) = nI 1 ∨ f (3 + u) = nI 4 := by
            unfold c_can at h5
            rw [Bool.or_eq_true, decide_eq_true_eq, decide_eq_true_eq] at h5
            exact h5
          rw [h5] at hcan
          obtain ⟨v, f2, g262, nn2, ww2, g2, h2', oo2, s1, s2, s3⟩ := rl_xst (V := V) (e := e) (bb := bb) (g26 := g26) hro hcd hX (by omega) hu hs ht ha
          have hnu : n - us - 1 = n - (us + 1) := by omega
          have e1 : nI (n - us) + (-1) = nI (n - (us + 1)) := by rw [n_am1, n_sub (by omega), hnu]
          by_cases hv : v = nI 0
          · obtain ⟨dn', f', g26', nn', ww', g', h', oo', r1, r2, r3⟩ := ih (us + 1) (i + 1) dn ((u + 1) % 3) (x + 1) (N + 1) f2 g262 nn2 ww2 g2 h2' oo2 (.int (nI 0)) (.int (nI u)) (by omega) (by omega) (by omega) hm3 (by omega) (by omega) s3 (by omega)
            subst hv
            refine ⟨dn', f', g26', nn', ww', g', h', oo', fun Q => ?_, fun J1 hs0 Q => ?_, rl_XX_le r3 (by omega)⟩
            · rw [i97_21]
              simp (disch := first | assumption | omega | decide) only [nI_add, n_mul, n_sub, n_le, n_lt, n_eq, n_ne1, n_0, m_bl_t, m_bl_f, if_true, if_false, Nat.reduceAdd, Nat.reduceMul, Nat.reduceSub, Nat.reduceLeDiff, Nat.reduceEqDiff, Nat.add_zero, Nat.add_sub_cancel, Option.toList, List.cons_append, List.nil_append, i97_22, i97_23, i97_24, i97_25, i97_26, i97_27, i97_28, i97_29, i97_36, i97_37, i97_38, i97_39, i97_40, i97_41, i97_43, i97_44, i97_45, i97_46, i97_47, i97_48, i97_49, rv_0_0, rv_0_2, q6, hus2, hi3, w97_30 hk hue.symm, c50, mC_2, b_0, h5, Bool.true_eq_false, wpc_of s1, w97_53, r1]
            · rw [i171_20]
              simp (disch := first | assumption | omega | decide) only [nI_add, n_mul, n_sub, n_le, n_lt, n_eq, n_ne1, n_0, m_bl_t, m_bl_f, if_true, if_false, Nat.reduceAdd, Nat.reduceMul, Nat.reduceSub, Nat.reduceLeDiff, Nat.reduceEqDiff, Nat.add_zero, Nat.add_sub_cancel, Option.toList, List.cons_append, List.nil_append, i171_21, i171_22, i171_23, i171_24, i171_25, i171_26, i171_27, i171_28, i171_29, i171_30, i171_31, i171_32, i171_33, i171_34, i171_35, i171_38, i171_39, hi3, hleft, c168, b_0, hcan, Bool.true_eq_false, e1, wpc_of (s2 J1 hs0)]
              simp (disch := first | assumption | omega | decide) only [nI_add, n_mul, n_sub, n_le, n_lt, n_eq, n_ne1, n_0, m_bl_t, m_bl_f, if_true, if_false, Nat.reduceAdd, Nat.reduceMul, Nat.reduceSub, Nat.reduceLeDiff, Nat.reduceEqDiff, Nat.add_zero, Nat.add_sub_cancel, Option.toList, List.cons_append, List.nil_append, i171_40, i171_41, i171_42, i171_43, i171_44, i171_45, i171_46, i171_47, i171_48, i171_49, i171_50, i171_51, i171_52, i171_53, i171_54, i171_55, w171_56 hu, r2 J1 hs0]
          · obtain ⟨dn', f', g26', nn', ww', g', h', oo', r1, r2, r3⟩ := ih (us + 1) 0 (dn + 1) ((u + 1) % 3) (x + 1) (N + 1) f2 g262 nn2 ww2 g2 h2' oo2 (.int (nI 1)) (.int (nI u)) (by omega) (by omega) (by omega) hm3 (by omega) (by omega) s3 (by omega)
            have h10 : ¬ nI 1 = nI 0 := by decide
            refine ⟨dn', f', g26', nn', ww', g', h', oo', fun Q => ?_, fun J1 hs0 Q => ?_, rl_XX_le r3 (by omega)⟩
            · rw [i97_21]
              simp (disch := first | assumption | omega | decide) only [nI_add, n_mul, n_sub, n_le, n_lt, n_eq, n_ne1, n_0, m_bl_t, m_bl_f, if_true, if_false, Nat.reduceAdd, Nat.reduceMul, Nat.reduceSub, Nat.reduceLeDiff, Nat.reduceEqDiff, Nat.add_zero, Nat.add_sub_cancel, Option.toList, List.cons_append, List.nil_append, i97_22, i97_23, i97_24, i97_25, i97_26, i97_27, i97_28, i97_29, i97_36, i97_37, i97_38, i97_39, i97_40, i97_41, i97_43, i97_44, i97_45, i97_46, i97_47, i97_48, rv_0_0, rv_0_2, q6, hus2, hi3, w97_30 hk hue.symm, c50, mC_2, b_0, h5, Bool.true_eq_false, wpc_of s1, hv]
              simp (disch := first | assumption | omega | decide) only [nI_add, n_mul, n_sub, n_le, n_lt, n_eq, n_ne1, n_0, m_bl_t, m_bl_f, if_true, if_false, Nat.reduceAdd, Nat.reduceMul, Nat.reduceSub, Nat.reduceLeDiff, Nat.reduceEqDiff, Nat.add_zero, Nat.add_sub_cancel, Option.toList, List.cons_append, List.nil_append, i97_50, i97_51, i97_52, w97_53, r1]
            · rw [i171_20]
              simp (disch := first | assumption | omega | decide) only [nI_add, n_mul, n_sub, n_le, n_lt, n_eq, n_ne1, n_0, m_bl_t, m_bl_f, if_true, if_false, Nat.reduceAdd, Nat.reduceMul, Nat.reduceSub, Nat.reduceLeDiff, Nat.reduceEqDiff, Nat.add_zero, Nat.add_sub_cancel, Option.toList, List.cons_append, List.nil_append, i171_21, i171_22, i171_23, i171_24, i171_25, i171_26, i171_27, i171_28, i171_29, i171_30, i171_31, i171_32, i171_33, i171_34, i171_35, i171_36, i171_37, i171_39, hi3, hleft, c168, b_0, hcan, Bool.true_eq_false, e1, wpc_of (s2 J1 hs0), hv]
              simp (disch := first | assumption | omega | decide) only [nI_add, n_mul, n_sub, n_le, n_lt, n_eq, n_ne1, n_0, m_bl_t, m_bl_f, if_true, if_false, Nat.reduceAdd, Nat.reduceMul, Nat.reduceSub, Nat.reduceLeDiff, Nat.reduceEqDiff, Nat.add_zero, Nat.add_sub_cancel, Option.toList, List.cons_append, List.nil_append, i171_40, i171_41, i171_42, i171_43, i171_44, i171_45, i171_46, i171_47, i171_48, i171_49, i171_50, i171_51, i171_52, i171_53, i171_54, i171_55, h10, w171_56 hu, r2 J1 hs0]
end RZB
