/-! explore: the pair -/
section RBQ
variable {V : m_V} {t m n : Nat} {ls st : List Value} {I J Ib I2 : m_I} {L Lb : m_L} {R : m_R} {e : Option Nat} {Q : Option Value → Nat → m_I → m_L → m_R → Prop} {N c d : Nat} {As Bs : List Value} {v : Int32}
def x_T (t : Nat) (e : Option Nat) : Prop := (e = none ∧ t = 55) ∨ (e = some 55 ∧ t = 62)
def pair_ox (V : m_V) (t : Nat) (e : Option Nat) (N : Nat) (I : m_I) (L : m_L) (c : Nat) (As : List Value) (d : Nat) (Bs : List Value) : Prop :=
  ∃ v t' e' I1 L1 I2 L2, x_T t' e' ∧ (∀ Q, WP V c 0 (m_loc c (.ref 0 :: As)) [] t I L (m_RR e 28 48) Q = Q (some v) t' I1 L1 (m_RR e' 28 48)) ∧ (∀ Q, WP V d 0 (m_loc d (.ref 27 :: Bs)) [] t' I1 L1 (m_RR e' 28 48) Q = Q (some v) t' I2 L2 (m_RR e' 28 48)) ∧ TP (N + 200) e' I2 L2
theorem pair_o (hx : x_T t e) (h : pair_ok V t e N I L c As d Bs) : pair_ox V t e N I L c As d Bs := by
  obtain ⟨v, I1, L1, I2, L2, h1, h2, h3⟩ := h
  exact ⟨v, t, e, I1, L1, I2, L2, hx, h1, h2, h3⟩
theorem x_fin_TH (hH : TH N I L) (hf : x_fin Ib I I2 n) (hl : ∀ k, k < 55 → Lb k = L k) : TH N I2 Lb := by
  obtain ⟨U, f0, f2, ⟨f10, f103⟩, f27, f275, f2725, _⟩ := hf
  obtain ⟨t5, t3⟩ := TH_27_5 hH
  have G : ∀ k, 0 < k → k < 45 → k ≠ 2 → k ≠ 10 → k ≠ 26 → k ≠ 27 → I2 k = I k := fun k q0 q1 q2 q3 q4 q5 => U k q0 (by omega) q2 q3 q4 q5 (by omega) (by omega) (by omega) (by omega) (by omega)
  have g4 := G 4 (by omega) (by omega) (by omega) (by omega) (by omega) (by omega)
  have g5 := G 5 (by omega) (by omega) (by omega) (by omega) (by omega) (by omega)
  have g7 := G 7 (by omega) (by omega) (by omega) (by omega) (by omega) (by omega)
  have g8 := G 8 (by omega) (by omega) (by omega) (by omega) (by omega) (by omega)
  have g11 := G 11 (by omega) (by omega) (by omega) (by omega) (by omega) (by omega)
  have g28 := G 28 (by omega) (by omega) (by omega) (by omega) (by omega) (by omega)
  have g29 := G 29 (by omega) (by omega) (by omega) (by omega) (by omega) (by omega)
  have g30 := G 30 (by omega) (by omega) (by omega) (by omega) (by omega) (by omega)
  have g31 := G 31 (by omega) (by omega) (by omega) (by omega) (by omega) (by omega)
  have g32 := G 32 (by omega) (by omega) (by omega) (by omega) (by omega) (by omega)
  have g33 := G 33 (by omega) (by omega) (by omega) (by omega) (by omega) (by omega)
  have g34 := G 34 (by omega) (by omega) (by omega) (by omega) (by omega) (by omega)
  have g35 := G 35 (by omega) (by omega) (by omega) (by omega) (by omega) (by omega)
  have g36 := G 36 (by omega) (by omega) (by omega) (by omega) (by omega) (by omega)
  have g38 := G 38 (by omega) (by omega) (by omega) (by omega) (by omega) (by omega)
  have g39 := G 39 (by omega) (by omega) (by omega) (by omega) (by omega) (by omega)
  have g40 := G 40 (by omega) (by omega) (by omega) (by omega) (by omega) (by omega)
  have g41 := G 41 (by omega) (by omega) (by omega) (by omega) (by omega) (by omega)
  have g42 := G 42 (by omega) (by omega) (by omega) (by omega) (by omega) (by omega)
  have g43 := G 43 (by omega) (by omega) (by omega) (by omega) (by omega) (by omega)
  refine TH_cg hH f2 (fun j _ => by rw [g4]) (fun j _ => by rw [g5]) (fun j _ => by rw [g7]) (fun j _ => by rw [g8]) (fun j _ => by rw [hl 9 (by omega)]) (fun j hj => ?_) (fun j _ => by rw [g11]) (fun j hj => ?_) (fun j _ => by rw [g28]) (fun j _ => by rw [g29]) (fun j _ => by rw [g30, g31, g32, g33]; exact ⟨rfl, rfl, rfl, rfl⟩) (fun j _ => by rw [g34]) (fun j _ => by rw [g35, g36]; exact ⟨rfl, rfl⟩) (fun j _ => by rw [hl 37 (by omega)]) (fun j _ => by rw [g38, g39]; exact ⟨rfl, rfl⟩) (fun j _ => by rw [g40, g41, g42]; exact ⟨rfl, rfl, rfl⟩) (fun j _ => by rw [g43])
  · rcases hj with rfl | rfl
    · exact f10
    · rw [f103, t3]
  · by_cases q : j = 5
    · subst q; rw [f275, t5]
    · exact f27 j q (by omega) (by omega) (by omega) (by omega) (by omega) (by omega) (by omega)
theorem p_explore (hT : TP N e I L) (hN : N < 800000) (hx : x_T t e) (v : Int32) : pair_ox V t e N I L 98 [.int v] 179 [.int v] := by
  have ht : 55 ≤ t := by rcases hx with ⟨_, q⟩ | ⟨_, q⟩ <;> omega
  obtain ⟨hH, hBg, hEn, hK⟩ := id hT
  cases hin : d_in v (nI 1) (nI 400)
  · refine pair_o hx (pair_v (v := .int (-102)) hT (fun Q => ?_) (fun Q => ?_))
    · rw [show m_loc 98 (.ref 0 :: [.int v]) = [.ref 0, .int v] from rfl]
      unfold d_in at hin
      by_cases z0 : v < nI 1
      · simp (disch := first | assumption | omega | decide) only [nI_add, n_mul, n_sub, n_le, n_lt, n_eq, n_ne1, n_0, m_bl_t, m_bl_f, if_true, if_false, Nat.reduceAdd, Nat.reduceMul, Nat.reduceSub, Nat.reduceLeDiff, Nat.reduceEqDiff, Nat.add_zero, Nat.add_sub_cancel, Option.toList, List.cons_append, List.nil_append, i98_0, i98_1]
        rw [i98_2, if_pos z0]
        simp (disch := first | assumption | omega | decide) only [nI_add, n_mul, n_sub, n_le, n_lt, n_eq, n_ne1, n_0, m_bl_t, m_bl_f, if_true, if_false, Nat.reduceAdd, Nat.reduceMul, Nat.reduceSub, Nat.reduceLeDiff, Nat.reduceEqDiff, Nat.add_zero, Nat.add_sub_cancel, Option.toList, List.cons_append, List.nil_append, i98_6, i98_7]
      · have z2 : ¬ v ≤ nI 400 := fun q => by
          rw [decide_eq_true (Int32.not_lt.mp z0), decide_eq_true q] at hin
          cases hin
        simp (disch := first | assumption | omega | decide) only [nI_add, n_mul, n_sub, n_le, n_lt, n_eq, n_ne1, n_0, m_bl_t, m_bl_f, if_true, if_false, Nat.reduceAdd, Nat.reduceMul, Nat.reduceSub, Nat.reduceLeDiff, Nat.reduceEqDiff, Nat.add_zero, Nat.add_sub_cancel, Option.toList, List.cons_append, List.nil_append, i98_0, i98_1]
        rw [i98_2, if_neg z0]
        simp (disch := first | assumption | omega | decide) only [nI_add, n_mul, n_sub, n_le, n_lt, n_eq, n_ne1, n_0, m_bl_t, m_bl_f, if_true, if_false, Nat.reduceAdd, Nat.reduceMul, Nat.reduceSub, Nat.reduceLeDiff, Nat.reduceEqDiff, Nat.add_zero, Nat.add_sub_cancel, Option.toList, List.cons_append, List.nil_append, i98_3, i98_4]
        rw [i98_5, if_neg z2]
        simp (disch := first | assumption | omega | decide) only [nI_add, n_mul, n_sub, n_le, n_lt, n_eq, n_ne1, n_0, m_bl_t, m_bl_f, if_true, if_false, Nat.reduceAdd, Nat.reduceMul, Nat.reduceSub, Nat.reduceLeDiff, Nat.reduceEqDiff, Nat.add_zero, Nat.add_sub_cancel, Option.toList, List.cons_append, List.nil_append, i98_6, i98_7]
    · rw [show m_loc 179 (.ref 27 :: [.int v]) = [.ref 27, .int v, m_u, m_u, m_u, m_u, m_u, m_u] from rfl]
      simp (disch := first | assumption | omega | decide) only [nI_add, n_mul, n_sub, n_le, n_lt, n_eq, n_ne1, n_0, m_bl_t, m_bl_f, if_true, if_false, Nat.reduceAdd, Nat.reduceMul, Nat.reduceSub, Nat.reduceLeDiff, Nat.reduceEqDiff, Nat.add_zero, Nat.add_sub_cancel, Option.toList, List.cons_append, List.nil_append, i179_0, i179_1, i179_2, i179_3, i179_4, i179_5, i179_6, c111, hin, b_0]
  · obtain ⟨r, hr, rfl⟩ := (d_ink (v := v) (lo := 1) (m := 399) (by omega)).mp hin
    obtain ⟨n, hn⟩ : ∃ n, n = 1 + r := ⟨_, rfl⟩
    rw [← hn] at hin ⊢
    have hn1 : 1 ≤ n := by omega
    have hn4 : n ≤ 400 := by omega
    have hlt : ¬ n < 1 := by omega
    obtain ⟨q1, m, m1, m2⟩ := hBg
    have m27 : I 27 25 = nI m := q1.symm.trans m2
    by_cases hm : n ≤ m
    · obtain ⟨Ia, hIa⟩ : ∃ Ia, Ia = m_sc I 0 (m_sc (I 0) 5 (nI (m - n))) := ⟨_, rfl⟩
      have run1 : ∀ Q, WP V 98 0 [.ref 0, .int (nI n)] [] t I L (m_RR e 28 48) Q = WP V 98 20 [.ref 0, .int (nI n)] [] t Ia L (m_RR e 28 48) Q := fun Q => by
        simp (disch := first | assumption | omega | decide) only [nI_add, n_mul, n_sub, n_le, n_lt, n_eq, n_ne1, n_0, m_bl_t, m_bl_f, if_true, if_false, Nat.reduceAdd, Nat.reduceMul, Nat.reduceSub, Nat.reduceLeDiff, Nat.reduceEqDiff, Nat.add_zero, Nat.add_sub_cancel, Option.toList, List.cons_append, List.nil_append, i98_0, i98_1, i98_2, i98_3, i98_4, i98_5, i98_8, i98_9, i98_10, i98_11, i98_14, i98_15, i98_16, i98_17, i98_18, i98_19, hlt, hn4, m2, hm]
        rw [← hIa]
      have io : ∀ k, k ≠ 0 → Ia k = I k := fun k hk => by rw [hIa, m_sc_ne hk]
      have mk : ∃ Ib Lb, (∀ Q, WP V 98 20 [.ref 0, .int (nI n)] [] t Ia L (m_RR e 28 48) Q = WP V 98 32 [.ref 0, .int (nI n)] [] 62 Ib Lb (m_RR (some 55) 28 48) Q) ∧ (∀ k, k < 55 → Ib k = Ia k) ∧ (∀ k, k < 55 → Lb k = L k) ∧ x_en Ib I := by
        rcases hx with ⟨rfl, rfl⟩ | ⟨rfl, rfl⟩
        · obtain ⟨Ib, Lb, b1, b2, b3, b4⟩ := w98_20n (V := V) (I := Ia) (L := L) (v := nI n)
          rcases hEn with ⟨_, h1⟩ | ⟨h0, _⟩
          · exact ⟨Ib, Lb, b1, b2, b3, Or.inl ⟨b4, h1⟩⟩
          · cases h0
        · rcases hEn with ⟨h0, _⟩ | ⟨_, h1⟩
          · cases h0
          · refine ⟨Ia, L, fun Q => w98_20r, fun _ _ => rfl, fun _ _ => rfl, ?_⟩
            unfold x_en
            rw [io 55 (by omega), io 61 (by omega)]
            exact h1
      obtain ⟨Ib, Lb, run2, hb, hl, hen⟩ := mk
      obtain ⟨ans, I1, I2, r1, r2, hf, h1⟩ := ex_core (V := V) (n := n) hH hN hn4 hn1 (fun k k0 k1 => (hb k k1).trans (io k (by omega))) hl hen
      have e27 : I1 27 = I 27 := h1 27 (by omega) (by omega) (by omega) (by omega) (by omega)
      have hTH := x_fin_TH hH hf hl
      obtain ⟨U, f0, f2, f10, f27, f275, f2725, f9⟩ := hf
      have f05 : ∀ j, I2 0 j = m_sc (I 0) 5 (nI (m - n)) j := fun j => by rw [f0, hb 0 (by omega), hIa, m_sc_self]
      refine ⟨.int ans, 62, some 55, I1, Lb, I2, Lb, Or.inr ⟨rfl, rfl⟩, fun Q => ?_, fun Q => ?_, TP_le (N := N) ⟨hTH, ?_, f9, ?_⟩ (Nat.le_add_right _ _)⟩
      · rw [show m_loc 98 (.ref 0 :: [.int (nI n)]) = [.ref 0, .int (nI n)] from rfl, run1 Q, run2 Q]
        have r4 : m_rv (m_RR (some 55) 28 48 0 4) = .ref 55 := rfl
        simp (disch := first | assumption | omega | decide) only [nI_add, n_mul, n_sub, n_le, n_lt, n_eq, n_ne1, n_0, m_bl_t, m_bl_f, if_true, if_false, Nat.reduceAdd, Nat.reduceMul, Nat.reduceSub, Nat.reduceLeDiff, Nat.reduceEqDiff, Nat.add_zero, Nat.add_sub_cancel, Option.toList, List.cons_append, List.nil_append, i98_32, i98_33, i98_34, i98_35, i98_36, rv_0_4, r4, wpc_of r1]
      · rw [show m_loc 179 (.ref 27 :: [.int (nI n)]) = [.ref 27, .int (nI n), m_u, m_u, m_u, m_u, m_u, m_u] from rfl]
        have e25 : I1 27 25 = nI m := by rw [e27]; exact m27
        rw [← r2 Q]
        simp (disch := first | assumption | omega | decide) only [nI_add, n_mul, n_sub, n_le, n_lt, n_eq, n_ne1, n_0, m_bl_t, m_bl_f, if_true, if_false, Nat.reduceAdd, Nat.reduceMul, Nat.reduceSub, Nat.reduceLeDiff, Nat.reduceEqDiff, Nat.add_zero, Nat.add_sub_cancel, Option.toList, List.cons_append, List.nil_append, i179_0, i179_1, i179_2, i179_3, i179_4, i179_7, i179_8, i179_9, i179_10, c111, hin, b_0, Bool.true_eq_false, e25, hm]
      · refine ⟨?_, m - n, by omega, ?_⟩
        · rw [f05, m_sc_self, f2725, m27, n_sub hm]
        · rw [f05, m_sc_self]
      · refine kp_cell hK (fun k hk => ?_) ?_ (f27 37 (by omega) (by omega) (by omega) (by omega) (by omega) (by omega) (by omega) (by omega)) (hl 21 (by omega)) (hl 54 (by omega)) (Nat.le_refl N)
        · unfold cellK at hk
          exact U k (by omega) (by omega) (by omega) (by omega) (by omega) (by omega) (by omega) (by omega) (by omega) (by omega) (by omega)
        · rw [f05, m_sc_ne (by omega)]
    · refine pair_o hx (pair_v (v := .int (-103)) hT (fun Q => ?_) (fun Q => ?_))
      · rw [show m_loc 98 (.ref 0 :: [.int (nI n)]) = [.ref 0, .int (nI n)] from rfl]
        simp (disch := first | assumption | omega | decide) only [nI_add, n_mul, n_sub, n_le, n_lt, n_eq, n_ne1, n_0, m_bl_t, m_bl_f, if_true, if_false, Nat.reduceAdd, Nat.reduceMul, Nat.reduceSub, Nat.reduceLeDiff, Nat.reduceEqDiff, Nat.add_zero, Nat.add_sub_cancel, Option.toList, List.cons_append, List.nil_append, i98_0, i98_1, i98_2, i98_3, i98_4, i98_5, i98_8, i98_9, i98_10, i98_11, i98_12, i98_13, hlt, hn4, m2, hm]
      · rw [show m_loc 179 (.ref 27 :: [.int (nI n)]) = [.ref 27, .int (nI n), m_u, m_u, m_u, m_u, m_u, m_u] from rfl]
        simp (disch := first | assumption | omega | decide) only [nI_add, n_mul, n_sub, n_le, n_lt, n_eq, n_ne1, n_0, m_bl_t, m_bl_f, if_true, if_false, Nat.reduceAdd, Nat.reduceMul, Nat.reduceSub, Nat.reduceLeDiff, Nat.reduceEqDiff, Nat.add_zero, Nat.add_sub_cancel, Option.toList, List.cons_append, List.nil_append, i179_0, i179_1, i179_2, i179_3, i179_4, i179_7, i179_8, i179_9, i179_10, i179_11, i179_12, c111, hin, b_0, Bool.true_eq_false, m27, hm]
end RBQ
