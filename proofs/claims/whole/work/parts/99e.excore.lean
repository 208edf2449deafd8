/-! explore: alike -/
section RBP
variable {V : m_V} {t m n : Nat} {ls st : List Value} {IB IC I J Ib : m_I} {L Lb : m_L} {R : m_R} {e : Option Nat} {a b : Nat} {Q : Option Value → Nat → m_I → m_L → m_R → Prop} {f g h h' hB hu fe ag FE0 : Nat → Int32} {u k c i y N NN own s mm q b2 : Nat} {v hv : Int32}
def x_en (Ib I : m_I) : Prop := (Ib 55 10 = -1 ∧ I 27 28 = nI 0) ∨ ∃ m, m ≤ 400 ∧ Ib 55 10 = nI m ∧ I 27 28 = nI 1 ∧ I 27 29 = nI m ∧ ∀ j, j < 19 * m → Ib 61 j = I 46 j
def x_fin (Ib I I2 : m_I) (n : Nat) : Prop := (∀ k, 0 < k → k < 55 → k ≠ 2 → k ≠ 10 → k ≠ 26 → k ≠ 27 → k ≠ 45 → k ≠ 46 → k ≠ 47 → k ≠ 48 → k ≠ 49 → I2 k = I k) ∧ I2 0 = Ib 0 ∧ (∀ j, j < 581 → I2 2 j = I 2 j) ∧ (I2 10 2 = I 10 2 ∧ I2 10 3 = nI 0) ∧ (∀ j, j ≠ 5 → j ≠ 22 → j ≠ 23 → j ≠ 25 → j ≠ 27 → j ≠ 28 → j ≠ 29 → j ≠ 32 → I2 27 j = I 27 j) ∧ I2 27 5 = nI 0 ∧ I2 27 25 = I 27 25 - nI n ∧ rl_en (some 55) I2
set_option maxRecDepth 20000 in
theorem ex_core (hH : TH N I L) (hN : N < 800000) (hn : n ≤ 400) (hn1 : 1 ≤ n) (hb : ∀ k, 0 < k → k < 55 → Ib k = I k) (hl : ∀ k, k < 55 → Lb k = L k) (hen : x_en Ib I) : ∃ ans I1 I2, (∀ Q, WP V 34 0 (m_loc 34 [.ref 55, .int (nI n)]) [] 62 Ib Lb (m_RR (some 55) 28 48) Q = Q (some (.int ans)) 62 I1 Lb (m_RR (some 55) 28 48)) ∧ (∀ Q, WP V 179 13 [.ref 27, .int (nI n), m_u, m_u, m_u, m_u, m_u, m_u] [] 62 I1 Lb (m_RR (some 55) 28 48) Q = Q (some (.int ans)) 62 I2 Lb (m_RR (some 55) 28 48)) ∧ x_fin Ib I I2 n ∧ (∀ k, 0 < k → k < 55 → k ≠ 2 → k ≠ 10 → k ≠ 26 → I1 k = I k) := by
  obtain ⟨own, o1, o2, hD, hXB, hXI⟩ := x_start (Ib := Ib) (Lb := Lb) (n := n) (x := I 27 25 - nI n) hH hN hn hn1 hb hl
  have t62 : 62 ≤ 62 := Nat.le_refl _
  have t55 : 55 ≤ 62 := by omega
  obtain ⟨IC, s, hv, w1, w2, w3⟩ := w34_0 (V := V) (L := Lb) (e := some 55) t62 hn hn1 hD
  have X0 := hXI s hv (by rw [← w2]; exact w3)
  rw [← w2] at X0
  obtain ⟨IC', g', h', hu', fe', ag', y', ma, i', i2, w4', w6', w7', r1, r2, r3, r4⟩ := ex_out (V := V) (t := 62) (e := some 55) t62 hXB n 0 (Nat.zero_add n) IC (x_g0 I) (x_H0 (I 27) (I 27 25 - nI n)) (va_cpy (x_g0 I) (I 45) 0 (612 * 0) 612) (I 47) (I 49) 1 m_u m_u m_u X0 (by omega)
  obtain ⟨a1, a2, a3, a4, a5, a6, a7, a8, a9⟩ := id r3
  obtain ⟨hB, hhB⟩ : ∃ hB, hB = x_H0 (I 27) (I 27 25 - nI n) := ⟨_, rfl⟩
  have hBo : ∀ k, k ≠ 25 → k ≠ 5 → k ≠ 27 → k ≠ 32 → hB k = I 27 k := fun k q1 q2 q3 q4 => by rw [hhB]; exact x_H0_o ⟨q1, q2, q3, q4⟩
  have hB25 : hB 25 = I 27 25 - nI n := by rw [hhB]; exact x_H0_25
  rw [← hhB] at a6
  have hy4 : y' ≤ 400 := by omega
  -- cells that the class's explore leaves
  have iB : ∀ k, k ≠ 10 → k ≠ 55 → k ≠ 56 → k ≠ 60 → x_I0 Ib k = Ib k := fun k q1 q2 q3 q4 => x_I0_o ⟨q1, q2, q3, q4⟩
  have iC : ∀ k, 0 < k → k < 55 → k ≠ 2 → k ≠ 10 → k ≠ 26 → IC' k = I k := fun k q0 q1 q2 q3 q4 => by
    rw [a1 k q2 q4 (by omega) (by omega) (by omega) (by omega) (by omega), iB k q3 (by omega) (by omega) (by omega), hb k q0 q1]
  have iC0 : IC' 0 = Ib 0 := by
    rw [a1 0 (by omega) (by omega) (by omega) (by omega) (by omega) (by omega) (by omega), iB 0 (by omega) (by omega) (by omega) (by omega)]
  have iC61 : IC' 61 = Ib 61 := by
    rw [a1 61 (by omega) (by omega) (by omega) (by omega) (by omega) (by omega) (by omega), iB 61 (by omega) (by omega) (by omega) (by omega)]
  have iC55 : IC' 55 10 = Ib 55 10 := by
    rw [a2 10 (by omega), x_I0_55, m_sc_ne (by omega)]
  have iC10 : IC' 10 = m_sc (I 10) 3 (nI 1) := by
    rw [a1 10 (by omega) (by omega) (by omega) (by omega) (by omega) (by omega) (by omega), x_I0_10, hb 10 (by omega) (by omega)]
  have iC56 : ∀ j, j < 581 → IC' 56 j = I 2 j := fun j hj => by
    rw [a1 56 (by omega) (by omega) (by omega) (by omega) (by omega) (by omega) (by omega), x_I0_56, cpy_i hj, hb 2 (by omega) (by omega)]
  have n9o : ∀ k, k ≠ 10 → k ≠ 2 → x_I9 IC' k = IC' k := fun k k1 k2 => by unfold x_I9; rw [m_sc_ne k2, m_sc_ne k1]
  have n92 : ∀ j, j < 581 → x_I9 IC' 2 j = I 2 j := fun j hj => by unfold x_I9; rw [m_sc_self, cpy_i hj, iC56 j hj]
  have n910 : x_I9 IC' 10 2 = I 10 2 ∧ x_I9 IC' 10 3 = nI 0 := by
    unfold x_I9
    rw [m_sc_ne (j := 10) (by omega), m_sc_self, iC10]
    exact ⟨by rw [m_sc_ne (by omega), m_sc_ne (by omega)], m_sc_self⟩
  -- the model, over any memory that the class leaves so
  have mdl : ∀ I1 : m_I, (∀ k, 0 < k → k < 55 → k ≠ 2 → k ≠ 10 → k ≠ 26 → I1 k = I k) → ∀ Q, WP V 179 13 [.ref 27, .int (nI n), m_u, m_u, m_u, m_u, m_u, m_u] [] 62 I1 Lb (m_RR (some 55) 28 48) Q = WP V 179 139 [.ref 27, .int (nI n), .ref 28, .int (nI own), .int (m_bl (!ma)), .int (nI i'), w6', w7'] [] 62 (eM I1 g' h' hu' fe' ag') Lb (m_RR (some 55) 48 48) Q := fun I1 h1 Q => by
    have e27 : I1 27 = I 27 := h1 27 (by omega) (by omega) (by omega) (by omega) (by omega)
    have e0 : ∀ k, 0 < k → k < 55 → k ≠ 2 → k ≠ 10 → k ≠ 26 → I1 k = x_I0 Ib k := fun k q0 q1 q2 q3 q4 => by rw [h1 k q0 q1 q2 q3 q4, iB k q3 (by omega) (by omega) (by omega), hb k q0 q1]
    have hs : st_eq2 I1 (x_I0 Ib) := ⟨⟨e0 4 (by omega) (by omega) (by omega) (by omega) (by omega), e0 5 (by omega) (by omega) (by omega) (by omega) (by omega), e0 7 (by omega) (by omega) (by omega) (by omega) (by omega), e0 8 (by omega) (by omega) (by omega) (by omega) (by omega), e0 29 (by omega) (by omega) (by omega) (by omega) (by omega), e0 30 (by omega) (by omega) (by omega) (by omega) (by omega), e0 31 (by omega) (by omega) (by omega) (by omega) (by omega), e0 32 (by omega) (by omega) (by omega) (by omega) (by omega), e0 33 (by omega) (by omega) (by omega) (by omega) (by omega), e0 34 (by omega) (by omega) (by omega) (by omega) (by omega), e0 35 (by omega) (by omega) (by omega) (by omega) (by omega), e0 36 (by omega) (by omega) (by omega) (by omega) (by omega)⟩, fun k k1 k2 => e0 k (by omega) (by omega) (by omega) (by omega) (by omega)⟩
    have eg : x_g0 I1 = x_g0 I := by unfold x_g0; rw [h1 28 (by omega) (by omega) (by omega) (by omega) (by omega), h1 48 (by omega) (by omega) (by omega) (by omega) (by omega)]
    rw [w179_13 t55 (by rw [e27]; exact o1), e27, eg, h1 45 (by omega) (by omega) (by omega) (by omega) (by omega), h1 47 (by omega) (by omega) (by omega) (by omega) (by omega), h1 49 (by omega) (by omega) (by omega) (by omega) (by omega)]
    exact r2 I1 hs Q
  have hh' : ∀ j, j ≠ 2 → j ≠ 5 → j ≠ 22 → j ≠ 23 → j ≠ 25 → j ≠ 27 → j ≠ 32 → h' j = I 27 j := fun j q1 q2 q3 q4 q5 q6 q7 => (a6 j q1 q3 q4 q6 q7).trans (hBo j q5 q2 q6 q7)
  have hh25 : h' 25 = I 27 25 - nI n := (a6 25 (by omega) (by omega) (by omega) (by omega) (by omega)).trans hB25
  cases ma
  · have c1 : ∀ k, 0 < k → k < 55 → k ≠ 2 → k ≠ 10 → k ≠ 26 → x_I9 IC' k = I k := fun k q0 q1 q2 q3 q4 => (n9o k q3 q2).trans (iC k q0 q1 q2 q3 q4)
    refine ⟨-1 - nI n, x_I9 IC', m_sc (eM (x_I9 IC') g' h' hu' fe' ag') 27 (m_sc (m_sc h' 5 (nI 0)) 2 (nI own)), fun Q => ?_, fun Q => ?_, ?_, c1⟩
    · rw [w1 Q, r1 Q, w34_81f t62]
    · rw [mdl _ c1 Q, Bool.not_false, w179_139f t55, eM_27]
    · obtain ⟨I1, hI1⟩ : ∃ I1, I1 = x_I9 IC' := ⟨_, rfl⟩
      have d0 : I1 0 = Ib 0 := by rw [hI1, n9o 0 (by omega) (by omega), iC0]
      have d55 : I1 55 10 = Ib 55 10 := by rw [hI1, n9o 55 (by omega) (by omega), iC55]
      have d61 : I1 61 = Ib 61 := by rw [hI1, n9o 61 (by omega) (by omega), iC61]
      rw [← hI1] at n92 n910 c1 ⊢
      rw [eM_s27]
      have E : ∀ X k, k ≠ 48 → k ≠ 27 → k ≠ 45 → k ≠ 47 → k ≠ 49 → eM I1 g' X hu' fe' ag' k = I1 k := fun X k q1 q2 q3 q4 q5 => eM_o ⟨q1, q2, q3, q4, q5⟩
      unfold x_fin
      rw [E _ 0 (by omega) (by omega) (by omega) (by omega) (by omega), E _ 2 (by omega) (by omega) (by omega) (by omega) (by omega), E _ 10 (by omega) (by omega) (by omega) (by omega) (by omega), eM_27]
      refine ⟨fun k p0 p1 p2 p3 p4 p5 p6 p7 p8 p9 p10 => (E _ k p9 p5 p6 p8 p10).trans (c1 k p0 p1 p2 p3 p4), d0, n92, n910, fun j p1 p2 p3 p4 p5 p6 p7 p8 => ?_, by rw [m_sc_ne (by omega), m_sc_self], by rw [m_sc_ne (by omega), m_sc_ne (by omega)]; exact hh25, ?_⟩
      · by_cases q2 : j = 2
        · subst q2; rw [m_sc_self, o1]
        · rw [m_sc_ne q2, m_sc_ne p1]; exact hh' j q2 p1 p2 p3 p4 p5 p8
      · unfold rl_en
        rw [E _ 55 (by omega) (by omega) (by omega) (by omega) (by omega), E _ 61 (by omega) (by omega) (by omega) (by omega) (by omega), E _ 46 (by omega) (by omega) (by omega) (by omega) (by omega), eM_27, m_sc_ne (by omega), m_sc_ne (by omega), m_sc_ne (by omega), m_sc_ne (by omega), hh' 28 (by omega) (by omega) (by omega) (by omega) (by omega) (by omega) (by omega), hh' 29 (by omega) (by omega) (by omega) (by omega) (by omega) (by omega) (by omega), d55, d61, c1 46 (by omega) (by omega) (by omega) (by omega) (by omega)]
        exact Or.inr ⟨rfl, hen⟩
  · obtain rfl : i2 = y' := r4 rfl
    obtain ⟨qc, hqc⟩ : ∃ qc, qc = e_f (IC' 61) (z_er (IC' 57)) (z_S (IC' 59)) i2 := ⟨_, rfl⟩
    obtain ⟨qd, hqd⟩ : ∃ qd, qd = e_f (I 47) (d_erw hu') (z_S (IC' 59)) i2 := ⟨_, rfl⟩
    obtain ⟨z1, z2⟩ := x_ends r3 (IC' 61)
    rw [← hqc, ← hqd] at z1 z2
    rw [← hqd] at a8 a9
    have qle : qd.1 ≤ 400 := by rw [hqd]; exact Nat.le_trans (e_f_le i2) hy4
    have c1 : ∀ k, 0 < k → k < 55 → k ≠ 2 → k ≠ 10 → k ≠ 26 → z_gm (x_I9 IC') qc k = I k := fun k q0 q1 q2 q3 q4 => by
      unfold z_gm
      rw [m_sc_ne (by omega), m_sc_ne (by omega), n9o k q3 q2]
      exact iC k q0 q1 q2 q3 q4
    refine ⟨nI i2, z_gm (x_I9 IC') qc, m_sc (m_sc (eM (z_gm (x_I9 IC') qc) g' h' hu' fe' ag') 27 (x_H9 h' own qd.1)) 46 (va_cpy fe' (I 46) 0 0 (19 * qd.1)), fun Q => ?_, fun Q => ?_, ?_, c1⟩
    · rw [w1 Q, r1 Q, w34_81t t62 hy4 a3.1, ← hqc]
    · have e46 : eM (z_gm (x_I9 IC') qc) g' h' hu' fe' ag' 46 = I 46 := (eM_o (by omega)).trans (c1 46 (by omega) (by omega) (by omega) (by omega) (by omega))
      rw [mdl _ c1 Q, Bool.not_true, w179_139t (mm := qd.1) (y := i2) t55 (by omega) (by rw [eM_27]; exact a8) (by rw [eM_27]; exact a7), eM_27, eM_47, e46]
    · obtain ⟨I1, hI1⟩ : ∃ I1, I1 = z_gm (x_I9 IC') qc := ⟨_, rfl⟩
      have d0 : I1 0 = Ib 0 := by rw [hI1]; unfold z_gm; rw [m_sc_ne (by omega), m_sc_ne (by omega), n9o 0 (by omega) (by omega), iC0]
      have d2 : I1 2 = x_I9 IC' 2 := by rw [hI1]; unfold z_gm; rw [m_sc_ne (by omega), m_sc_ne (by omega)]
      have d10 : I1 10 = x_I9 IC' 10 := by rw [hI1]; unfold z_gm; rw [m_sc_ne (by omega), m_sc_ne (by omega)]
      have d55 : I1 55 10 = nI qd.1 := by rw [hI1]; unfold z_gm; rw [m_sc_self, m_sc_self, z1]
      have d61 : I1 61 = qc.2 := by rw [hI1]; unfold z_gm; rw [m_sc_ne (by omega), m_sc_self]
      rw [← d2] at n92
      rw [← d10] at n910
      rw [← hI1] at c1 ⊢
      rw [eM_s27]
      have E : ∀ X k, k ≠ 46 → k ≠ 48 → k ≠ 27 → k ≠ 45 → k ≠ 47 → k ≠ 49 → m_sc (eM I1 g' X hu' fe' ag') 46 (va_cpy fe' (I 46) 0 0 (19 * qd.1)) k = I1 k := fun X k q0 q1 q2 q3 q4 q5 => (m_sc_ne q0).trans (eM_o ⟨q1, q2, q3, q4, q5⟩)
      have E27 : m_sc (eM I1 g' (x_H9 h' own qd.1) hu' fe' ag') 46 (va_cpy fe' (I 46) 0 0 (19 * qd.1)) 27 = x_H9 h' own qd.1 := (m_sc_ne (by omega)).trans eM_27
      have H9 : ∀ j, j ≠ 5 → j ≠ 2 → j ≠ 28 → j ≠ 29 → x_H9 h' own qd.1 j = h' j := fun j p1 p2 p3 p4 => by unfold x_H9; rw [m_sc_ne p4, m_sc_ne p3, m_sc_ne p2, m_sc_ne p1]
      unfold x_fin
      rw [E _ 0 (by omega) (by omega) (by omega) (by omega) (by omega) (by omega), E _ 2 (by omega) (by omega) (by omega) (by omega) (by omega) (by omega), E _ 10 (by omega) (by omega) (by omega) (by omega) (by omega) (by omega), E27]
      refine ⟨fun k p0 p1 p2 p3 p4 p5 p6 p7 p8 p9 p10 => (E _ k p7 p9 p5 p6 p8 p10).trans (c1 k p0 p1 p2 p3 p4), d0, n92, n910, fun j p1 p2 p3 p4 p5 p6 p7 p8 => ?_, ?_, ?_, ?_⟩
      · by_cases q2 : j = 2
        · subst q2
          unfold x_H9
          rw [m_sc_ne (by omega), m_sc_ne (by omega), m_sc_self, o1]
        · rw [H9 j p1 q2 p6 p7]; exact hh' j q2 p1 p2 p3 p4 p5 p8
      · unfold x_H9
        rw [m_sc_ne (by omega), m_sc_ne (by omega), m_sc_ne (by omega), m_sc_self]
      · rw [H9 25 (by omega) (by omega) (by omega) (by omega)]
        exact hh25
      · unfold rl_en
        rw [E _ 55 (by omega) (by omega) (by omega) (by omega) (by omega) (by omega), E _ 61 (by omega) (by omega) (by omega) (by omega) (by omega) (by omega), E27, m_sc_self, d55, d61]
        refine Or.inr ⟨rfl, Or.inr ⟨qd.1, qle, rfl, ?_, ?_, fun j hj => ?_⟩⟩
        · unfold x_H9
          rw [m_sc_ne (by omega), m_sc_self]
        · unfold x_H9
          rw [m_sc_self]
        · rw [cpy_i hj, z2 j hj, a9]
end RBP
