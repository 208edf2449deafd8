/-! forge: alike -/
theorem d_inN {i lo m : Nat} (hi : i < 2147483648) (hlo : lo + m + 1 < 2147483648) : d_in (nI i) (nI lo) (nI (lo + m)) = decide (lo ≤ i ∧ i ≤ lo + m) := by
  unfold d_in
  rw [Bool.eq_iff_iff, Bool.and_eq_true, decide_eq_true_eq, decide_eq_true_eq, decide_eq_true_eq, n_le (by omega) hi, n_le hi (by omega)]
theorem d_m1 {z : Int32} : d_in z (-1) (nI 2) = true ↔ z = -1 ∨ d_in z (nI 0) (nI 2) = true := by
  unfold d_in
  rw [Bool.and_eq_true, Bool.and_eq_true, decide_eq_true_eq, decide_eq_true_eq, decide_eq_true_eq, Int32.le_iff_toInt_le, Int32.le_iff_toInt_le, Int32.le_iff_toInt_le, ← Int32.toInt_inj, nI_toInt (by decide), nI_toInt (by decide), show (-1 : Int32).toInt = -1 from by decide]
  omega
section RZT
variable {V : m_V} {m n : Nat} {ls st : List Value} {t N M : Nat} {I I' : m_I} {R : m_R} {L L' : m_L} {e : Option Nat} {a b u x i s : Nat} {Q : Option Value → Nat → m_I → m_L → m_R → Prop}
def c_spl (s : Nat) : Bool := decide (s < 8) || decide (16 ≤ s ∧ s < 24)
theorem w55 (hs : s < 32) : WP V 55 0 (m_loc 55 [.int (nI (2 + s))]) [] t I L R Q = Q (some (.int (m_bl (c_spl s)))) t I L R := by
  rw [show m_loc 55 [.int (nI (2 + s))] = [.int (nI (2 + s))] from rfl]
  unfold c_spl
  have h2 : ¬ 2 + s < 2 := by omega
  by_cases h8 : s < 8
  · have h10 : 2 + s < 10 := by omega
    rw [decide_eq_true h8, Bool.true_or]
    simp (disch := first | assumption | omega | decide) only [nI_add, n_mul, n_sub, n_le, n_lt, n_eq, n_ne1, n_0, m_bl_t, m_bl_f, if_true, if_false, Nat.reduceAdd, Nat.reduceMul, Nat.reduceSub, Nat.reduceLeDiff, Nat.reduceEqDiff, Nat.add_zero, Nat.add_sub_cancel, Option.toList, List.cons_append, List.nil_append, i55_0, i55_1, i55_2, i55_3, i55_4, i55_5, i55_12, i55_13, i55_15, h2, h10]
  · have h10 : ¬ 2 + s < 10 := by omega
    rw [decide_eq_false h8, Bool.false_or]
    by_cases h16 : 16 ≤ s ∧ s < 24
    · have h18 : ¬ 2 + s < 18 := by omega
      have h26 : ¬ 26 ≤ 2 + s := by omega
      rw [decide_eq_true h16]
      simp (disch := first | assumption | omega | decide) only [nI_add, n_mul, n_sub, n_le, n_lt, n_eq, n_ne1, n_0, m_bl_t, m_bl_f, if_true, if_false, Nat.reduceAdd, Nat.reduceMul, Nat.reduceSub, Nat.reduceLeDiff, Nat.reduceEqDiff, Nat.add_zero, Nat.add_sub_cancel, Option.toList, List.cons_append, List.nil_append, i55_0, i55_1, i55_2, i55_3, i55_4, i55_5, i55_6, i55_7, i55_8, i55_9, i55_10, i55_11, i55_12, i55_13, i55_15, h2, h10, h18, h26]
    · rw [decide_eq_false h16]
      by_cases h18 : 2 + s < 18
      · simp (disch := first | assumption | omega | decide) only [nI_add, n_mul, n_sub, n_le, n_lt, n_eq, n_ne1, n_0, m_bl_t, m_bl_f, if_true, if_false, Nat.reduceAdd, Nat.reduceMul, Nat.reduceSub, Nat.reduceLeDiff, Nat.reduceEqDiff, Nat.add_zero, Nat.add_sub_cancel, Option.toList, List.cons_append, List.nil_append, i55_0, i55_1, i55_2, i55_3, i55_4, i55_5, i55_6, i55_7, i55_8, i55_14, i55_15, h2, h10, h18]
      · have h26 : 26 ≤ 2 + s := by omega
        simp (disch := first | assumption | omega | decide) only [nI_add, n_mul, n_sub, n_le, n_lt, n_eq, n_ne1, n_0, m_bl_t, m_bl_f, if_true, if_false, Nat.reduceAdd, Nat.reduceMul, Nat.reduceSub, Nat.reduceLeDiff, Nat.reduceEqDiff, Nat.add_zero, Nat.add_sub_cancel, Option.toList, List.cons_append, List.nil_append, i55_0, i55_1, i55_2, i55_3, i55_4, i55_5, i55_6, i55_7, i55_8, i55_9, i55_10, i55_11, i55_14, i55_15, h2, h10, h18, h26]
theorem c55 (hs : s < 32) : WPC V 55 [.int (nI (2 + s))] m n ls st t I L R Q = WP V m n ls ((.int (m_bl (c_spl s))) :: st) t I L R Q := wpc_of (fun Q => w55 hs)
theorem Nt_put {nn ww h : Nat → Int32} {k n : Nat} {z : Int32} (hN : rl_Nt nn ww h I k n) (hi : i < n) (hs : s < 32) (h40 : I' 40 = I 40) (h41 : I' 41 = I 41) (h42 : I' 42 = I 42) (h43 : I' 43 = m_sc (I 43) (32 * i + s) z) : rl_Nt nn (m_sc ww (i * 35 + (2 + s)) z) h I' k n := by
  obtain ⟨a1, a2, a3, a4, a5⟩ := hN
  refine ⟨a1, a2, a3, a4, fun i' hi' => ?_⟩
  obtain ⟨r1, r2, r3, r4⟩ := a5 i' hi'
  refine ⟨?_, ?_, fun j hj => ?_, ?_⟩
  · rw [m_sc_ne (by omega), h40]; exact r1
  · rw [m_sc_ne (by omega), h41]; exact r2
  · rw [h43]
    by_cases q : i' = i ∧ j = s
    · obtain ⟨rfl, rfl⟩ := q
      rw [show i' * 35 + 2 + j = i' * 35 + (2 + j) by omega, m_sc_self, m_sc_self]
    · have q1 : ¬ i' * 35 + 2 + j = i * 35 + (2 + s) := fun z => q (by omega)
      have q2 : ¬ 32 * i' + j = 32 * i + s := fun z => q (by omega)
      rw [m_sc_ne q1, m_sc_ne q2]
      exact r3 j hj
  · rw [m_sc_ne (by omega), h42]; exact r4
theorem p_forge28 (hT : TP N e I L) (hN : N < 800000) (ht : 55 ≤ t) {n k : Nat} (hNt : rl_Nt (I 10) (I 11) (I 27) I k n) (hi : i < n) (hn : n ≤ 60) (hs : s < 32) {z : Int32} : ∃ r I1 L1 I2 L2, I1 27 = I 27 ∧ (∀ Q, WP V 104 28 [.ref 0, .int (nI i), .int (nI (2 + s)), .int z, m_u, m_u] [] t I L (m_RR e 28 48) Q = Q (some r) t I1 L1 (m_RR e 28 48)) ∧ (∀ Q, WP V 186 32 [.ref 27, .int (nI i), .int (nI (2 + s)), .int z, m_u] [] t I1 L1 (m_RR e 28 48) Q = Q (some r) t I2 L2 (m_RR e 28 48)) ∧ TP (N + 200) e I2 L2 := by
  have hj : i * 35 + (2 + s) < 2100 := by omega
  have hj2 : 32 * i + s < 1920 := by omega
  have e1 : 32 * i + (2 + s) - 2 = 32 * i + s := by omega
  have hv : I 43 (32 * i + s) = I 11 (i * 35 + (2 + s)) := by
    obtain ⟨r1, r2, r3, r4⟩ := hNt.2.2.2.2 i hi
    rw [← r3 s hs, Nat.add_assoc]
  have O : ∀ k, k ≠ 11 → k ≠ 43 → m_sc (m_sc I 11 (m_sc (I 11) (i * 35 + (2 + s)) z)) 43 (m_sc (I 43) (32 * i + s) z) k = I k := fun k h1 h2 => by rw [m_sc_ne h2, m_sc_ne h1]
  refine ⟨.int (I 11 (i * 35 + (2 + s))), m_sc I 11 (m_sc (I 11) (i * 35 + (2 + s)) z), L, m_sc (m_sc I 11 (m_sc (I 11) (i * 35 + (2 + s)) z)) 43 (m_sc (I 43) (32 * i + s) z), L, m_sc_ne (by omega), fun Q => ?_, fun Q => ?_, ?_⟩
  · rw [i104_28]
    simp (disch := first | assumption | omega | decide) only [nI_add, n_mul, n_sub, n_le, n_lt, n_eq, n_ne1, n_0, m_bl_t, m_bl_f, if_true, if_false, Nat.reduceAdd, Nat.reduceMul, Nat.reduceSub, Nat.reduceLeDiff, Nat.reduceEqDiff, Nat.add_zero, Nat.add_sub_cancel, Option.toList, List.cons_append, List.nil_append, i104_29, i104_30, i104_31, i104_32, i104_33, i104_34, i104_35, i104_36, i104_37, i104_38, i104_39, i104_40, i104_41, i104_42, i104_43, i104_44, i104_45, i104_46, i104_47, i104_48, i104_49, rv_0_0, rv_10_0, rv_13_3, rv_1_3, rv_22_0]
  · have e43 : m_sc I 11 (m_sc (I 11) (i * 35 + (2 + s)) z) 43 = I 43 := m_sc_ne (by omega)
    rw [i186_32]
    simp (disch := first | assumption | omega | decide) only [nI_add, n_mul, n_sub, n_le, n_lt, n_eq, n_ne1, n_0, m_bl_t, m_bl_f, if_true, if_false, Nat.reduceAdd, Nat.reduceMul, Nat.reduceSub, Nat.reduceLeDiff, Nat.reduceEqDiff, Nat.add_zero, Nat.add_sub_cancel, Option.toList, List.cons_append, List.nil_append, i186_33, i186_34, i186_35, i186_36, i186_37, i186_38, i186_39, i186_40, i186_41, i186_42, i186_43, i186_44, i186_45, i186_46, i186_47, i186_48, i186_49, i186_50, i186_51, i186_52, i186_53, i186_54, i186_55, rv_27_21, e1, e43, hv]
  · obtain ⟨c, b, k', n', c1, b1, k1, hL, n3, h5, hNt2, hO⟩ := XX_get hT.1.1
    have q11 : m_sc (m_sc I 11 (m_sc (I 11) (i * 35 + (2 + s)) z)) 43 (m_sc (I 43) (32 * i + s) z) 11 = m_sc (I 11) (i * 35 + (2 + s)) z := by rw [m_sc_ne (by omega), m_sc_self]
    have hin' : i < n' := by
      obtain ⟨z1, z2, z3⟩ := noted_eq hNt2 (by omega)
      have := hNt.2.2.1
      rw [this, n_eq (by omega) (by omega)] at z2
      omega
    have hX := XX_mk (N := N) (o0 := m_sc (m_sc I 11 (m_sc (I 11) (i * 35 + (2 + s)) z)) 43 (m_sc (I 43) (32 * i + s) z)) c1 b1 k1 hL n3 h5 (Nt_put (I' := m_sc (m_sc I 11 (m_sc (I 11) (i * 35 + (2 + s)) z)) 43 (m_sc (I 43) (32 * i + s) z)) (z := z) hNt2 hin' hs (O _ (by omega) (by omega)) (O _ (by omega) (by omega)) (O _ (by omega) (by omega)) m_sc_self) hO
    refine TP_of hT ⟨?_, ro_cell hT.1.2.1 (O _ (by omega) (by omega)) (O _ (by omega) (by omega)) (O _ (by omega) (by omega)) (O _ (by omega) (by omega)) (O _ (by omega) (by omega)) rfl rfl, cd_cell hT.1.2.2.1 (O _ (by omega) (by omega)) (O _ (by omega) (by omega)) (O _ (by omega) (by omega)) (O _ (by omega) (by omega)) (O _ (by omega) (by omega)) (O _ (by omega) (by omega)) (O _ (by omega) (by omega)), fs_cell hT.1.2.2.2 (O _ (by omega) (by omega)) (O _ (by omega) (by omega)) (O _ (by omega) (by omega))⟩ (O _ (by omega) (by omega)) (fun j hj => by rw [O 27 (by omega) (by omega)]) (O _ (by omega) (by omega)) (O _ (by omega) (by omega)) (O _ (by omega) (by omega)) (fun k hk => O _ (by unfold cellK at hk; omega) (by unfold cellK at hk; omega)) rfl rfl (Nat.le_add_right _ _)
    rw [q11, O 2 (by omega) (by omega), O 10 (by omega) (by omega), O 27 (by omega) (by omega), O 28 (by omega) (by omega)]
    exact rl_XX_le hX (Nat.le_add_right _ _)
theorem p_forge (hT : TP N e I L) (hN : N < 800000) (ht : 55 ≤ t) (v w z : Int32) : pair_ok V t e N I L 104 [.int v, .int w, .int z] 186 [.int v, .int w, .int z] := by
  have eC : m_loc 104 (.ref 0 :: [.int v, .int w, .int z]) = [.ref 0, .int v, .int w, .int z, m_u, m_u] := rfl
  have eD : m_loc 186 (.ref 27 :: [.int v, .int w, .int z]) = [.ref 27, .int v, .int w, .int z, m_u] := rfl
  obtain ⟨c, b, k, n, c1, b1, k1, hL, n3, h5, hNt, hO⟩ := XX_get hT.1.1
  obtain ⟨z1, z2, z3⟩ := noted_eq hNt (by omega)
  obtain ⟨i1, i2⟩ := n_inz (s := n) (by omega) v
  cases hin : d_in v (nI 0) (nI n - nI 1)
  · rw [hin] at i1
    refine pair_v (v := .int (-101)) hT (fun Q => ?_) (fun Q => ?_)
    · rw [eC]
      simp (disch := first | assumption | omega | decide) only [nI_add, n_mul, n_sub, n_le, n_lt, n_eq, n_ne1, n_0, m_bl_t, m_bl_f, if_true, if_false, Nat.reduceAdd, Nat.reduceMul, Nat.reduceSub, Nat.reduceLeDiff, Nat.reduceEqDiff, Nat.add_zero, Nat.add_sub_cancel, Option.toList, List.cons_append, List.nil_append, i104_0, i104_1, i104_2, i104_3, i104_4, i104_5, i104_6, i104_7, i104_8, rv_0_0, rv_13_3, rv_1_3, c54 ht, z1, c109, b_0, ← i1]
    · rw [eD]
      simp (disch := first | assumption | omega | decide) only [nI_add, n_mul, n_sub, n_le, n_lt, n_eq, n_ne1, n_0, m_bl_t, m_bl_f, if_true, if_false, Nat.reduceAdd, Nat.reduceMul, Nat.reduceSub, Nat.reduceLeDiff, Nat.reduceEqDiff, Nat.add_zero, Nat.add_sub_cancel, Option.toList, List.cons_append, List.nil_append, i186_0, i186_1, i186_2, i186_3, i186_4, z2]
      rw [i186_5]
      simp (disch := first | assumption | omega | decide) only [nI_add, n_mul, n_sub, n_le, n_lt, n_eq, n_ne1, n_0, m_bl_t, m_bl_f, if_true, if_false, Nat.reduceAdd, Nat.reduceMul, Nat.reduceSub, Nat.reduceLeDiff, Nat.reduceEqDiff, Nat.add_zero, Nat.add_sub_cancel, Option.toList, List.cons_append, List.nil_append, i186_6, i186_7, i186_8, i186_9, c111, b_0, hin]
  · obtain ⟨i, hi, rfl⟩ := i2 hin
    have hb : (decide (0 ≤ i) && decide (i < n)) = true := by simp [hi]
    have hin' : d_in (nI i) (nI 0) (nI (n - 1)) = true := by rw [← n_sub (by omega)]; exact hin
    have hC : ∀ Q, WP V 104 0 (m_loc 104 (.ref 0 :: [.int (nI i), .int w, .int z])) [] t I L (m_RR e 28 48) Q = WP V 104 9 [.ref 0, .int (nI i), .int w, .int z, m_u, m_u] [] t I L (m_RR e 28 48) Q := fun Q => by
      rw [eC]
      simp (disch := first | assumption | omega | decide) only [nI_add, n_mul, n_sub, n_le, n_lt, n_eq, n_ne1, n_0, m_bl_t, m_bl_f, if_true, if_false, Nat.reduceAdd, Nat.reduceMul, Nat.reduceSub, Nat.reduceLeDiff, Nat.reduceEqDiff, Nat.add_zero, Nat.add_sub_cancel, Option.toList, List.cons_append, List.nil_append, i104_0, i104_1, i104_2, i104_3, i104_4, i104_5, i104_6, rv_0_0, rv_13_3, rv_1_3, c54 ht, z1, c109, b_0, hb, Bool.true_eq_false]
    have hD : ∀ (J : m_I) (K : m_L) Q, J 27 17 = nI n → WP V 186 0 (m_loc 186 (.ref 27 :: [.int (nI i), .int w, .int z])) [] t J K (m_RR e 28 48) Q = WP V 186 10 [.ref 27, .int (nI i), .int w, .int z, m_u] [] t J K (m_RR e 28 48) Q := fun J K Q hJ => by
      rw [eD]
      simp (disch := first | assumption | omega | decide) only [nI_add, n_mul, n_sub, n_le, n_lt, n_eq, n_ne1, n_0, m_bl_t, m_bl_f, if_true, if_false, Nat.reduceAdd, Nat.reduceMul, Nat.reduceSub, Nat.reduceLeDiff, Nat.reduceEqDiff, Nat.add_zero, Nat.add_sub_cancel, Option.toList, List.cons_append, List.nil_append, i186_0, i186_1, i186_2, i186_3, i186_4, hJ]
      rw [i186_5]
      simp (disch := first | assumption | omega | decide) only [nI_add, n_mul, n_sub, n_le, n_lt, n_eq, n_ne1, n_0, m_bl_t, m_bl_f, if_true, if_false, Nat.reduceAdd, Nat.reduceMul, Nat.reduceSub, Nat.reduceLeDiff, Nat.reduceEqDiff, Nat.add_zero, Nat.add_sub_cancel, Option.toList, List.cons_append, List.nil_append, i186_6, i186_7, c111, b_0, hin', Bool.true_eq_false]
    cases hw : d_in w (nI 2) (nI 33)
    · refine pair_v (v := .int (-102)) hT (fun Q => ?_) (fun Q => ?_)
      · rw [hC, i104_9]
        by_cases hlt : w < nI 2
        · simp (disch := first | assumption | omega | decide) only [nI_add, n_mul, n_sub, n_le, n_lt, n_eq, n_ne1, n_0, m_bl_t, m_bl_f, if_true, if_false, Nat.reduceAdd, Nat.reduceMul, Nat.reduceSub, Nat.reduceLeDiff, Nat.reduceEqDiff, Nat.add_zero, Nat.add_sub_cancel, Option.toList, List.cons_append, List.nil_append, i104_10, i104_11, i104_15, i104_16, hlt]
        · have hge : ¬ w < nI 34 := fun q => by
            have : d_in w (nI 2) (nI 33) = true := by
              unfold d_in
              rw [Bool.and_eq_true, decide_eq_true_eq, decide_eq_true_eq]
              refine ⟨Int32.not_lt.mp hlt, ?_⟩
              rw [Int32.lt_iff_toInt_lt, nI_toInt (by decide)] at q
              rw [Int32.le_iff_toInt_le, nI_toInt (by decide)]
              omega
            rw [this] at hw
            cases hw
          simp (disch := first | assumption | omega | decide) only [nI_add, n_mul, n_sub, n_le, n_lt, n_eq, n_ne1, n_0, m_bl_t, m_bl_f, if_true, if_false, Nat.reduceAdd, Nat.reduceMul, Nat.reduceSub, Nat.reduceLeDiff, Nat.reduceEqDiff, Nat.add_zero, Nat.add_sub_cancel, Option.toList, List.cons_append, List.nil_append, i104_10, i104_11, i104_12, i104_13, i104_14, i104_15, i104_16, hlt, hge]
      · rw [hD _ _ _ z2, i186_10]
        simp (disch := first | assumption | omega | decide) only [nI_add, n_mul, n_sub, n_le, n_lt, n_eq, n_ne1, n_0, m_bl_t, m_bl_f, if_true, if_false, Nat.reduceAdd, Nat.reduceMul, Nat.reduceSub, Nat.reduceLeDiff, Nat.reduceEqDiff, Nat.add_zero, Nat.add_sub_cancel, Option.toList, List.cons_append, List.nil_append, i186_11, i186_12, i186_13, i186_14, i186_30, i186_31, c111, b_0, hw]
    · obtain ⟨s, hs, rfl⟩ := (d_ink (lo := 2) (m := 31) (by omega)).mp hw
      have hs32 : s < 32 := hs
      have h2 : ¬ 2 + s < 2 := by omega
      have h34 : 2 + s < 34 := by omega
      have f9 : d_in (nI (2 + s)) (nI 2) (nI 9) = decide (s < 8) := by
        rw [show nI 9 = nI (2 + 7) from rfl, d_inN (by omega) (by omega)]
        exact decide_eq_decide.mpr (by omega)
      have f25 : d_in (nI (2 + s)) (nI 18) (nI 25) = decide (16 ≤ s ∧ s < 24) := by
        rw [show nI 25 = nI (18 + 7) from rfl, d_inN (by omega) (by omega)]
        exact decide_eq_decide.mpr (by omega)
      obtain ⟨r, I1, L1, I2, L2, q0, q1, q2, q3⟩ := p_forge28 (V := V) hT hN ht hNt hi z3 hs32 (z := z)
      have hM : ∀ (J : m_I) (K : m_L) Q, (d_in z (-1) (nI 2) = true ∨ c_spl s = false) → WP V 186 10 [.ref 27, .int (nI i), .int (nI (2 + s)), .int z, m_u] [] t J K (m_RR e 28 48) Q = WP V 186 32 [.ref 27, .int (nI i), .int (nI (2 + s)), .int z, m_u] [] t J K (m_RR e 28 48) Q := fun J K Q hq => by
        unfold c_spl at hq
        rw [i186_10]
        cases p8 : decide (s < 8)
        · rw [p8] at f9
          cases p16 : decide (16 ≤ s ∧ s < 24)
          · rw [p16] at f25
            simp (disch := first | assumption | omega | decide) only [nI_add, n_mul, n_sub, n_le, n_lt, n_eq, n_ne1, n_0, m_bl_t, m_bl_f, if_true, if_false, Nat.reduceAdd, Nat.reduceMul, Nat.reduceSub, Nat.reduceLeDiff, Nat.reduceEqDiff, Nat.add_zero, Nat.add_sub_cancel, Option.toList, List.cons_append, List.nil_append, i186_11, i186_12, i186_13, i186_14, i186_15, i186_16, i186_17, i186_18, i186_19, i186_20, i186_21, i186_22, i186_23, i186_24, c111, b_0, hw, f9, f25, Bool.true_eq_false]
          · rw [p16] at f25
            rw [p8, p16] at hq
            have hz := hq.resolve_right (by decide)
            simp (disch := first | assumption | omega | decide) only [nI_add, n_mul, n_sub, n_le, n_lt, n_eq, n_ne1, n_0, m_bl_t, m_bl_f, if_true, if_false, Nat.reduceAdd, Nat.reduceMul, Nat.reduceSub, Nat.reduceLeDiff, Nat.reduceEqDiff, Nat.add_zero, Nat.add_sub_cancel, Option.toList, List.cons_append, List.nil_append, i186_11, i186_12, i186_13, i186_14, i186_15, i186_16, i186_17, i186_18, i186_19, i186_20, i186_21, i186_22, i186_23, i186_24, i186_25, i186_26, i186_27, i186_28, i186_29, c111, b_0, hw, f9, f25, hz, Bool.true_eq_false]
        · rw [p8] at f9 hq
          rw [Bool.true_or] at hq
          have hz := hq.resolve_right (by decide)
          simp (disch := first | assumption | omega | decide) only [nI_add, n_mul, n_sub, n_le, n_lt, n_eq, n_ne1, n_0, m_bl_t, m_bl_f, if_true, if_false, Nat.reduceAdd, Nat.reduceMul, Nat.reduceSub, Nat.reduceLeDiff, Nat.reduceEqDiff, Nat.add_zero, Nat.add_sub_cancel, Option.toList, List.cons_append, List.nil_append, i186_11, i186_12, i186_13, i186_14, i186_15, i186_16, i186_17, i186_18, i186_19, i186_25, i186_26, i186_27, i186_28, i186_29, c111, b_0, hw, f9, hz, Bool.true_eq_false]
      by_cases hz : d_in z (-1) (nI 2) = true ∨ c_spl s = false
      · refine ⟨r, I1, L1, I2, L2, fun Q => ?_, fun Q => ?_, q3⟩
        · rw [hC, ← q1 Q, i104_9]
          cases hp : c_spl s
          · simp (disch := first | assumption | omega | decide) only [nI_add, n_mul, n_sub, n_le, n_lt, n_eq, n_ne1, n_0, m_bl_t, m_bl_f, if_true, if_false, Nat.reduceAdd, Nat.reduceMul, Nat.reduceSub, Nat.reduceLeDiff, Nat.reduceEqDiff, Nat.add_zero, Nat.add_sub_cancel, Option.toList, List.cons_append, List.nil_append, i104_10, i104_11, i104_12, i104_13, i104_14, i104_17, i104_18, i104_19, c55 hs32, h2, h34, b_0, hp]
          · have hz2 := hz.resolve_right (by rw [hp]; decide)
            rcases d_m1.mp hz2 with hm | hm
            · simp (disch := first | assumption | omega | decide) only [nI_add, n_mul, n_sub, n_le, n_lt, n_eq, n_ne1, n_0, m_bl_t, m_bl_f, if_true, if_false, Nat.reduceAdd, Nat.reduceMul, Nat.reduceSub, Nat.reduceLeDiff, Nat.reduceEqDiff, Nat.add_zero, Nat.add_sub_cancel, Option.toList, List.cons_append, List.nil_append, i104_10, i104_11, i104_12, i104_13, i104_14, i104_17, i104_18, i104_19, i104_20, i104_21, i104_22, c55 hs32, h2, h34, b_0, hp, hm, Bool.true_eq_false]
            · by_cases hm1 : z = -1
              · simp (disch := first | assumption | omega | decide) only [nI_add, n_mul, n_sub, n_le, n_lt, n_eq, n_ne1, n_0, m_bl_t, m_bl_f, if_true, if_false, Nat.reduceAdd, Nat.reduceMul, Nat.reduceSub, Nat.reduceLeDiff, Nat.reduceEqDiff, Nat.add_zero, Nat.add_sub_cancel, Option.toList, List.cons_append, List.nil_append, i104_10, i104_11, i104_12, i104_13, i104_14, i104_17, i104_18, i104_19, i104_20, i104_21, i104_22, c55 hs32, h2, h34, b_0, hp, hm1, Bool.true_eq_false]
              · simp (disch := first | assumption | omega | decide) only [nI_add, n_mul, n_sub, n_le, n_lt, n_eq, n_ne1, n_0, m_bl_t, m_bl_f, if_true, if_false, Nat.reduceAdd, Nat.reduceMul, Nat.reduceSub, Nat.reduceLeDiff, Nat.reduceEqDiff, Nat.add_zero, Nat.add_sub_cancel, Option.toList, List.cons_append, List.nil_append, i104_10, i104_11, i104_12, i104_13, i104_14, i104_17, i104_18, i104_19, i104_20, i104_21, i104_22, i104_23, i104_24, i104_25, c55 hs32, c44, h2, h34, b_0, hp, hm1, hm, Bool.true_eq_false]
        · rw [hD _ _ _ (by rw [q0]; exact z2), hM _ _ _ hz, q2 Q]
      · have hzf : d_in z (-1) (nI 2) = false := by
          cases q : d_in z (-1) (nI 2)
          · rfl
          · exact absurd (Or.inl q) hz
        have hp : c_spl s = true := by
          cases q : c_spl s
          · exact absurd (Or.inr q) hz
          · rfl
        have hm1 : ¬ z = -1 := fun q => by rw [d_m1.mpr (Or.inl q)] at hzf; cases hzf
        have hm : d_in z (nI 0) (nI 2) = false := by
          cases q : d_in z (nI 0) (nI 2)
          · rfl
          · rw [d_m1.mpr (Or.inr q)] at hzf; cases hzf
        refine pair_v (v := .int (-102)) hT (fun Q => ?_) (fun Q => ?_)
        · rw [hC, i104_9]
          simp (disch := first | assumption | omega | decide) only [nI_add, n_mul, n_sub, n_le, n_lt, n_eq, n_ne1, n_0, m_bl_t, m_bl_f, if_true, if_false, Nat.reduceAdd, Nat.reduceMul, Nat.reduceSub, Nat.reduceLeDiff, Nat.reduceEqDiff, Nat.add_zero, Nat.add_sub_cancel, Option.toList, List.cons_append, List.nil_append, i104_10, i104_11, i104_12, i104_13, i104_14, i104_17, i104_18, i104_19, i104_20, i104_21, i104_22, i104_23, i104_24, i104_25, i104_26, i104_27, c55 hs32, c44, h2, h34, b_0, hp, hm1, hm, Bool.true_eq_false]
        · rw [hD _ _ _ z2, i186_10]
          unfold c_spl at hp
          cases p8 : decide (s < 8)
          · rw [p8] at f9 hp
            rw [Bool.false_or] at hp
            rw [hp] at f25
            simp (disch := first | assumption | omega | decide) only [nI_add, n_mul, n_sub, n_le, n_lt, n_eq, n_ne1, n_0, m_bl_t, m_bl_f, if_true, if_false, Nat.reduceAdd, Nat.reduceMul, Nat.reduceSub, Nat.reduceLeDiff, Nat.reduceEqDiff, Nat.add_zero, Nat.add_sub_cancel, Option.toList, List.cons_append, List.nil_append, i186_11, i186_12, i186_13, i186_14, i186_15, i186_16, i186_17, i186_18, i186_19, i186_20, i186_21, i186_22, i186_23, i186_24, i186_25, i186_26, i186_27, i186_28, i186_29, i186_30, i186_31, c111, b_0, hw, f9, f25, hzf, Bool.true_eq_false]
          · rw [p8] at f9
            simp (disch := first | assumption | omega | decide) only [nI_add, n_mul, n_sub, n_le, n_lt, n_eq, n_ne1, n_0, m_bl_t, m_bl_f, if_true, if_false, Nat.reduceAdd, Nat.reduceMul, Nat.reduceSub, Nat.reduceLeDiff, Nat.reduceEqDiff, Nat.add_zero, Nat.add_sub_cancel, Option.toList, List.cons_append, List.nil_append, i186_11, i186_12, i186_13, i186_14, i186_15, i186_16, i186_17, i186_18, i186_19, i186_25, i186_26, i186_27, i186_28, i186_29, i186_30, i186_31, c111, b_0, hw, f9, hzf, Bool.true_eq_false]
end RZT
