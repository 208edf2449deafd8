/-! back: alike -/
section RAK
variable {V : m_V} {m n : Nat} {ls st : List Value} {t N M : Nat} {I I' J : m_I} {R : m_R} {L L' : m_L} {e : Option Nat} {a b u x i s p c r j k : Nat} {Q : Option Value → Nat → m_I → m_L → m_R → Prop}
theorem w107a (ht : 55 ≤ t) (h : ¬ I 0 3 = nI 0) : WP V 107 0 (m_loc 107 [.ref 0]) [] t I L (m_RR e a b) Q = Q (some (.int (nI 0))) t (z_bk I) (m_sc L 9 (va_cpy (L 21) (L 9) 0 0 96)) (m_RR e a b) := by
  rw [show m_loc 107 [.ref 0] = [.ref 0] from rfl]
  simp (disch := first | assumption | omega | decide) only [nI_add, n_mul, n_sub, n_le, n_lt, n_eq, n_ne1, n_0, m_bl_t, m_bl_f, if_true, if_false, Nat.reduceAdd, Nat.reduceMul, Nat.reduceSub, Nat.reduceLeDiff, Nat.reduceEqDiff, Nat.add_zero, Nat.add_sub_cancel, Option.toList, List.cons_append, List.nil_append, i107_0, i107_1, i107_2, i107_5, i107_6, i107_7, i107_8, i107_9, i107_10, i107_11, rv_0_0, rv_0_1, h, c45b ht]
theorem c107a (ht : 55 ≤ t) (h : ¬ I 0 3 = nI 0) : WPC V 107 [.ref 0] m n ls st t I L (m_RR e a b) Q = WP V m n ls ((.int (nI 0)) :: st) t (z_bk I) (m_sc L 9 (va_cpy (L 21) (L 9) 0 0 96)) (m_RR e a b) Q := wpc_of (fun Q => w107a ht h)
theorem w191a (ht : 55 ≤ t) (h : ¬ I 27 37 = nI 0) : WP V 191 0 (m_loc 191 [.ref 27]) [] t I L (m_RR e 28 b) Q = Q (some (.int (nI 0))) t (y_mov I) (m_sc L 37 (va_cpy (L 54) (L 37) 0 0 96)) (m_RR e 28 b) := by
  rw [show m_loc 191 [.ref 27] = [.ref 27, m_u] from rfl]
  simp (disch := first | assumption | omega | decide) only [nI_add, n_mul, n_sub, n_le, n_lt, n_eq, n_ne1, n_0, m_bl_t, m_bl_f, if_true, if_false, Nat.reduceAdd, Nat.reduceMul, Nat.reduceSub, Nat.reduceLeDiff, Nat.reduceEqDiff, Nat.add_zero, Nat.add_sub_cancel, Option.toList, List.cons_append, List.nil_append, i191_0, i191_1, i191_2, i191_5, i191_6, i191_7, i191_8, i191_9, h, c188b ht, w191_10 ht 96 0 _ rfl]
theorem c191a (ht : 55 ≤ t) (h : ¬ I 27 37 = nI 0) : WPC V 191 [.ref 27] m n ls st t I L (m_RR e 28 b) Q = WP V m n ls ((.int (nI 0)) :: st) t (y_mov I) (m_sc L 37 (va_cpy (L 54) (L 37) 0 0 96)) (m_RR e 28 b) Q := wpc_of (fun Q => w191a ht h)
theorem p_back (hT : TP N e I L) (ht : 55 ≤ t) : pair_ok V t e N I L 107 [] 191 [] := by
  obtain ⟨hH, hB, hN, hK⟩ := id hT
  obtain ⟨k1, k3, k2⟩ := id hK
  rcases k2 with k2 | ⟨k2, hV⟩
  · have k0 : I 0 3 = nI 0 := k1.trans k2
    refine pair_v (v := .int (-103)) hT (fun Q => ?_) (fun Q => ?_)
    · rw [show m_loc 107 [.ref 0] = [.ref 0] from rfl]
      simp (disch := first | assumption | omega | decide) only [nI_add, n_mul, n_sub, n_le, n_lt, n_eq, n_ne1, n_0, m_bl_t, m_bl_f, if_true, if_false, Nat.reduceAdd, Nat.reduceMul, Nat.reduceSub, Nat.reduceLeDiff, Nat.reduceEqDiff, Nat.add_zero, Nat.add_sub_cancel, Option.toList, List.cons_append, List.nil_append, i107_0, i107_1, i107_2, i107_3, i107_4, k0]
    · rw [show m_loc 191 [.ref 27] = [.ref 27, m_u] from rfl]
      simp (disch := first | assumption | omega | decide) only [nI_add, n_mul, n_sub, n_le, n_lt, n_eq, n_ne1, n_0, m_bl_t, m_bl_f, if_true, if_false, Nat.reduceAdd, Nat.reduceMul, Nat.reduceSub, Nat.reduceLeDiff, Nat.reduceEqDiff, Nat.add_zero, Nat.add_sub_cancel, Option.toList, List.cons_append, List.nil_append, i191_0, i191_1, i191_2, i191_3, i191_4, k2]
  · have n10 : ¬ nI 1 = nI 0 := by decide
    have k0 : ¬ I 0 3 = nI 0 := by rw [k1, k2]; exact n10
    obtain ⟨t5, t3⟩ := TH_27_5 hH
    have hbo : ∀ k, 12 ≤ k ∨ k = 0 → z_bk I k = I k := fun k hk => z_bk_o (by omega)
    have hO : ∀ k, (k = 0 ∨ (12 ≤ k ∧ k < 27) ∨ k = 37 ∨ (43 < k ∧ k ≠ 52)) → y_mov (z_bk I) k = I k := fun k hk => by rw [y_mov_o (by omega), hbo k (by omega)]
    have h53 : z_bk I 53 = I 53 := hbo 53 (by omega)
    have h27b : z_bk I 27 = I 27 := hbo 27 (by omega)
    have h27 : ∀ j, 20 < j → j ≠ 41 → y_mov (z_bk I) 27 j = I 27 j := fun j q1 q2 => by rw [y_mov_27 q2 (by omega), h27b]
    have hc : ∀ k, k < 12 → y_mov (z_bk I) k = z_bk I k := fun k hk => y_mov_o (by omega)
    refine ⟨.int (nI 0), z_bk I, m_sc L 9 (va_cpy (L 21) (L 9) 0 0 96), y_mov (z_bk I), m_sc (m_sc L 9 (va_cpy (L 21) (L 9) 0 0 96)) 37 (va_cpy (L 54) (L 37) 0 0 96), fun Q => w107a ht k0, fun Q => ?_, TP_le (N := N) ⟨?_, ?_, ?_, ?_⟩ (Nat.le_add_right _ _)⟩
    · rw [w191a ht (by rw [h27b, k2]; exact n10), m_sc_ne (j := 37) (by omega), m_sc_ne (j := 54) (by omega)]
    · obtain ⟨m0, m1, m2, m3, m4⟩ := y_num (I := z_bk I)
      rw [h53] at m0 m1 m2 m3 m4
      refine TH_cg hV (fun j hj => ?_) (fun j hj => ?_) (fun j hj => ?_) (fun j hj => ?_) (fun j hj => ?_) (fun j hj => ?_) (fun j hj => ?_) (fun j hj => ?_) (fun j hj => ?_) (fun j hj => ?_) (fun j hj => ?_) (fun j hj => ?_) (fun j hj => ?_) (fun j hj => ?_) (fun j hj => ?_) (fun j hj => ?_) (fun j hj => ?_) (fun j hj => ?_)
      · rw [hc 2 (by omega)]; show va_cpy (I 14) (I 2) 0 0 581 j = I 14 j; rw [cpy_i hj]
      · rw [hc 4 (by omega)]; show va_cpy (I 16) (I 4) 0 0 960 j = I 16 j; rw [cpy_i hj]
      · rw [hc 5 (by omega)]; show va_cpy (I 17) (I 5) 0 0 6 j = I 17 j; rw [cpy_i hj]
      · rw [hc 7 (by omega)]; show va_cpy (I 19) (I 7) 0 0 6 j = I 19 j; rw [cpy_i hj]
      · rw [hc 8 (by omega)]; show va_cpy (I 20) (I 8) 0 0 6 j = I 20 j; rw [cpy_i hj]
      · rw [m_sc_ne (j := 9) (by omega), m_sc_self, cpy_i hj]; rfl
      · rw [hc 10 (by omega)]
        show m_sc (I 10) 2 (I 22 2) j = I 22 j
        rcases hj with rfl | rfl
        · rw [m_sc_self]
        · rw [m_sc_ne (by omega), t3, k3]
      · rw [hc 11 (by omega)]; show va_cpy (I 23) (I 11) 0 0 2100 j = I 23 j; rw [cpy_i hj]
      · show _ = vH (I 53) j
        rcases hj with rfl | rfl | rfl | rfl | rfl | rfl
        · exact m0
        · exact m1
        · exact m2
        · exact m3
        · rw [y_mov_27 (by omega) (by omega), h27b]; exact t5
        · exact m4
      · rw [y_mov_28 hj, h53]; rfl
      · rw [y_m53_29 hj, h53]; rfl
      · rw [y_m53_30 hj, y_m53_31 hj, y_m53_32 hj, y_m53_33 hj, h53]; exact ⟨rfl, rfl, rfl, rfl⟩
      · rw [y_mov_34 hj, h53]
        show _ ↔ m_bl (decide (I 53 3099 >>> (nI j &&& 31) &&& nI 1 = nI 1)) = nI 0
        unfold z_bt
        by_cases q3 : I 53 3099 >>> (nI j &&& 31) &&& nI 1 = nI 1
        · rw [if_pos q3, decide_eq_true q3]; exact Iff.rfl
        · rw [if_neg q3, decide_eq_false q3]; exact Iff.rfl
      · rw [y_m53_35 hj, y_m53_36 hj, h53]; exact ⟨rfl, rfl⟩
      · rw [m_sc_self, cpy_i hj]; rfl
      · rw [y_m53_38 hj, y_m53_39 hj, h53]; exact ⟨rfl, rfl⟩
      · rw [y_m53_40 hj, y_m53_41 hj, y_m53_42 hj, h53]; exact ⟨rfl, rfl, rfl⟩
      · rw [y_m53_43 hj, h53]; rfl
    · unfold rl_bg
      rw [hO 0 (by omega), h27 25 (by omega) (by omega)]
      exact hB
    · unfold rl_en
      rw [h27 28 (by omega) (by omega), h27 29 (by omega) (by omega), hO 55 (by omega), hO 61 (by omega), hO 46 (by omega)]
      exact hN
    · refine kp_cell hK (fun k hk => hO k (by unfold cellK at hk; omega)) (by rw [hO 0 (by omega)]) (h27 37 (by omega) (by omega)) ?_ ?_ (Nat.le_refl N)
      · rw [m_sc_ne (j := 21) (by omega), m_sc_ne (j := 21) (by omega)]
      · rw [m_sc_ne (j := 54) (by omega), m_sc_ne (j := 54) (by omega)]
end RAK
