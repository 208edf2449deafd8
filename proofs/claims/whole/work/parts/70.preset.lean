/-! reset: alike, whole -/
section RZO
variable {V : m_V} {m n : Nat} {ls st : List Value} {t N M : Nat} {I I' : m_I} {R : m_R} {L L' : m_L} {e : Option Nat} {a b u x : Nat} {Q : Option Value → Nat → m_I → m_L → m_R → Prop}
theorem z_rs_o {k : Nat} (h : k ≠ 2 ∧ k ≠ 10) : z_rs I k = I k := by
  unfold z_rs
  rw [m_sc_ne h.1, m_sc_ne h.2, m_sc_ne h.1]
theorem z_rsd_o {k : Nat} (h : k ≠ 27 ∧ k ≠ 28 ∧ k ≠ 38 ∧ k ≠ 39) : z_rsd I k = I k := by
  unfold z_rsd
  rw [z_rm_o h.2.2, m_sc_ne h.1, m_sc_ne h.2.1]
theorem z_beg_bg (hL : rl_L (I 2) (I 28) (I 27) n m M) (hx : x < 3) : z_bg (I 28) x = z_beg (I 2) x := by
  obtain ⟨d, o, h1, hr⟩ := hL.2.1 x hx
  unfold z_bg z_beg
  rw [h1.1]
theorem p_reset (hT : TP N e I L) (ht : 55 ≤ t) : pair_ok V t e N I L 95 [] 135 [] := by
  have eC : m_loc 95 (.ref 0 :: []) = [.ref 0, m_u] := rfl
  obtain ⟨c, b, k, n, c1, b1, k1, hL, n3, h5, hNt, hO⟩ := XX_get hT.1.1
  have O : ∀ k, k ≠ 2 → k ≠ 10 → (k < 27 ∨ 28 < k) → k ≠ 38 → k ≠ 39 → z_rsd (z_rs I) k = I k := fun k h1 h2 h3 h4 h5 => by rw [z_rsd_o (by omega), z_rs_o (by omega)]
  have e28 : z_rs I 28 = I 28 := z_rs_o (by omega)
  have e27 : z_rs I 27 = I 27 := z_rs_o (by omega)
  have q2 : z_rsd (z_rs I) 2 = va_cpy (c_rs3 (I 2)) (c_rs3 (I 2)) 49 565 16 := by
    rw [z_rsd_o (by omega)]
    unfold z_rs
    rw [m_sc_self]
  have q10 : z_rsd (z_rs I) 10 = m_sc (I 10) 2 (nI 0) := by
    rw [z_rsd_o (by omega)]
    unfold z_rs
    rw [m_sc_ne (by omega), m_sc_self]
  have q27 : z_rsd (z_rs I) 27 = m_sc (m_sc (I 27) 17 (nI 0)) 4 (nI 0) := by
    unfold z_rsd
    rw [z_rm_o (by omega), m_sc_self, e27]
  have q28 : z_rsd (z_rs I) 28 = d_rs (I 28) := by
    unfold z_rsd
    rw [z_rm_o (by omega), m_sc_ne (by omega), m_sc_self, e28]
  refine ⟨.int (nI (c_begun (I 2))), z_rs I, L, z_rsd (z_rs I), L, fun Q => ?_, fun Q => ?_, ?_⟩
  · rw [eC]
    simp (disch := first | assumption | omega | decide) only [nI_add, n_mul, n_sub, n_le, n_lt, n_eq, n_ne1, n_0, m_bl_t, m_bl_f, if_true, if_false, Nat.reduceAdd, Nat.reduceMul, Nat.reduceSub, Nat.reduceLeDiff, Nat.reduceEqDiff, Nat.add_zero, Nat.add_sub_cancel, Option.toList, List.cons_append, List.nil_append, i95_0, i95_1, i95_2, i95_3, i95_4, i95_5, i95_6, i95_7, i95_8, rv_0_0, c48 ht, c46 ht]
  · rw [show (.ref 27 :: [] : List Value) = [.ref 27] from rfl, w135 ht, e28, z_beg_bg hL (x := 0) (by omega), z_beg_bg hL (x := 1) (by omega), z_beg_bg hL (x := 2) (by omega)]
    rfl
  · have hf : ∀ j, j < 565 → va_cpy (c_rs3 (I 2)) (c_rs3 (I 2)) 49 565 16 j = c_rs3 (I 2) j := fun j hj => pk_cpy_out (by omega)
    have hh : ∀ j, j ≠ 4 → j ≠ 17 → m_sc (m_sc (I 27) 17 (nI 0)) 4 (nI 0) j = I 27 j := fun j j1 j2 => by rw [m_sc_ne j1, m_sc_ne j2]
    obtain ⟨hL', hO'⟩ := rl_reset hL hO hf hh
    have hNt' : rl_Nt (m_sc (I 10) 2 (nI 0)) (I 11) (m_sc (m_sc (I 27) 17 (nI 0)) 4 (nI 0)) I 0 0 := ⟨m_sc_self, m_sc_self, by rw [m_sc_ne (by omega), m_sc_self], Or.inl ⟨by omega, rfl⟩, fun i hi => absurd hi (Nat.not_lt_zero _)⟩
    have hX := XX_mk (N := N) (o0 := I) (Nat.zero_le _) b1 (Nat.zero_le _) hL' ((m_sc_ne (by omega)).trans n3) ((hh 5 (by omega) (by omega)).trans h5) hNt' hO'
    have o1 : ∀ k, k ≠ 2 → k ≠ 10 → (k < 27 ∨ 28 < k) → k ≠ 38 → k ≠ 39 → z_rsd (z_rs I) k = I k := O
    refine TP_of hT ⟨?_, ro_cell hT.1.2.1 (O _ (by omega) (by omega) (by omega) (by omega) (by omega)) (O _ (by omega) (by omega) (by omega) (by omega) (by omega)) (O _ (by omega) (by omega) (by omega) (by omega) (by omega)) (O _ (by omega) (by omega) (by omega) (by omega) (by omega)) (O _ (by omega) (by omega) (by omega) (by omega) (by omega)) rfl rfl, cd_cell hT.1.2.2.1 (O _ (by omega) (by omega) (by omega) (by omega) (by omega)) (O _ (by omega) (by omega) (by omega) (by omega) (by omega)) (O _ (by omega) (by omega) (by omega) (by omega) (by omega)) (O _ (by omega) (by omega) (by omega) (by omega) (by omega)) (O _ (by omega) (by omega) (by omega) (by omega) (by omega)) (O _ (by omega) (by omega) (by omega) (by omega) (by omega)) (O _ (by omega) (by omega) (by omega) (by omega) (by omega)), fun y hy => ?_⟩ (O _ (by omega) (by omega) (by omega) (by omega) (by omega)) (fun j hj => by rw [q27, hh j (by omega) (by omega)]) (O _ (by omega) (by omega) (by omega) (by omega) (by omega)) (O _ (by omega) (by omega) (by omega) (by omega) (by omega)) (O _ (by omega) (by omega) (by omega) (by omega) (by omega)) (fun k hk => O _ (by unfold cellK at hk; omega) (by unfold cellK at hk; omega) (by unfold cellK at hk; omega) (by unfold cellK at hk; omega) (by unfold cellK at hk; omega)) rfl rfl (Nat.le_add_right _ _)
    · rw [q2, q28, q10, q27, O 11 (by omega) (by omega) (by omega) (by omega) (by omega)]
      exact rl_XX_le (XX_o hX (O _ (by omega) (by omega) (by omega) (by omega) (by omega)) (O _ (by omega) (by omega) (by omega) (by omega) (by omega)) (O _ (by omega) (by omega) (by omega) (by omega) (by omega)) (O _ (by omega) (by omega) (by omega) (by omega) (by omega))) (Nat.le_add_right _ _)
    · obtain ⟨n', hn⟩ := hL'.2.2.1 y hy
      obtain ⟨p1, p2, p3, p4, p5, p6, p7, p8⟩ := hn
      have r38 : z_rsd (z_rs I) 38 y = d_rs (I 28) (18 * y) := by
        unfold z_rsd
        rw [z_rm_38, if_pos hy, m_sc_ne (by omega), m_sc_self, e28]
      have r39 : z_rsd (z_rs I) 39 y = d_rs (I 28) (18 * y + 1) := by
        unfold z_rsd
        rw [z_rm_39, if_pos hy, m_sc_ne (by omega), m_sc_self, e28]
      rw [q2, r38, r39, ← p6, ← p7, va_x (r := y) (by omega), show 573 + y = 565 + (8 + y) by omega, va_x (r := 8 + y) (by omega), hf (49 + y) (by omega), hf (57 + y) (by omega), show 49 + (8 + y) = 57 + y by omega]
      exact ⟨rfl, rfl⟩
end RZO
