/-! explore: a house is met -/
section RBE
variable {V : m_V} {t m n : Nat} {ls st : List Value} {I J : m_I} {L : m_L} {R : m_R} {e : Option Nat} {a b : Nat} {Q : Option Value → Nat → m_I → m_L → m_R → Prop} {u x k s c i y d : Nat} {p f tb hs mt : Nat → Int32} {h : Int32}
theorem z_put_o (h1 : k ≠ 55 ∧ k ≠ 57 ∧ k ≠ 58 ∧ k ≠ 60) : z_put I y s h k = I k := by
  unfold z_put
  rw [m_sc_ne h1.2.2.2, m_sc_ne h1.1, m_sc_ne h1.2.2.1, m_sc_ne h1.2.1]
theorem z_put_55 : z_put I y s h 55 = m_sc (I 55) 8 (nI (y + 1)) := by unfold z_put; rw [m_sc_ne (by omega), m_sc_self]
theorem z_put_57 : z_put I y s h 57 = va_cpy (I 2) (I 57) 0 (y * 581) 581 := by unfold z_put; rw [m_sc_ne (by omega), m_sc_ne (by omega), m_sc_ne (by omega), m_sc_self]
theorem z_put_58 : z_put I y s h 58 = m_sc (I 58) y h := by unfold z_put; rw [m_sc_ne (by omega), m_sc_ne (by omega), m_sc_self]
theorem z_put_60 : z_put I y s h 60 = m_sc (I 60) s (nI (y + 1)) := by unfold z_put; rw [m_sc_self]
theorem z_row_y {j : Nat} (hj : j < 581) : z_row (va_cpy f p 0 (y * 581) 581) y j = f j := by
  unfold z_row va_cpy
  rw [if_pos (by omega), Nat.add_sub_cancel_left, Nat.zero_add]
theorem z_row_i {j : Nat} (hj : j < 581) (hi : i < y) : z_row (va_cpy f p 0 (y * 581) 581) i j = z_row p i j := by
  unfold z_row va_cpy
  rw [if_neg (by omega)]
theorem z_HT_put (hH : z_HT I y) (hy : y < 400) (hh : h = z_h (I 2)) {s0 : Nat} (hs0 : s0 < 1024) (he : h &&& nI 1023 = nI s0) (hd : d < 1024) (h0 : I 60 ((s0 + d) % 1024) = nI 0) (hb : ∀ d', d' < d → ¬ I 60 ((s0 + d') % 1024) = nI 0) : z_HT (z_put I y ((s0 + d) % 1024) h) (y + 1) := by
  obtain ⟨a1, a2, a3, a4, a5⟩ := hH
  have hs4 : (s0 + d) % 1024 < 1024 := Nat.mod_lt _ (by omega)
  have nz : ∀ k, k < 1000 → ¬ nI (k + 1) = nI 0 := fun k hk => by rw [n_eq (by omega) (by omega)]; omega
  unfold z_HT
  rw [z_put_55, z_put_57, z_put_58, z_put_60]
  refine ⟨m_sc_self, fun i hi => ?_, fun s hs => ?_, fun i hi => ?_, ?_⟩
  · by_cases hiy : i = y
    · subst hiy
      rw [m_sc_self, hh]
      exact (z_h_cg (fun j hj => z_row_y (by omega))).symm
    · rw [m_sc_ne hiy, a2 i (by omega)]
      exact (z_h_cg (fun j hj => z_row_i (by omega) (by omega))).symm
  · by_cases hss : s = (s0 + d) % 1024
    · subst hss
      exact ⟨y + 1, Nat.le_refl _, m_sc_self⟩
    · obtain ⟨E, e1, e2⟩ := a3 s hs
      exact ⟨E, by omega, (m_sc_ne hss).trans e2⟩
  · by_cases hiy : i = y
    · subst hiy
      refine ⟨s0, d, hs0, hd, by rw [m_sc_self]; exact he, m_sc_self, fun d' hd' => ?_⟩
      have q := hb d' hd'
      rw [m_sc_ne (fun z => q (by rw [z]; exact h0))]
      exact q
    · obtain ⟨s1, d1, b1, b2, b3, b4, b5⟩ := a4 i (by omega)
      refine ⟨s1, d1, b1, b2, by rw [m_sc_ne hiy]; exact b3, ?_, fun d' hd' => ?_⟩
      · rw [m_sc_ne (fun z => nz i (by omega) (by rw [← b4, z]; exact h0))]
        exact b4
      · by_cases hss : (s1 + d') % 1024 = (s0 + d) % 1024
        · rw [hss, m_sc_self]; exact nz y (by omega)
        · rw [m_sc_ne hss]; exact b5 d' hd'
  · rw [z_ct_put h0 (nz y (by omega)) 1024 hs4, a5]
theorem z_meet (ht : 62 ≤ t) {N : Nat} (hN : N ≤ 400) (hy : y ≤ N) (hH : z_HT I y) (hD : z_D4 (I 2)) : ∃ r I', (∀ Q, WP V 35 0 (m_loc 35 [.ref 55, .int (nI N)]) [] t I L (m_RR e a b) Q = Q (some (.int (m_bl r))) t I' L (m_RR e a b)) ∧ ((r = true ∧ I' = m_sc I 2 (z_ags (I 2)) ∧ ∃ i, i < y ∧ z_lk (z_row (I 57) i) (z_ags (I 2))) ∨ ((∀ i, i < y → ¬ z_lk (z_row (I 57) i) (z_ags (I 2))) ∧ ((r = false ∧ y = N ∧ I' = m_sc I 2 (z_ags (I 2))) ∨ (r = true ∧ y < N ∧ ∃ s h, I' = z_put (m_sc I 2 (z_ags (I 2))) y s h ∧ z_HT I' (y + 1))))) := by
  obtain ⟨J, hJ⟩ : ∃ J, J = m_sc I 2 (z_ags (I 2)) := ⟨_, rfl⟩
  obtain ⟨f, hf⟩ : ∃ f, f = z_ags (I 2) := ⟨_, rfl⟩
  have jf : J 2 = f := by rw [hJ, m_sc_self, hf]
  have jo : ∀ k, k ≠ 2 → J k = I k := fun k hk => by rw [hJ, m_sc_ne hk]
  have hHJ : z_HT J y := by
    unfold z_HT
    rw [jo 55 (by omega), jo 57 (by omega), jo 58 (by omega), jo 60 (by omega)]
    exact hH
  have hDJ : z_D4 (J 2) := by
    intro u hu
    have e0 : f (12 + u) = I 2 (12 + u) := by rw [hf]; exact z_ags_o (by omega)
    have := hD u hu
    unfold z_dd at this ⊢
    rw [jf, e0]
    exact this
  have j57 : I 57 = J 57 := (jo 57 (by omega)).symm
  rw [← hJ, ← hf, j57]
  obtain ⟨h, hh⟩ : ∃ h, h = z_h (J 2) := ⟨_, rfl⟩
  obtain ⟨s0, hs0, he⟩ := n_a1023 h
  obtain ⟨a1, a2, a3, a4, a5⟩ := id hHJ
  obtain ⟨w4, w6, hw⟩ := w35_11 (V := V) (L := L) (e := e) (a := a) (b := b) (h := h) (N := N) ht hDJ (by omega) a3 1024 0 s0 m_u rfl hs0
  have run : ∀ Q, WP V 35 0 (m_loc 35 [.ref 55, .int (nI N)]) [] t I L (m_RR e a b) Q = WP V 35 11 [.ref 55, .int (nI N), .int h, .int (nI s0), .int (nI 0), m_u] [] t J L (m_RR e a b) Q := fun Q => by
    rw [show m_loc 35 [.ref 55, .int (nI N)] = [.ref 55, .int (nI N), m_u, m_u, m_u, m_u] from rfl]
    simp (disch := first | assumption | omega | decide) only [nI_add, n_mul, n_sub, n_le, n_lt, n_eq, n_ne1, n_0, m_bl_t, m_bl_f, if_true, if_false, Nat.reduceAdd, Nat.reduceMul, Nat.reduceSub, Nat.reduceLeDiff, Nat.reduceEqDiff, Nat.add_zero, Nat.add_sub_cancel, Option.toList, List.cons_append, List.nil_append, i35_0, i35_1, i35_2, i35_3, i35_4, c36 ht, ← hJ, c38 ht, ← hh]
    simp (disch := first | assumption | omega | decide) only [nI_add, n_mul, n_sub, n_le, n_lt, n_eq, n_ne1, n_0, m_bl_t, m_bl_f, if_true, if_false, Nat.reduceAdd, Nat.reduceMul, Nat.reduceSub, Nat.reduceLeDiff, Nat.reduceEqDiff, Nat.add_zero, Nat.add_sub_cancel, Option.toList, List.cons_append, List.nil_append, i35_5, i35_6, i35_7, i35_8, i35_9, i35_10, he]
  have nz : ∀ k, k < 1000 → ¬ nI (k + 1) = nI 0 := fun k hk => by rw [n_eq (by omega) (by omega)]; omega
  have hy4 : y ≤ 400 := by omega
  cases hz : (z_fd (J 60) (J 58) (J 57) (J 2) h 1024 s0).1
  · have none : ∀ i, i < y → ¬ z_lk (z_row (J 57) i) f := fun i hi hk => by
      have e1 : z_h (z_row (J 57) i) = h := by rw [hh, jf]; exact z_h_cg hk.1
      have e2 := (a2 i hi).trans e1
      obtain ⟨s, d, b1, b2, b3, b4, b5⟩ := a4 i hi
      rw [e2, he] at b3
      obtain rfl : s0 = s := n_inj b3 (by omega) (by omega)
      have e3 : z_E (J 60) ((s0 + d) % 1024) = i := by unfold z_E; rw [b4, n_sub (by omega), nI_clamp (by omega)]; omega
      have e4 : z_lb (J 57) (J 2) (i * 581) = true := by rw [jf]; exact z_lb_iff.mpr hk
      have := z_fd_c d 1024 s0 b1 b2 b5 (by rw [b4]; exact nz i (by omega)) e3 e2 e4
      rw [hz] at this
      exact absurd this Bool.false_ne_true
    rcases z_fd_f 1024 s0 hs0 hz with ⟨d, d1, d2, d3, d4⟩ | d4
    · have h48 := fun Q => w35_48 (V := V) (L := L) (e := e) (a := a) (b := b) (h := h) (I := J) (N := N) (s := (s0 + d) % 1024) (w4 := .int w4) (w5 := w6) (Q := Q) ht hN hy a1 (Nat.mod_lt _ (by omega))
      by_cases hyN : y < N
      · refine ⟨true, z_put J y ((s0 + d) % 1024) h, fun Q => ?_, Or.inr ⟨none, Or.inr ⟨rfl, hyN, _, _, rfl, z_HT_put hHJ (by omega) hh hs0 he d1 d3 d4⟩⟩⟩
        rw [run Q, hw Q, hz, if_neg Bool.false_ne_true, d2, h48 Q, if_pos hyN, m_bl_t]
      · refine ⟨false, J, fun Q => ?_, Or.inr ⟨none, Or.inl ⟨rfl, by omega, rfl⟩⟩⟩
        rw [run Q, hw Q, hz, if_neg Bool.false_ne_true, d2, h48 Q, if_neg hyN, m_bl_f]
    · have : z_ct (J 60) 1024 = 1024 := z_ct_all 1024 (fun j hj => by
        have q := d4 ((j + 1024 - s0) % 1024) (Nat.mod_lt _ (by omega))
        rw [show (s0 + (j + 1024 - s0) % 1024) % 1024 = j by omega] at q
        exact q)
      omega
  · refine ⟨true, J, fun Q => ?_, Or.inl ⟨rfl, rfl, ?_⟩⟩
    · rw [run Q, hw Q, hz, if_pos rfl, m_bl_t]
    · obtain ⟨s, b1, b2, b3⟩ := z_fd_t 1024 s0 hz hs0
      obtain ⟨E, e1, e2⟩ := a3 s b1
      have hE : z_E (J 60) s < y := by
        by_cases q : E = 0
        · rw [e2, q] at b2; exact absurd rfl b2
        · unfold z_E; rw [e2, n_sub (by omega), nI_clamp (by omega)]; omega
      refine ⟨_, hE, ?_⟩
      rw [jf] at b3
      exact z_lb_iff.mp b3
end RBE
