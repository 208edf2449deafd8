/-! class and model alike: one step -/
section RLX
variable {ex : Bool} {J : m_I} {L : m_L} {f g h f' g' h' nn ww f0 nn0 ww0 h0 g26 : Nat → Int32} {oo o0 : m_I} {u v w x k r c c' b b2 d o n p j pp i1 i2 i3 kk : Nat} {y z va B : Int32} {q : c_R} {qq : d_R} {cx : Nat → Nat}
theorem rl_do (hro : rl_ro J L) (hL : rl_L f g h c b b2) (hE : rl_E ex f0 nn0 ww0 h0 o0 f g h nn ww oo b b2 k n) (ht : rl_tb f g u c d o) (hu : u < 3) (hst : ¬ f (3 + u) = nI 0) (hr : ¬ f (3 + u) = nI 4) (hp : f (6 + u) = nI pp) (hp2 : pp < 40) (hc : c < 1000000000) (hb : b < 1000000000) (hb2 : b2 < 1000000000) (hk : k < 1000000) (hkk : kk ≤ 21) (ha1 : (m_Bl 1000).getD kk 0 ≠ 0 → i1 < (m_Bl 1000).getD kk 0) (ha2 : (m_Bl 1001).getD kk 0 ≠ 0 → B = nI i2 ∧ i2 < (m_Bl 1001).getD kk 0) (ha3 : (m_Bl 1002).getD kk 0 ≠ 0 → i3 < (m_Bl 1002).getD kk 0) (hcx : ∀ x, x < 8 → g (18 * x + 15) = nI (cx x) ∧ cx x ≤ 4) : rl_S1 ex f0 nn0 ww0 h0 o0 u c b b2 k d o (c_do J L f g26 nn ww u kk i1 i2 i3 d o k B) (d_do J L g h oo u kk i1 i2 i3 d o n cx (c_own f) (rl_dw f) (rl_kw f) B) := by
  have ff : ¬ (false = true) := by decide
  have tt : true = true := rfl
  have hG := ht.2.1
  have F5 : rl_S1 ex f0 nn0 ww0 h0 o0 u c b b2 k d o (c_gq g26 nn ww (nI 105, f)) (d_fails g h oo u (nI 5) d o n) := by
    unfold c_gq
    dsimp only
    exact rl_S_F hL hE ht hu hst hr hc hk hb2 (by decide) (by decide)
  have hcb : ∀ x, x < 8 → rl_cb f g x c (cx x) := fun x hx => rl_cb_of hL (hcx x hx).1 (hcx x hx).2 hx rfl
  have hpo : ∀ {x : Nat}, x < 8 → (c_look f g26 u x).1 = nI 6 → (c_look f g26 u x).2.1 (6 + u) = nI pp := by
    intro x hx _
    rw [← hp]
    have S : ∀ F kk, c_see F u x kk (6 + u) = F (6 + u) := fun F kk => c_see_o hu hx (by omega)
    have C : ∀ F, c_come F u x (6 + u) = F (6 + u) := fun F => by
      unfold c_come
      split
      · rw [m_sc_ne (by omega)]
      · rfl
    have L2 : ∀ F, (c_look2 F g26 u x).2.1 (6 + u) = F (6 + u) := by
      intro F
      unfold c_look2
      split
      · exact (S _ _).trans (m_sc_ne (by omega))
      · split
        · unfold c_picR
          split
          · exact S _ _
          · split
            · exact S _ _
            · split
              · exact S _ _
              · split
                · exact S _ _
                · rfl
        · unfold c_clkR
          split
          · rfl
          · split
            · split
              · rfl
              · exact (S _ _).trans ((C _).trans (m_sc_ne (by omega)))
            · exact (S _ _).trans (C _)
    unfold c_look
    split
    · unfold c_out
      split
      · rfl
      · rfl
    · split
      · rfl
      · split
        · exact (S _ _).trans (C _)
        · split
          · rfl
          · split
            · exact L2 f
            · rename_i hrv
              split
              · have hno : ¬ f (33 + x) = -1 := fun q => hrv (by
                  unfold c_rival
                  split
                  · exact q
                  · rfl)
                obtain ⟨w1, w2, w3⟩ := rl_owner hL hx hno
                have hwu : c_own f x ≠ u := fun e => hrv (by
                  unfold c_rival
                  refine if_neg (fun q => ?_)
                  rw [Bool.and_eq_true] at q
                  have q2 := q.2
                  unfold c_oth at q2
                  rw [Bool.and_eq_true, decide_eq_true_eq, decide_eq_true_eq] at q2
                  exact q2.2 (by rw [w2, e]))
                exact (L2 _).trans (c_anew_o (by omega) (by omega) (by omega) (by omega))
              · rfl
  obtain rfl | rfl | rfl | rfl | rfl | rfl | rfl | rfl | rfl | rfl | rfl | rfl | rfl | rfl | rfl | rfl | rfl | rfl | rfl | rfl | rfl | rfl : kk = 0 ∨ kk = 1 ∨ kk = 2 ∨ kk = 3 ∨ kk = 4 ∨ kk = 5 ∨ kk = 6 ∨ kk = 7 ∨ kk = 8 ∨ kk = 9 ∨ kk = 10 ∨ kk = 11 ∨ kk = 12 ∨ kk = 13 ∨ kk = 14 ∨ kk = 15 ∨ kk = 16 ∨ kk = 17 ∨ kk = 18 ∨ kk = 19 ∨ kk = 20 ∨ kk = 21 := by omega
  · have h1 : i1 < 4 := ha1 (by decide)
    exact rl_S_r hL hE hu h1 hst hp hp2 rfl
  · have h1 : i1 < 4 := ha1 (by decide)
    have h2 : i2 < 4 := (ha2 (by decide)).2
    exact rl_S_r hL hE hu h1 hst hp hp2 (by rw [hG i1 h1, hG i2 h2])
  · have h1 : i1 < 4 := ha1 (by decide)
    have h2 : i2 < 4 := (ha2 (by decide)).2
    exact rl_S_r hL hE hu h1 hst hp hp2 (by rw [hG i1 h1, hG i2 h2])
  · have h1 : i1 < 4 := ha1 (by decide)
    have h2 : i2 < 4 := (ha2 (by decide)).2
    show rl_S1 ex f0 nn0 ww0 h0 o0 u c b b2 k d o (if f (21 + 4 * u + i2) = nI 0 then (nI 104, f, g26, nn, ww) else (nI 6, m_sc f (21 + 4 * u + i1) (f (21 + 4 * u + i1) / f (21 + 4 * u + i2)), g26, nn, ww)) (if g (150 + 154 * u + 3 + i2) = nI 0 then d_fails g h oo u (nI 4) d o n else (nI 1, d_next (m_sc g (150 + 154 * u + 3 + i1) (g (150 + 154 * u + 3 + i1) / g (150 + 154 * u + 3 + i2))) u, h, oo))
    rw [← hG i2 h2, ← hG i1 h1]
    by_cases h3 : f (21 + 4 * u + i2) = nI 0
    · rw [if_pos h3, if_pos h3]
      exact rl_S_F hL hE ht hu hst hr hc hk hb2 (by decide) (by decide)
    · rw [if_neg h3, if_neg h3]
      exact rl_S_r hL hE hu h1 hst hp hp2 rfl
  · have h1 : i1 < 4 := ha1 (by decide)
    have h2 : i2 < 8 := (ha2 (by decide)).2
    exact rl_rda (rl_look hL hE ht hu h2 (by omega) rfl hr hc (hcb i2 h2)) hu h1 hst hr hc hk hb2 (hpo h2) hp2
  · have h1 : i1 < 8 := ha1 (by decide)
    have h2 : i2 < 4 := (ha2 (by decide)).2
    show rl_S1 ex f0 nn0 ww0 h0 o0 u c b b2 k d o (c_gp g26 (c_put f nn ww u i1 k (nI 1) (f (21 + 4 * u + i2)))) (d_wra g h oo u i1 (nI 1) (g (150 + 154 * u + 3 + i2)) n (c_own f i1) (rl_dw f i1) (rl_kw f i1) d o)
    rw [← hG i2 h2]
    exact rl_wra hL hE ht hu h1 hc hb hb2 hk (Or.inr (Or.inl rfl)) hst hr hp hp2
  · have h1 : i1 < 8 := ha1 (by decide)
    obtain ⟨hB, h2⟩ := ha2 (by decide)
    exact rl_wra hL hE ht hu h1 hc hb hb2 hk (Or.inr (Or.inr ⟨rfl, i2, h2, hB⟩)) hst hr hp hp2
  · have h1 : i1 < 8 := ha1 (by decide)
    exact rl_wra hL hE ht hu h1 hc hb hb2 hk (Or.inl rfl) hst hr hp hp2
  · have h1 : i1 < 4 := ha1 (by decide)
    have h2 : i2 < 8 := (ha2 (by decide)).2
    have h3 : i3 < 4 := ha3 (by decide)
    exact rl_ita hro (rl_look hL hE ht hu h2 (by omega) rfl hr hc (hcb i2 h2)) hu h1 h3 hst hr hc hk hb2 (hpo h2) hp2
  · have h1 : i1 < 41 := ha1 (by decide)
    exact rl_S_p hL hE hu hst ⟨i1, by omega, rfl⟩
  · have h1 : i1 < 4 := ha1 (by decide)
    obtain ⟨hB, h2⟩ := ha2 (by decide)
    have h2 : i2 < 41 := h2
    show rl_S1 ex f0 nn0 ww0 h0 o0 u c b b2 k d o (if f (21 + 4 * u + i1) = nI 0 then (nI 1, m_sc f (6 + u) B, g26, nn, ww) else (nI 6, f, g26, nn, ww)) (nI 1, (if g (150 + 154 * u + 3 + i1) = nI 0 then d_goes g u B else d_next g u), h, oo)
    rw [← hG i1 h1]
    by_cases h3 : f (21 + 4 * u + i1) = nI 0
    · rw [if_pos h3, if_pos h3]
      exact rl_S_p hL hE hu hst ⟨i2, by omega, hB⟩
    · rw [if_neg h3, if_neg h3]
      exact rl_S_n hL (Nat.le_succ _) (Nat.le_succ _) (Nat.le_succ _) (Nat.le_succ _) hE hu hst hp hp2
  · have h1 : i1 < 4 := ha1 (by decide)
    exact rl_s11 hL hE ht hu h1 hst hr hp hp2 hc hb hb2 hk
  · exact rl_s12 hL hE ht hu hst hr hp hp2 hc hb2 hk
  · exact rl_s13 hL hE ht hu hst hr hc hb2 hk
  · have h1 : i1 < 41 := ha1 (by decide)
    show rl_S1 ex f0 nn0 ww0 h0 o0 u c b b2 k d o (c_gq g26 nn ww (c_open f u 14 i1 d)) (if decide (g (150 + 154 * u + 101) = nI 1) && (decide (g (150 + 154 * u + 102) = nI 2) && (d_push g u 0 i1 d).1) then (nI 1, d_next (d_push g u 0 i1 d).2 u, h, oo) else d_fails g h oo u (nI 5) d o n)
    unfold c_open
    have nk : ¬ (14 = 16) := by decide
    rw [decide_eq_true (rfl : 14 = 14), Bool.true_and, decide_eq_false nk, Bool.false_and]
    rcases rl_g101 ht with ⟨k1, k2⟩ | ⟨k1, k2, k3⟩
    · have n1 : ¬ f (15 + u) = nI 2 := by rw [k1]; decide
      have n01 : ¬ nI 0 = nI 1 := by decide
      rw [decide_eq_true n1, if_pos tt, k2, decide_eq_false n01, Bool.false_and, if_neg ff]
      exact F5
    · rw [k2, decide_eq_true (rfl : nI 1 = nI 1), Bool.true_and, ← k3]
      by_cases h2 : f (15 + u) = nI 2
      · have n2 : ¬ ¬ f (15 + u) = nI 2 := fun q => q h2
        rw [decide_eq_false n2, if_neg ff, if_neg ff, decide_eq_true h2, Bool.true_and]
        exact rl_opn (kk := 14) (v := 0) hL hE ht hu (by omega) hst hr hp hp2 hc hb2 hk (Or.inl ⟨rfl, rfl⟩) (by omega) (Or.inr k1)
      · rw [decide_eq_true h2, if_pos tt, decide_eq_false h2, Bool.false_and, if_neg ff]
        exact F5
  · have h1 : i1 < 41 := ha1 (by decide)
    show rl_S1 ex f0 nn0 ww0 h0 o0 u c b b2 k d o (c_gq g26 nn ww (c_cloj (c_clo f u (nI 14) d o) u i1)) (if decide (g (150 + 154 * u + 101) = nI 1) && (d_pop g u 0 (d_fl g u o) d).1 then (nI 1, d_goes (d_pop g u 0 (d_fl g u o) d).2 u (nI i1), h, oo) else d_fails g h oo u (nI 5) d o n)
    rcases rl_close (kk := 14) (v := 0) hL hE ht hu hst (Or.inl ⟨rfl, rfl⟩) with ⟨e1, e2⟩ | ⟨e1, e2, e3, e4, e5, e6⟩
    · have n6 : ¬ nI 105 = nI 6 := by decide
      rw [e1, e2, Bool.and_false, if_neg ff]
      unfold c_cloj
      rw [if_neg n6]
      exact F5
    · have hin : ¬ f (15 + u) = -1 := e6.resolve_left (by omega)
      have k2 : g (150 + 154 * u + 101) = nI 1 := by
        rcases rl_g101 ht with ⟨k1, _⟩ | ⟨_, k2, _⟩
        · exact absurd k1 hin
        · exact k2
      rw [k2, decide_eq_true (rfl : nI 1 = nI 1), Bool.true_and, e2, if_pos tt]
      unfold c_cloj
      rw [if_pos e1]
      exact rl_S_p e3 e4 hu (by rw [e5 _ (by omega)]; exact hst) ⟨i1, by omega, rfl⟩
  · have h1 : i1 < 41 := ha1 (by decide)
    show rl_S1 ex f0 nn0 ww0 h0 o0 u c b b2 k d o (c_gq g26 nn ww (c_open f u 16 i1 d)) (if decide (g (150 + 154 * u + 101) = nI 1) && (decide (¬ g (150 + 154 * u + 102) = nI 3) && (d_push g u 1 i1 d).1) then (nI 1, d_next (d_push g u 1 i1 d).2 u, h, oo) else d_fails g h oo u (nI 5) d o n)
    unfold c_open
    have nk : ¬ (16 = 14) := by decide
    rw [decide_eq_true (rfl : 16 = 16), Bool.true_and, decide_eq_false nk, Bool.false_and, if_neg ff]
    rcases rl_g101 ht with ⟨k1, k2⟩ | ⟨k1, k2, k3⟩
    · have n01 : ¬ nI 0 = nI 1 := by decide
      rw [decide_eq_true k1, Bool.true_or, if_pos tt, k2, decide_eq_false n01, Bool.false_and, if_neg ff]
      exact F5
    · rw [k2, decide_eq_true (rfl : nI 1 = nI 1), Bool.true_and, ← k3, decide_eq_false k1, Bool.false_or]
      by_cases h2 : f (15 + u) = nI 3
      · have n2 : ¬ ¬ f (15 + u) = nI 3 := fun q => q h2
        rw [decide_eq_true h2, if_pos tt, decide_eq_false n2, Bool.false_and, if_neg ff]
        exact F5
      · rw [decide_eq_false h2, if_neg ff, decide_eq_true h2, Bool.true_and]
        exact rl_opn (kk := 16) (v := 1) hL hE ht hu (by omega) hst hr hp hp2 hc hb2 hk (Or.inr (Or.inl ⟨rfl, rfl⟩)) (by omega) (Or.inr k1)
  · show rl_S1 ex f0 nn0 ww0 h0 o0 u c b b2 k d o (c_gq g26 nn ww (c_clo f u (nI 16) d o)) (if decide (g (150 + 154 * u + 101) = nI 1) && (d_pop g u 1 (d_fl g u o) d).1 then (nI 1, d_next (d_pop g u 1 (d_fl g u o) d).2 u, h, oo) else d_fails g h oo u (nI 5) d o n)
    rcases rl_close (kk := 16) (v := 1) hL hE ht hu hst (Or.inr (Or.inl ⟨rfl, rfl⟩)) with ⟨e1, e2⟩ | ⟨e1, e2, e3, e4, e5, e6⟩
    · rw [e1, e2, Bool.and_false, if_neg ff]
      exact F5
    · have hin : ¬ f (15 + u) = -1 := e6.resolve_left (by omega)
      have k2 : g (150 + 154 * u + 101) = nI 1 := by
        rcases rl_g101 ht with ⟨k1, _⟩ | ⟨_, k2, _⟩
        · exact absurd k1 hin
        · exact k2
      rw [k2, decide_eq_true (rfl : nI 1 = nI 1), Bool.true_and, e2, if_pos tt]
      unfold c_gq
      rw [e1]
      exact rl_S_n e3 (Nat.le_succ _) (Nat.le_succ _) (Nat.le_succ _) (Nat.le_succ _) e4 hu (by rw [e5 _ (by omega)]; exact hst) (by rw [e5 _ (by omega)]; exact hp) hp2
  · have h1 : i1 < 41 := ha1 (by decide)
    show rl_S1 ex f0 nn0 ww0 h0 o0 u c b b2 k d o (c_gq g26 nn ww (c_open f u 18 i1 d)) (if (d_push g u 2 i1 d).1 then (nI 1, d_next (d_push g u 2 i1 d).2 u, h, oo) else d_fails g h oo u (nI 5) d o n)
    unfold c_open
    have nk : ¬ (18 = 14) := by decide
    have nk2 : ¬ (18 = 16) := by decide
    rw [decide_eq_false nk, decide_eq_false nk2, Bool.false_and, Bool.false_and, if_neg ff, if_neg ff]
    exact rl_opn (kk := 18) (v := 2) hL hE ht hu (by omega) hst hr hp hp2 hc hb2 hk (Or.inr (Or.inr ⟨rfl, rfl⟩)) (by omega) (Or.inl rfl)
  · show rl_S1 ex f0 nn0 ww0 h0 o0 u c b b2 k d o (c_gq g26 nn ww (c_clo f u (nI 18) d o)) (if (d_pop g u 2 (d_fl g u o) d).1 then (nI 1, d_next (d_pop g u 2 (d_fl g u o) d).2 u, h, oo) else d_fails g h oo u (nI 5) d o n)
    rcases rl_close (kk := 18) (v := 2) hL hE ht hu hst (Or.inr (Or.inr ⟨rfl, rfl⟩)) with ⟨e1, e2⟩ | ⟨e1, e2, e3, e4, e5, e6⟩
    · rw [e1, e2, if_neg ff]
      exact F5
    · rw [e2, if_pos tt]
      unfold c_gq
      rw [e1]
      exact rl_S_n e3 (Nat.le_succ _) (Nat.le_succ _) (Nat.le_succ _) (Nat.le_succ _) e4 hu (by rw [e5 _ (by omega)]; exact hst) (by rw [e5 _ (by omega)]; exact hp) hp2
  · have h1 : i1 < 4 := ha1 (by decide)
    show rl_S1 ex f0 nn0 ww0 h0 o0 u c b b2 k d o (nI 110 + (f (21 + 4 * u + i1) &&& nI 7), f, g26, nn, ww) (d_fails g h oo u (nI 10 + (g (150 + 154 * u + 3 + i1) &&& nI 7)) d o n)
    rw [← hG i1 h1]
    obtain ⟨j, j1, j2⟩ := n_and7 (f (21 + 4 * u + i1))
    rw [j2, nI_add, nI_add]
    exact rl_S_F hL hE ht hu hst hr hc hk hb2 (by rw [n_le (by omega) (by omega)]; omega) (by rw [n_sub (by omega)]; congr 1; omega)
  · have h1 : i1 < 4 := ha1 (by decide)
    have h2 : i2 < 4 := (ha2 (by decide)).2
    refine rl_S_r hL hE hu h1 hst hp hp2 ?_
    rw [← hG i1 h1, ← hG i2 h2]
    by_cases h3 : f (21 + 4 * u + i1) < f (21 + 4 * u + i2)
    · rw [decide_eq_true h3, if_pos h3]; rfl
    · rw [decide_eq_false h3, if_neg h3]; rfl
theorem rl_take (hro : rl_ro J L) (hL : rl_L f g h c b b2) (hE : rl_E ex f0 nn0 ww0 h0 o0 f g h nn ww oo b b2 k n) (ht : rl_tb f g u c d o) (hu : u < 3) (hs : f (3 + u) = nI 1 ∨ f (3 + u) = nI 4) (hp : f (6 + u) = nI pp) {bw : Bool} (hp2 : bw = true → pp < 40) (hc : c < 1000000000) (hb : b < 1000000000) (hb2 : b2 < 1000000000) (hk : k < 1000000) (hkk : bw = true → kk ≤ 21) (ha1 : bw = true → (m_Bl 1000).getD kk 0 ≠ 0 → i1 < (m_Bl 1000).getD kk 0) (ha2 : bw = true → (m_Bl 1001).getD kk 0 ≠ 0 → B = nI i2 ∧ i2 < (m_Bl 1001).getD kk 0) (ha3 : bw = true → (m_Bl 1002).getD kk 0 ≠ 0 → i3 < (m_Bl 1002).getD kk 0) (hcx : ∀ x, x < 8 → g (18 * x + 15) = nI (cx x) ∧ cx x ≤ 4) : rl_S1 ex f0 nn0 ww0 h0 o0 u c b b2 k d o (c_take J L f g26 nn ww u bw kk i1 i2 i3 d o k B) (d_take J L g h oo u bw kk i1 i2 i3 d o n cx (c_own f) (rl_dw f) (rl_kw f) B) := by
  have hst : ¬ f (3 + u) = nI 0 := by
    rcases hs with q | q <;> rw [q] <;> decide
  unfold c_take d_take
  rw [← ht.1.1]
  by_cases h4 : f (3 + u) = nI 4
  · rw [if_pos h4, if_pos h4]
    exact rl_wak2 hL hE ht hu hst
  · rw [if_neg h4, if_neg h4]
    cases hw : bw
    · have ff : ¬ (false = true) := by decide
      rw [if_neg ff, if_neg ff]
      exact rl_stp hL hE ht hu hst h4 hc hb2 hk
    · rw [if_pos rfl, if_pos rfl]
      exact rl_do hro hL hE ht hu hst h4 hp (hp2 hw) hc hb hb2 hk (hkk hw) (ha1 hw) (ha2 hw) (ha3 hw) hcx
end RLX
