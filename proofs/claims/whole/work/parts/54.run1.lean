/-! step and run -/
theorem c_tk_cg {J J' : m_I} {L : m_L} {f g nn ww : Nat → Int32} {u : Nat} (h4 : J' 4 = J 4) (h5 : J' 5 = J 5) (h7 : J' 7 = J 7) (h8 : J' 8 = J 8) : c_st3 J' L f g nn ww u = c_st3 J L f g nn ww u := by
  have e : ∀ r i q, c_lki J' L q nn ww r i = c_lki J L q nn ww r i := by
    intro r i q
    unfold c_lki c_item
    rw [h7, h8]
  have e2 : ∀ kk i1 i2 i3 k B, c_plain J' L f g nn ww u kk i1 i2 i3 k B = c_plain J L f g nn ww u kk i1 i2 i3 k B := by
    intro kk i1 i2 i3 k B
    unfold c_plain
    split <;> first | rfl | exact e _ _ _
  unfold c_st3 c_tk c_take c_do
  rw [h4, h5, e2]
theorem d_stq_cg {J J' : m_I} {L : m_L} {g h : Nat → Int32} {o : m_I} {u : Nat} (h29 : J' 29 = J 29) (h30 : J' 30 = J 30) (h31 : J' 31 = J 31) (h32 : J' 32 = J 32) (h33 : J' 33 = J 33) (h34 : J' 34 = J 34) (h36 : J' 36 = J 36) : d_stq J' L g h o u = d_stq J L g h o u := by
  have e : ∀ i j q d k c, d_ita J' L o u i j q d k c = d_ita J L o u i j q d k c := by
    intro i j q d k c
    unfold d_ita
    rw [h34, h36]
  have e2 : ∀ kk i1 i2 i3 d k c cx wx dx kx B, d_do J' L g h o u kk i1 i2 i3 d k c cx wx dx kx B = d_do J L g h o u kk i1 i2 i3 d k c cx wx dx kx B := by
    intro kk i1 i2 i3 d k c cx wx dx kx B
    unfold d_do
    split <;> first | rfl | exact e _ _ _ _ _ _
  unfold d_stq d_take
  rw [h29, h30, h31, h32, h33, e2]
/-- what steps don't touch -/
def st_eq (J' J : m_I) : Prop := J' 4 = J 4 ∧ J' 5 = J 5 ∧ J' 7 = J 7 ∧ J' 8 = J 8 ∧ J' 29 = J 29 ∧ J' 30 = J 30 ∧ J' 31 = J 31 ∧ J' 32 = J 32 ∧ J' 33 = J 33 ∧ J' 34 = J 34 ∧ J' 35 = J 35 ∧ J' 36 = J 36
def rl_XX (f0 nn0 ww0 h0 : Nat → Int32) (o0 : m_I) (N : Nat) (f g h nn ww : Nat → Int32) (oo : m_I) : Prop := ∃ c b k n, c ≤ N ∧ b ≤ N ∧ k ≤ N ∧ rl_L f g h c b b ∧ rl_E false f0 nn0 ww0 h0 o0 f g h nn ww oo b b k n
section RZA
variable {V : m_V} {t m n : Nat} {ls st : List Value} {ex : Bool} {J J' J0 J1 I : m_I} {L : m_L} {e : Option Nat} {a bb : Nat} {Q : Option Value → Nat → m_I → m_L → m_R → Prop} {f g h f' g' h' nn ww f0 nn0 ww0 h0 g26 : Nat → Int32} {oo o0 : m_I} {u v w x k c b b2 N : Nat} {y z : Int32}
theorem rl_ro_cg (h : st_eq J' J) (hr : rl_ro J L) : rl_ro J' L := by
  obtain ⟨a1, a2, a3, a4, a5, a6, a7, a8, a9, a10, a11, a12⟩ := h
  unfold rl_ro
  rw [a3, a4, a10, a11, a12]
  exact hr
theorem rl_cd_cg (h : st_eq J' J) (hr : rl_cd J) : rl_cd J' := by
  obtain ⟨a1, a2, a3, a4, a5, a6, a7, a8, a9, a10, a11, a12⟩ := h
  unfold rl_cd
  rw [a1, a2, a5, a6, a7, a8, a9]
  exact hr
theorem rl_L_fr (hL : rl_L f g h c b b2) (hf : ∀ j, j < 550 ∨ j = 559 ∨ 561 ≤ j → f' j = f j) (hg : ∀ j, (∀ v, v < 3 → j < 150 + 154 * v + 151 ∨ 150 + 154 * v + 154 ≤ j) → g' j = g j) : rl_L f' g' h c b b2 := by
  obtain ⟨h1, h2, h3, h4, h5, h6⟩ := hL
  exact ⟨rl_gl_fr h1 (hf _ (by omega)) (hf _ (by omega)) (hf _ (by omega)) (hf _ (by omega)) (fun j j1 j2 => hg j (by omega)) rfl, fun u hu => rl_th_fr (h2 u hu) (fun j hj => hf j (by unfold rl_ci at hj; omega)) (fun j j1 j2 => hg j (by omega)), fun x hx => rl_cl_fr hx (h3 x hx) (fun j j1 j2 => hf j (by omega)) (fun j j1 j2 => hg j (by omega)), rl_ow_fr h4 (fun j j1 j2 => hf j (by omega)) (fun u hu => hf _ (by omega)), rl_co_fr h5 (hf _ (by omega)) (hf _ (by omega)) (fun u hu => hf _ (by omega)) (fun u hu => hf _ (by omega)) (fun u x hu hx => hf _ (by omega)) (fun x hx => hf _ (by omega)), rl_ag_fr h6 (hf _ (by omega)) rfl (fun u hu => hf _ (by omega)) (fun u hu => hf _ (by omega)) (fun u hu => hg _ (by omega))⟩
theorem rl_E_self {n : Nat} (hE : rl_E false f0 nn0 ww0 h0 o0 f g h nn ww oo b b2 k n) : rl_E false f nn ww h oo f g h nn ww oo b b2 k n := by
  obtain ⟨y1, y2, y3, y4, y5, y6, y7⟩ := hE
  obtain ⟨x1, x2, x3, x4, x5⟩ := y5 rfl
  exact ⟨fun _ _ => rfl, fun _ _ => rfl, fun _ _ _ _ _ _ _ => rfl, y4, fun _ => ⟨(y2 3 (by omega)).trans x1, (y3 5 (by omega) (by omega) (by omega) (by omega) (by omega) (by omega)).trans x2, x3, x4, x5⟩, (fun q => by cases q), fun _ _ q => q⟩
theorem rl_E_trans {n k' n' b' b2' : Nat} {nn' ww' : Nat → Int32} {oo' : m_I} (hE : rl_E false f0 nn0 ww0 h0 o0 f g h nn ww oo b b2 k n) (hE2 : rl_E false f nn ww h oo f' g' h' nn' ww' oo' b' b2' k' n') : rl_E false f0 nn0 ww0 h0 o0 f' g' h' nn' ww' oo' b' b2' k' n' := by
  obtain ⟨y1, y2, y3, y4, y5, y6, y7⟩ := hE
  obtain ⟨z1, z2, z3, z4, z5, z6, z7⟩ := hE2
  obtain ⟨x1, x2, x3, x4, x5⟩ := y5 rfl
  obtain ⟨w1, w2, w3, w4, w5⟩ := z5 rfl
  exact ⟨fun j hj => (z1 j hj).trans (y1 j hj), fun j hj => (z2 j hj).trans (y2 j hj), fun j j1 j2 j3 j4 j5 j6 => (z3 j j1 j2 j3 j4 j5 j6).trans (y3 j j1 j2 j3 j4 j5 j6), z4, fun _ => ⟨x1, x2, w3, w4, w5⟩, (fun q => by cases q), fun v hv q => y7 v hv (z7 v hv q)⟩
/-- a step, counted -/
theorem rl_xst (hro : rl_ro J0 L) (hcd : rl_cd J0) (hX : rl_XX f0 nn0 ww0 h0 o0 N f g h nn ww oo) (hN : N < 900000) (hu : u < 3) (hs : f (3 + u) = nI 1 ∨ f (3 + u) = nI 4) (ht : 55 ≤ t) (ha : m_aa a) :
    ∃ v f' g26' nn' ww' g' h' oo', (∀ Q, WP V 70 0 (m_loc 70 [.ref 25, .int (nI u)]) [] t (mC J0 f g26 nn ww) L (m_RR e a bb) Q = Q (some (.int v)) t (mC J0 f' g26' nn' ww') L (m_RR e a bb)) ∧ (∀ J1, st_eq J1 J0 → ∀ Q, WP V 169 0 (m_loc 169 [.ref 27, .int (nI u)]) [] t (mM J1 a g h oo) L (m_RR e a bb) Q = Q (some (.int v)) t (mM J1 a g' h' oo') L (m_RR e a bb)) ∧ rl_XX f0 nn0 ww0 h0 o0 (N + 1) f' g' h' nn' ww' oo' := by
  obtain ⟨c, b, k, n, c1, b1, k1, hL, hE0⟩ := hX
  have hE := rl_E_self hE0
  have hst : ¬ f (3 + u) = nI 0 := by rcases hs with q | q <;> rw [q] <;> decide
  obtain ⟨r1, _, _, r4⟩ := rl_st (V := V) (e := e) (bb := bb) (g26 := g26) hro hcd hL hE hu hs (by omega) (by omega) (by omega) (by omega) ht ha
  obtain ⟨p, hp⟩ : ∃ p, p = c_st3 J0 L f g26 nn ww u := ⟨_, rfl⟩
  obtain ⟨q, hq⟩ : ∃ q, q = d_stq J0 L g h oo u := ⟨_, rfl⟩
  have e1 : c_stp J0 L f g26 nn ww u = c_ad4 p u := by rw [hp]; rfl
  rw [e1] at r1
  rw [← hp, ← hq] at r4
  obtain ⟨w1, c', b', b2', k', n', z1, z2, z3, z4, L2, E2⟩ := r4
  refine ⟨(c_ad4 p u).1, (c_ad4 p u).2.1, (c_ad4 p u).2.2.1, (c_ad4 p u).2.2.2.1, (c_ad4 p u).2.2.2.2, (d_std q u).2.1, (d_std q u).2.2.1, (d_std q u).2.2.2, r1, ?_, c', b', k', n', by omega, by omega, by omega, ?_, ?_⟩
  · intro J1 hs0 Q
    obtain ⟨a1, a2, a3, a4, a5, a6, a7, a8, a9, a10, a11, a12⟩ := id hs0
    obtain ⟨_, _, s3, _⟩ := rl_st (V := V) (e := e) (bb := bb) (g26 := g26) (rl_ro_cg hs0 hro) (rl_cd_cg hs0 hcd) hL hE hu hs (by omega) (by omega) (by omega) (by omega) ht ha
    rw [d_stq_cg a5 a6 a7 a8 a9 a10 a12, ← hq] at s3
    have : (c_ad4 p u).1 = (d_std q u).1 := by
      unfold c_ad4 d_std
      split <;> exact w1
    rw [this]
    exact s3 Q
  · have eb : b2' = b' := by
      obtain ⟨_, _, _, y4, _⟩ := E2.2.2.2.2.1 rfl
      exact y4.symm
    rw [eb] at L2
    unfold c_ad4 d_std
    rw [← w1]
    by_cases hz : p.1 = nI 0
    · rw [if_pos hz, if_pos hz]
      exact rl_L_fr L2 (fun j hj => m_sc_ne (by omega)) (fun j hj => m_sc_ne (by have := hj u hu; omega))
    · rw [if_neg hz, if_neg hz]
      exact rl_L_fr L2 (fun j hj => m_sc_ne (by omega)) (fun j hj => m_sc_ne (by have := hj u hu; omega))
  · have eb : b2' = b' := by
      obtain ⟨_, _, _, y4, _⟩ := E2.2.2.2.2.1 rfl
      exact y4.symm
    rw [eb] at E2
    obtain ⟨y1, y2, y3, y4, y5, y6, y7⟩ := E2
    refine rl_E_trans hE0 ?_
    have cnt : ∀ A, (A = 2 ∨ A = 3) → rl_O (m_sc p.2.1 (550 + 3 * (A - 1) + u) (p.2.1 (550 + 3 * (A - 1) + u) + nI 1)) (m_sc q.2.1 (150 + 154 * u + 150 + A) (q.2.1 (150 + 154 * u + 150 + A) + nI 1)) q.2.2.1 := by
      intro A hA
      obtain ⟨_, _, _, _, o1, o2⟩ := y5 rfl
      have hstu : ¬ p.2.1 (3 + u) = nI 0 := fun q => hst (y7 u hu q)
      refine ⟨by rw [m_sc_ne (by omega)]; exact o1, fun v hv => ?_⟩
      obtain ⟨b1, b3, b4, b5⟩ := o2 v hv
      rcases hA with rfl | rfl
      · rw [m_sc_ne (show 550 + v ≠ 550 + 3 * (2 - 1) + u by omega), m_sc_ne (show 556 + v ≠ 550 + 3 * (2 - 1) + u by omega), m_sc_ne (show 150 + 154 * v + 151 ≠ 150 + 154 * u + 150 + 2 by omega), m_sc_ne (show 150 + 154 * v + 153 ≠ 150 + 154 * u + 150 + 2 by omega), m_sc_ne (show 3 + v ≠ 550 + 3 * (2 - 1) + u by omega)]
        by_cases hvu : v = u
        · subst hvu
          rw [scE (show 553 + v = 550 + 3 * (2 - 1) + v by omega), scE (show 150 + 154 * v + 152 = 150 + 154 * v + 150 + 2 by omega), show 550 + 3 * (2 - 1) + v = 553 + v by omega, show 150 + 154 * v + 150 + 2 = 150 + 154 * v + 152 by omega, b3]
          exact ⟨b1, rfl, b4, fun q => absurd q hstu⟩
        · rw [m_sc_ne (show 553 + v ≠ 550 + 3 * (2 - 1) + u by omega), m_sc_ne (show 150 + 154 * v + 152 ≠ 150 + 154 * u + 150 + 2 by omega)]
          exact ⟨b1, b3, b4, b5⟩
      · rw [m_sc_ne (show 550 + v ≠ 550 + 3 * (3 - 1) + u by omega), m_sc_ne (show 553 + v ≠ 550 + 3 * (3 - 1) + u by omega), m_sc_ne (show 150 + 154 * v + 151 ≠ 150 + 154 * u + 150 + 3 by omega), m_sc_ne (show 150 + 154 * v + 152 ≠ 150 + 154 * u + 150 + 3 by omega), m_sc_ne (show 3 + v ≠ 550 + 3 * (3 - 1) + u by omega)]
        by_cases hvu : v = u
        · subst hvu
          rw [scE (show 556 + v = 550 + 3 * (3 - 1) + v by omega), scE (show 150 + 154 * v + 153 = 150 + 154 * v + 150 + 3 by omega), show 550 + 3 * (3 - 1) + v = 556 + v by omega, show 150 + 154 * v + 150 + 3 = 150 + 154 * v + 153 by omega, b4]
          exact ⟨b1, b3, rfl, fun q => absurd q hstu⟩
        · rw [m_sc_ne (show 556 + v ≠ 550 + 3 * (3 - 1) + u by omega), m_sc_ne (show 150 + 154 * v + 153 ≠ 150 + 154 * u + 150 + 3 by omega)]
          exact ⟨b1, b3, b4, b5⟩
    obtain ⟨x1, x2, x3, x4, x5⟩ := y5 rfl
    unfold c_ad4 d_std
    rw [← w1]
    by_cases hz : p.1 = nI 0
    · rw [if_pos hz, if_pos hz]
      exact ⟨fun j hj => (m_sc_ne (by omega)).trans (y1 j hj), y2, y3, y4, fun _ => ⟨x1, x2, x3, rfl, cnt 3 (Or.inr rfl)⟩, (fun q => by cases q), fun v hv q => y7 v hv ((m_sc_ne (by omega)).symm.trans q)⟩
    · rw [if_neg hz, if_neg hz]
      exact ⟨fun j hj => (m_sc_ne (by omega)).trans (y1 j hj), y2, y3, y4, fun _ => ⟨x1, x2, x3, rfl, cnt 2 (Or.inl rfl)⟩, (fun q => by cases q), fun v hv q => y7 v hv ((m_sc_ne (by omega)).symm.trans q)⟩
end RZA
