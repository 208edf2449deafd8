/-! class and model alike: what an act comes to -/
def rl_S1 (ex : Bool) (f0 nn0 ww0 h0 : Nat → Int32) (o0 : m_I) (u c b b2 k d o : Nat) (q : c_R) (r : d_R) : Prop :=
  rl_R ex f0 nn0 ww0 h0 o0 c b b2 k (c_ad3 (c_ad2 (c_ad1 q u d o k) u) u) r ∧ (nI 100 ≤ q.1 → (q.2.2.2.1 2 = nI k ∧ k < 1000000) ∧ (d ≤ 4 ∧ q.2.1 (12 + u) = nI d) ∧ c_outer q.2.1 u = nI o ∧ o ≤ d)
/-- rows and items -/
def rl_ro (J : m_I) (L : m_L) : Prop := ∀ y, y < 6 → (J 7 y = -1 ↔ J 34 y = nI 0) ∧ (∃ s, s ≤ 16 ∧ J 8 y = nI s ∧ J 36 y = nI s) ∧ (¬ J 7 y = -1 → J 7 y = J 35 y ∧ ∃ l, l < 5 ∧ J 7 y = nI l) ∧ ∀ i, i < 16 → L 9 (16 * y + i) = L 37 (16 * y + i)
section RLV
variable {ex : Bool} {J : m_I} {L : m_L} {f g h f' g' h' nn ww f0 nn0 ww0 h0 g26 : Nat → Int32} {oo o0 : m_I} {u v w x k r c c' b b2 d o n p j cx pp i1 i2 i3 kk : Nat} {y z va B : Int32} {q : c_R} {qq : d_R}
theorem d_fails_ne : ¬ (d_fails g h oo u y d o n).1 = nI 6 := by
  have n1 : ¬ nI 1 = nI 6 := by decide
  have n3 : ¬ nI 3 = nI 6 := by decide
  have n2 : ¬ nI 2 = nI 6 := by decide
  have e : ∀ G dd, ¬ (d_fl3 G u y dd).1 = nI 6 := by
    intro G dd
    unfold d_fl3
    split
    · exact n1
    · exact n3
  unfold d_fails
  split
  · split
    · exact n1
    · unfold d_fail2
      split
      · exact e _ _
      · split
        · exact n2
        · exact e _ _
  · exact e _ _
theorem rl_S_0 (h1 : ¬ nI 100 ≤ q.1) (h2 : ¬ q.1 = nI 2) (h3 : ¬ q.1 = nI 6) (hR : rl_R ex f0 nn0 ww0 h0 o0 c b b2 k q qq) : rl_S1 ex f0 nn0 ww0 h0 o0 u c b b2 k d o q qq := by
  have e1 : c_ad1 q u d o k = q := if_neg h1
  have e2 : c_ad2 q u = q := if_neg h2
  have e3 : c_ad3 q u = q := if_neg h3
  refine ⟨?_, fun z => absurd z h1⟩
  rw [e1, e2, e3]
  exact hR
theorem rl_S_6 (h3 : q.1 = nI 6) (hR : rl_R ex f0 nn0 ww0 h0 o0 c b b2 k (nI 1, m_sc q.2.1 (6 + u) (q.2.1 (6 + u) + nI 1), q.2.2) qq) : rl_S1 ex f0 nn0 ww0 h0 o0 u c b b2 k d o q qq := by
  have n1 : ¬ nI 100 ≤ q.1 := by rw [h3]; decide
  have e1 : c_ad1 q u d o k = q := if_neg n1
  have e2 : c_ad2 q u = q := if_neg (by rw [h3]; decide)
  have e3 : c_ad3 q u = (nI 1, m_sc q.2.1 (6 + u) (q.2.1 (6 + u) + nI 1), q.2.2) := if_pos h3
  refine ⟨?_, fun z => absurd z n1⟩
  rw [e1, e2, e3]
  exact hR
theorem rl_S_2 (h3 : q.1 = nI 2) (hR : rl_R ex f0 nn0 ww0 h0 o0 c b b2 k (nI 2, c_anew q.2.1 u, q.2.2) qq) : rl_S1 ex f0 nn0 ww0 h0 o0 u c b b2 k d o q qq := by
  have n1 : ¬ nI 100 ≤ q.1 := by rw [h3]; decide
  have e1 : c_ad1 q u d o k = q := if_neg n1
  have e2 : c_ad2 q u = (nI 2, c_anew q.2.1 u, q.2.2) := by
    refine (if_pos h3).trans ?_
    rw [h3]
  have e3 : c_ad3 (nI 2, c_anew q.2.1 u, q.2.2) u = (nI 2, c_anew q.2.1 u, q.2.2) := if_neg (show ¬ nI 2 = nI 6 by decide)
  refine ⟨?_, fun z => absurd z n1⟩
  rw [e1, e2, e3]
  exact hR
theorem rl_S_F (hL : rl_L f g h c b b2) (hE : rl_E ex f0 nn0 ww0 h0 o0 f g h nn ww oo b b2 k n) (ht : rl_tb f g u c d o) (hu : u < 3) (hst : ¬ f (3 + u) = nI 0) (hr : ¬ f (3 + u) = nI 4) (hc : c < 1000000000) (hk : k < 1000000) (hb2 : b2 < 1000000000) (hz : nI 100 ≤ z) (hy : z - nI 100 = y) : rl_S1 ex f0 nn0 ww0 h0 o0 u c b b2 k d o (z, f, g26, nn, ww) (d_fails g h oo u y d o n) := by
  have hR := rl_fails (y := y) (g26 := g26) hL hE ht hu hst hr hc hk hb2
  have e1 : c_ad1 (z, f, g26, nn, ww) u d o k = c_fR g26 (c_fail f nn ww u k y d o) := by
    refine (if_pos hz).trans ?_
    dsimp only
    rw [hy]
    rfl
  have e3 : c_ad3 (c_ad2 (c_fR g26 (c_fail f nn ww u k y d o)) u) u = c_ad2 (c_fR g26 (c_fail f nn ww u k y d o)) u := if_neg (by rw [hR.1]; exact d_fails_ne)
  obtain ⟨a1, a2, a3, a4, a5, a6⟩ := ht.2.2.2.1
  refine ⟨?_, fun _ => ⟨⟨hE.2.2.2.1.1, hk⟩, ⟨a3, a1⟩, a5, a4⟩⟩
  rw [e1, e3]
  exact hR
theorem rl_same (hL : rl_L f g h c b b2) (hE : rl_E ex f0 nn0 ww0 h0 o0 f g h nn ww oo b b2 k n) : rl_R ex f0 nn0 ww0 h0 o0 c b b2 k (y, f, g26, nn, ww) (y, g, h, oo) :=
  ⟨rfl, c, b, b2, k, n, Nat.le_succ _, Nat.le_succ _, Nat.le_succ _, Nat.le_succ _, hL, hE⟩
theorem rl_E_plc (hE : rl_E ex f0 nn0 ww0 h0 o0 f g h nn ww oo b b2 k n) (hu : u < 3) : rl_E ex f0 nn0 ww0 h0 o0 (m_sc f (6 + u) y) (m_sc g (150 + 154 * u + 1) z) h nn ww oo b b2 k n :=
  rl_E_fr hE (fun j j1 j2 => m_sc_ne (by omega)) (fun v hv i i1 i2 => m_sc_ne (by omega)) (fun _ _ _ _ => rfl) (fun v hv q => (m_sc_ne (by omega)).symm.trans q)
theorem rl_E_reg (hE : rl_E ex f0 nn0 ww0 h0 o0 f g h nn ww oo b b2 k n) (hu : u < 3) (hr : r < 4) : rl_E ex f0 nn0 ww0 h0 o0 (m_sc f (21 + 4 * u + r) y) (m_sc g (150 + 154 * u + 3 + r) z) h nn ww oo b b2 k n :=
  rl_E_fr hE (fun j j1 j2 => m_sc_ne (by omega)) (fun v hv i i1 i2 => m_sc_ne (by omega)) (fun _ _ _ _ => rfl) (fun v hv q => (m_sc_ne (by omega)).symm.trans q)
theorem rl_next (hL : rl_L f g h c b b2) (hu : u < 3) (hst : ¬ f (3 + u) = nI 0) (hp : f (6 + u) = nI pp) (hp2 : pp < 40) : rl_L (m_sc f (6 + u) (f (6 + u) + nI 1)) (d_next g u) h c b b2 := by
  obtain ⟨d, o, ht⟩ := hL.2.1 u hu
  unfold d_next
  rw [← ht.1.2.1]
  exact rl_plc hL hu (by rw [hp, nI_add]; exact ⟨pp + 1, by omega, rfl⟩) hst
theorem rl_nextE (hE : rl_E ex f0 nn0 ww0 h0 o0 f g h nn ww oo b b2 k n) (hu : u < 3) : rl_E ex f0 nn0 ww0 h0 o0 (m_sc f (6 + u) y) (d_next g u) h nn ww oo b b2 k n := rl_E_plc hE hu
/-- an act that is done: one place on -/
theorem rl_S_n (hL : rl_L f g h c' b b2) (hc' : c' ≤ c + 1) {b' b2' k' : Nat} (hb' : b ≤ b' + 1) (hb2' : b2 ≤ b2' + 1) (hk' : k ≤ k' + 1) (hE : rl_E ex f0 nn0 ww0 h0 o0 f g h nn ww oo b b2 k n) (hu : u < 3) (hst : ¬ f (3 + u) = nI 0) (hp : f (6 + u) = nI pp) (hp2 : pp < 40) : rl_S1 ex f0 nn0 ww0 h0 o0 u c b' b2' k' d o (nI 6, f, g26, nn, ww) (nI 1, d_next g u, h, oo) :=
  rl_S_6 rfl ⟨rfl, c', b, b2, k, n, hc', hb', hb2', hk', rl_next hL hu hst hp hp2, rl_nextE hE hu⟩
theorem rl_S_r (hL : rl_L f g h c b b2) (hE : rl_E ex f0 nn0 ww0 h0 o0 f g h nn ww oo b b2 k n) (hu : u < 3) (hr : r < 4) (hst : ¬ f (3 + u) = nI 0) (hp : f (6 + u) = nI pp) (hp2 : pp < 40) (hyz : y = z) : rl_S1 ex f0 nn0 ww0 h0 o0 u c b b2 k d o (nI 6, m_sc f (21 + 4 * u + r) y, g26, nn, ww) (nI 1, d_next (m_sc g (150 + 154 * u + 3 + r) z) u, h, oo) := by
  subst hyz
  exact rl_S_n (rl_reg hL hu hr hst) (Nat.le_succ _) (Nat.le_succ _) (Nat.le_succ _) (Nat.le_succ _) (rl_E_reg hE hu hr) hu (by rw [m_sc_ne (by omega)]; exact hst) (by rw [m_sc_ne (by omega)]; exact hp) hp2
theorem rl_S_p (hL : rl_L f g h c b b2) (hE : rl_E ex f0 nn0 ww0 h0 o0 f g h nn ww oo b b2 k n) (hu : u < 3) (hst : ¬ f (3 + u) = nI 0) (hy : rl_pl y) : rl_S1 ex f0 nn0 ww0 h0 o0 u c b b2 k d o (nI 1, m_sc f (6 + u) y, g26, nn, ww) (nI 1, d_goes g u y, h, oo) :=
  rl_S_0 (show ¬ nI 100 ≤ nI 1 by decide) (show ¬ nI 1 = nI 2 by decide) (show ¬ nI 1 = nI 6 by decide) ⟨rfl, c, b, b2, k, n, Nat.le_succ _, Nat.le_succ _, Nat.le_succ _, Nat.le_succ _, rl_plc hL hu hy hst, rl_E_plc hE hu⟩
theorem rl_inm {s : Nat} (hs : s ≤ 16) : d_in y (nI 0) (nI s - nI 1) = true ↔ (nI 0 ≤ y ∧ y < nI s) := by
  constructor
  · intro q
    obtain ⟨j, j1, j2⟩ := n_inm hs q
    rw [j2, n_le (by omega) (by omega), n_lt (by omega) (by omega)]
    exact ⟨Nat.zero_le _, j1⟩
  · rintro ⟨q1, q2⟩
    obtain ⟨j, hj, e1⟩ := nI_of (x := y) (Int32.not_lt.mpr q1)
    rw [e1, n_lt hj (by omega)] at q2
    unfold d_in
    rw [e1, n_sub (by omega), Bool.and_eq_true, decide_eq_true_eq, decide_eq_true_eq, n_le (by omega) hj, n_le hj (by omega)]
    omega
/-- reading, and what is done with it -/
theorem rl_rda (hlk : rl_lk ex f0 nn0 ww0 h0 o0 nn ww oo u c b b2 k n d o va (c_look f g26 u x) (d_reads g h u x cx d o v w r)) (hu : u < 3) (hi : i1 < 4) (hst : ¬ va = nI 0) (hr : ¬ va = nI 4) (hc : c < 1000000000) (hk : k < 1000000) (hb2 : b2 < 1000000000) (hpp : (c_look f g26 u x).1 = nI 6 → (c_look f g26 u x).2.1 (6 + u) = nI pp) (hp2 : pp < 40) : rl_S1 ex f0 nn0 ww0 h0 o0 u c b b2 k d o (c_lkn (c_look f g26 u x) nn ww (21 + 4 * u + i1)) (d_rda g h oo u i1 (d_reads g h u x cx d o v w r) d o n) := by
  obtain ⟨p, hp⟩ : ∃ p, p = c_look f g26 u x := ⟨_, rfl⟩
  obtain ⟨q, hq⟩ : ∃ q, q = d_reads g h u x cx d o v w r := ⟨_, rfl⟩
  rw [← hp, ← hq] at hlk
  rw [← hp] at hpp
  rw [← hp, ← hq]
  unfold c_lkn d_rda
  have n10 : ¬ nI 1 = nI 0 := by decide
  have n20 : ¬ nI 2 = nI 0 := by decide
  have n21 : ¬ nI 2 = nI 1 := by decide
  have n06 : ¬ nI 0 = nI 6 := by decide
  have n26 : ¬ nI 2 = nI 6 := by decide
  rcases hlk with ⟨l1, l2, l3, l4⟩ | ⟨l1, l2, l3, l4, l5, l6, l7, l8, l9⟩ | ⟨l1, l2, l3, l4⟩
  · rw [l1, l2, if_neg n06, if_neg n10, if_pos rfl]
    exact rl_S_0 (show ¬ nI 100 ≤ nI 0 by decide) (show ¬ nI 0 = nI 2 by decide) n06 (rl_same l3 l4)
  · rw [l1, l2, if_pos rfl, if_pos rfl, l6, l7]
    unfold c_num
    rcases l8 with q0 | q1 | ⟨q2, _⟩
    · have n1 : ¬ p.2.2 2 = nI 1 := by rw [q0]; decide
      rw [if_pos q0, if_neg n1, if_pos q0]
      dsimp only
      exact rl_S_F l3 l4 l5 hu (by rw [l9]; exact hst) (by rw [l9]; exact hr) hc hk hb2 (by decide) (by decide)
    · have n0 : ¬ p.2.2 2 = nI 0 := by rw [q1]; decide
      have n2 : ¬ p.2.2 2 = nI 2 := by rw [q1]; decide
      rw [if_neg n0, if_neg n2, if_pos q1]
      exact rl_S_r l3 l4 hu hi (by rw [l9]; exact hst) (hpp l1) hp2 rfl
    · have n0 : ¬ p.2.2 2 = nI 0 := by rw [q2]; decide
      have n1 : ¬ p.2.2 2 = nI 1 := by rw [q2]; decide
      rw [if_neg n0, if_pos q2, if_neg n1, if_neg n0]
      dsimp only
      exact rl_S_F l3 l4 l5 hu (by rw [l9]; exact hst) (by rw [l9]; exact hr) hc hk hb2 (by decide) (by decide)
  · rw [l1, l2, if_neg n26, if_neg n20, if_neg n21]
    exact rl_S_2 rfl ⟨rfl, c, b, b2, k, n, Nat.le_succ _, Nat.le_succ _, Nat.le_succ _, Nat.le_succ _, l3, l4⟩
theorem rl_ita (hro : rl_ro J L) (hlk : rl_lk ex f0 nn0 ww0 h0 o0 nn ww oo u c b b2 k n d o va (c_look f g26 u x) (d_reads g h u x cx d o v w r)) (hu : u < 3) (hi : i1 < 4) (hi3 : i3 < 4) (hst : ¬ va = nI 0) (hr : ¬ va = nI 4) (hc : c < 1000000000) (hk : k < 1000000) (hb2 : b2 < 1000000000) (hpp : (c_look f g26 u x).1 = nI 6 → (c_look f g26 u x).2.1 (6 + u) = nI pp) (hp2 : pp < 40) : rl_S1 ex f0 nn0 ww0 h0 o0 u c b b2 k d o (c_lki J L (c_look f g26 u x) nn ww (21 + 4 * u + i1) (21 + 4 * u + i3)) (d_ita J L oo u i1 i3 (d_reads g h u x cx d o v w r) d o n) := by
  obtain ⟨p, hp⟩ : ∃ p, p = c_look f g26 u x := ⟨_, rfl⟩
  obtain ⟨q, hq⟩ : ∃ q, q = d_reads g h u x cx d o v w r := ⟨_, rfl⟩
  rw [← hp, ← hq] at hlk
  rw [← hp] at hpp
  rw [← hp, ← hq]
  unfold c_lki d_ita
  have n10 : ¬ nI 1 = nI 0 := by decide
  have n20 : ¬ nI 2 = nI 0 := by decide
  have n21 : ¬ nI 2 = nI 1 := by decide
  have n06 : ¬ nI 0 = nI 6 := by decide
  have n26 : ¬ nI 2 = nI 6 := by decide
  rcases hlk with ⟨l1, l2, l3, l4⟩ | ⟨l1, l2, l3, l4, l5, l6, l7, l8, l9⟩ | ⟨l1, l2, l3, l4⟩
  · rw [l1, l2, if_neg n06, if_neg n10, if_pos rfl]
    exact rl_S_0 (show ¬ nI 100 ≤ nI 0 by decide) (show ¬ nI 0 = nI 2 by decide) n06 (rl_same l3 l4)
  · have F : ∀ y0 z0, nI 100 ≤ z0 → z0 - nI 100 = y0 → rl_S1 ex f0 nn0 ww0 h0 o0 u c b b2 k d o (z0, p.2.1, p.2.2, nn, ww) (d_fails q.2.1 q.2.2 oo u y0 d o n) := fun y0 z0 e1 e2 => rl_S_F l3 l4 l5 hu (by rw [l9]; exact hst) (by rw [l9]; exact hr) hc hk hb2 e1 e2
    rw [l1, l2, if_pos rfl, if_pos rfl, l6, l7]
    unfold c_item
    rcases l8 with q0 | q1 | ⟨q2, y, hy, hy2⟩
    · have n2 : ¬ p.2.2 2 = nI 2 := by rw [q0]; decide
      rw [if_pos q0, if_neg n2, if_pos q0]
      dsimp only
      exact F _ _ (by decide) (by decide)
    · have n0 : ¬ p.2.2 2 = nI 0 := by rw [q1]; decide
      have n2 : ¬ p.2.2 2 = nI 2 := by rw [q1]; decide
      rw [if_neg n0, if_pos q1, if_neg n2, if_neg n0]
      dsimp only
      exact F _ _ (by decide) (by decide)
    · have n0 : ¬ p.2.2 2 = nI 0 := by rw [q2]; decide
      have n1 : ¬ p.2.2 2 = nI 1 := by rw [q2]; decide
      have ey : (nI y).toNatClampNeg = y := nI_clamp (by omega)
      have n6 : ¬ ¬ (nI 0 ≤ nI y ∧ nI y < nI 6) := fun q => q ⟨by rw [n_le (by omega) (by omega)]; omega, by rw [n_lt (by omega) (by omega)]; omega⟩
      obtain ⟨o1, ⟨s, s1, s2, s3⟩, o3, o4⟩ := hro y hy
      rw [hy2, ey, if_neg n0, if_neg n1, if_pos q2, if_neg n6, s2, s3]
      by_cases h7 : J 7 y = -1
      · rw [if_pos h7, if_pos (o1.1 h7)]
        dsimp only
        exact F _ _ (by decide) (by decide)
      · have h34 : ¬ J 34 y = nI 0 := fun q => h7 (o1.2 q)
        have er : p.2.1 (21 + 4 * u + i3) = q.2.1 (150 + 154 * u + 3 + i3) := l5.2.1 i3 hi3
        rw [if_neg h7, if_neg h34, ← er]
        by_cases h8 : nI 0 ≤ p.2.1 (21 + 4 * u + i3) ∧ p.2.1 (21 + 4 * u + i3) < nI s
        · have n8 : ¬ ¬ (nI 0 ≤ p.2.1 (21 + 4 * u + i3) ∧ p.2.1 (21 + 4 * u + i3) < nI s) := fun q => q h8
          rw [if_neg n8, if_pos ((rl_inm s1).2 h8)]
          obtain ⟨i, i1', i2'⟩ := n_inm s1 ((rl_inm s1).2 h8)
          have ei : (nI i).toNatClampNeg = i := nI_clamp (by omega)
          refine rl_S_r l3 l4 hu hi (by rw [l9]; exact hst) (hpp l1) hp2 ?_
          rw [i2', ei, Nat.mul_comm y 16, o4 i (by omega)]
        · have n8 : ¬ d_in (p.2.1 (21 + 4 * u + i3)) (nI 0) (nI s - nI 1) = true := fun q => h8 ((rl_inm s1).1 q)
          rw [if_pos h8, if_neg n8]
          dsimp only
          exact F _ _ (by decide) (by decide)
  · rw [l1, l2, if_neg n26, if_neg n20, if_neg n21]
    exact rl_S_2 rfl ⟨rfl, c, b, b2, k, n, Nat.le_succ _, Nat.le_succ _, Nat.le_succ _, Nat.le_succ _, l3, l4⟩
/-- writing -/
theorem rl_wra (hL : rl_L f g h c b b2) (hE : rl_E ex f0 nn0 ww0 h0 o0 f g h nn ww oo b b2 k n) (ht : rl_tb f g u c d o) (hu : u < 3) (hx : x < 8) (hc : c < 1000000000) (hb : b < 1000000000) (hb2 : b2 < 1000000000) (hk : k < 1000000) (hv : rl_val y z) (hst : ¬ f (3 + u) = nI 0) (hr : ¬ f (3 + u) = nI 4) (hp : f (6 + u) = nI pp) (hp2 : pp < 40) : rl_S1 ex f0 nn0 ww0 h0 o0 u c b b2 k d o (c_gp g26 (c_put f nn ww u x k y z)) (d_wra g h oo u x y z n (c_own f x) (rl_dw f x) (rl_kw f x) d o) := by
  unfold d_wra
  by_cases h1 : f (15 + u) = nI 1
  · have hi : ¬ f (15 + u) = -1 := by rw [h1]; decide
    obtain ⟨ku, ku4, k1, k2, k3⟩ := ht.2.2.1.resolve_left (fun q => hi q.1)
    rw [k1] at h1
    have e1 : (decide (g (150 + 154 * u + 101) = nI 1) && decide (g (150 + 154 * u + 102) = nI 1)) = true := by simp [k2, k3, h1]
    rw [if_pos e1]
    have e2 : c_put f nn ww u x k y z = (nI 105, f, nn, ww) := by
      unfold c_put
      rw [if_neg hi, if_pos (k1.trans h1)]
    rw [e2]
    unfold c_gp
    dsimp only
    exact rl_S_F hL hE ht hu hst hr hc hk hb2 (by decide) (by decide)
  · have e1 : ¬ (decide (g (150 + 154 * u + 101) = nI 1) && decide (g (150 + 154 * u + 102) = nI 1)) = true := by
      rcases ht.2.2.1 with ⟨_, k2, _⟩ | ⟨ku, ku4, k1, k2, k3⟩
      · rw [k2, show decide (nI 0 = nI 1) = false by decide, Bool.false_and]; decide
      · rw [k1] at h1
        rw [k3]; simp [h1]
    rw [if_neg e1]
    obtain ⟨a1, a2, a3, c', b', b2', k', n', q1, q2, q3, q4, q5, q6⟩ := rl_put hL hE ht hu hx hb hb2 hk hv h1
    obtain ⟨p, hp'⟩ : ∃ p, p = c_put f nn ww u x k y z := ⟨_, rfl⟩
    obtain ⟨q, hq'⟩ : ∃ q, q = d_wr g h oo u x y z n (c_own f x) (rl_dw f x) (rl_kw f x) := ⟨_, rfl⟩
    rw [← hp'] at a1 a2 a3 q5 q6 ⊢
    rw [← hq'] at a1 q5 q6 ⊢
    unfold c_gp
    have n01 : ¬ nI 0 = nI 1 := by decide
    rcases a1 with ⟨s1, s2⟩ | ⟨s1, s2⟩
    · rw [s1, s2, if_pos rfl]
      exact rl_S_0 (show ¬ nI 100 ≤ nI 0 by decide) (show ¬ nI 0 = nI 2 by decide) (show ¬ nI 0 = nI 6 by decide) ⟨rfl, c', b', b2', k', n', q1, q2, q3, q4, q5, q6⟩
    · rw [s1, s2, if_neg n01]
      exact rl_S_n q5 q1 q2 q3 q4 q6 hu (by rw [a3]; exact hst) (a2.trans hp) hp2
end RLV
