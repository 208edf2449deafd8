/-! class and model alike: bound acts -/
theorem n_and7 (z : Int32) : ∃ j, j < 8 ∧ z &&& nI 7 = nI j := by
  refine ⟨(z.toBitVec &&& 7#32).toNat, ?_, ?_⟩
  · rw [BitVec.toNat_and]
    exact Nat.lt_of_le_of_lt Nat.and_le_right (by decide)
  · apply Int32.toBitVec_inj.1
    rw [Int32.toBitVec_and, show (nI 7).toBitVec = 7#32 from rfl]
    show _ = BitVec.ofNat 32 _
    rw [BitVec.ofNat_toNat, BitVec.setWidth_eq]
section RLW
variable {ex : Bool} {J : m_I} {L : m_L} {f g h f' g' h' nn ww f0 nn0 ww0 h0 g26 : Nat → Int32} {oo o0 : m_I} {u v w x k r c c' b b2 d o n p j cx pp i1 i2 i3 kk : Nat} {y z va B : Int32} {q : c_R} {qq : d_R}
theorem rl_E_b (hE : rl_E ex f0 nn0 ww0 h0 o0 f g h nn ww oo b b2 k n) : rl_E ex f0 nn0 ww0 h0 o0 f g h nn ww oo (b + 1) (b2 + 1) k n := by
  obtain ⟨e1, e2, e3, e4, e5, e6, e7⟩ := hE
  refine ⟨e1, e2, e3, e4, fun q => ?_, e6, e7⟩
  obtain ⟨a1, a2, a3, a4, a5⟩ := e5 q
  exact ⟨a1, a2, a3, by omega, a5⟩
theorem rl_g101 (ht : rl_tb f g u c d o) : (f (15 + u) = -1 ∧ g (150 + 154 * u + 101) = nI 0) ∨ (¬ f (15 + u) = -1 ∧ g (150 + 154 * u + 101) = nI 1 ∧ f (15 + u) = g (150 + 154 * u + 102)) := by
  rcases ht.2.2.1 with ⟨k1, k2, k3⟩ | ⟨ku, ku4, k1, k2, k3⟩
  · exact Or.inl ⟨k1, k2⟩
  · exact Or.inr ⟨by rw [k1]; exact n_ne1' (by omega), k2, by rw [k1, k3]⟩
theorem rl_lkd (hL : rl_L f g h c b b2) : d_lkd g u = c_oth (f 1) (nI u) := by
  unfold d_lkd c_oth
  rw [hL.1.2.2.1]
theorem rl_oth_f {v : Int32} (h : c_oth v (nI u) = false) : v = -1 ∨ v = nI u := by
  unfold c_oth at h
  by_cases q : v = -1
  · exact Or.inl q
  · by_cases q2 : v = nI u
    · exact Or.inr q2
    · simp [q, q2] at h
theorem rl_s11 (hL : rl_L f g h c b b2) (hE : rl_E ex f0 nn0 ww0 h0 o0 f g h nn ww oo b b2 k n) (ht : rl_tb f g u c d o) (hu : u < 3) (hi1 : i1 < 4) (hst : ¬ f (3 + u) = nI 0) (hr : ¬ f (3 + u) = nI 4) (hp : f (6 + u) = nI pp) (hp2 : pp < 40) (hc : c < 1000000000) (hb : b < 1000000000) (hb2 : b2 < 1000000000) (hk : k < 1000000) : rl_S1 ex f0 nn0 ww0 h0 o0 u c b b2 k d o (c_gq g26 nn ww (c_begin f u i1)) (d_begin g h oo u i1 d o n) := by
  have ff : ¬ (false = true) := by decide
  have hw := hL.1.2.2.2.2.1
  have e146 := hL.1.2.2.2.1
  unfold c_begin d_begin
  rcases rl_g101 ht with ⟨k1, k2⟩ | ⟨k1, k2, k3⟩
  · have n1 : ¬ g (150 + 154 * u + 101) = nI 1 := by rw [k2]; decide
    have n2 : ¬ ¬ f (15 + u) = -1 := fun q => q k1
    rw [if_neg n1, if_neg n2, rl_lkd hL, hw, ← e146]
    cases h1 : (decide (h 1 = nI 3) && c_oth (f 1) (nI u))
    · rw [if_neg ff, Bool.false_or]
      cases h2 : (decide (i1 = 3) && decide (¬ f 2 = -1))
      · rw [if_neg ff, if_neg ff]
        have hlk : f 564 = nI 3 → f 1 = -1 ∨ f 1 = nI u := fun q => by
          rw [hw] at q
          rw [q] at h1
          exact rl_oth_f (by simpa using h1)
        have L2 := rl_begin (k := i1) hL ht hu k1 hst hi1 hp hp2 hb hb2 hlk
        refine rl_S_6 rfl ⟨rfl, c, b + 1, b2 + 1, k, n, Nat.le_succ _, Nat.le_refl _, Nat.le_refl _, Nat.le_succ _, L2, rl_E_b (rl_E_fr hE (fun j j1 j2 => ?_) (fun v hv i i1 i2 => d_bgn_o (by omega) (by omega) (by omega)) (fun j j1 _ _ => m_sc_ne j1) (fun v hv q => ?_))⟩
        · dsimp only [c_gq]
          rw [m_sc_ne (by omega), c_beg_o (by omega) (by omega) (by omega)]
        · dsimp only [c_gq] at q
          rw [m_sc_ne (by omega), c_beg_o (by omega) (by omega) (by omega)] at q
          exact q
      · rw [if_pos rfl, if_pos rfl]
        exact rl_S_0 (show ¬ nI 100 ≤ nI 0 by decide) (show ¬ nI 0 = nI 2 by decide) (show ¬ nI 0 = nI 6 by decide) (rl_same hL hE)
    · rw [if_pos rfl, Bool.true_or, if_pos rfl]
      exact rl_S_0 (show ¬ nI 100 ≤ nI 0 by decide) (show ¬ nI 0 = nI 2 by decide) (show ¬ nI 0 = nI 6 by decide) (rl_same hL hE)
  · rw [if_pos k2, if_pos k1]
    unfold c_gq
    dsimp only
    exact rl_S_F hL hE ht hu hst hr hc hk hb2 (by decide) (by decide)
theorem rl_meets (hL : rl_L f g h c b b2) (ht : rl_tb f g u c d o) : c_meets f u = d_meets g u := by
  refine s_any_cg 8 0 (fun j _ hj => ?_)
  obtain ⟨v1, v2, v3, v4, v5, v6⟩ := rl_cv hL (show j < 8 by omega)
  obtain ⟨a1, a2, a3, a4, a5, a6⟩ := ht.2.2.2.2.2.1 j (by omega)
  unfold c_mh d_mh d_held c_oth
  rw [a1, a4, v5]
theorem rl_s12 (hL : rl_L f g h c b b2) (hE : rl_E ex f0 nn0 ww0 h0 o0 f g h nn ww oo b b2 k n) (ht : rl_tb f g u c d o) (hu : u < 3) (hst : ¬ f (3 + u) = nI 0) (hr : ¬ f (3 + u) = nI 4) (hp : f (6 + u) = nI pp) (hp2 : pp < 40) (hc : c < 1000000000) (hb2 : b2 < 1000000000) (hk : k < 1000000) : rl_S1 ex f0 nn0 ww0 h0 o0 u c b b2 k d o (c_gp g26 (c_finish f nn ww u k)) (d_enda g h oo u d o n) := by
  have ff : ¬ (false = true) := by decide
  have tt : true = true := rfl
  have hw := hL.1.2.2.2.2.1
  obtain ⟨d1, d2, d3, d4, d5, d6⟩ := ht.2.2.2.1
  have F : rl_S1 ex f0 nn0 ww0 h0 o0 u c b b2 k d o (c_gp g26 (nI 105, f, nn, ww)) (d_fails g h oo u (nI 5) d o n) := by
    unfold c_gp
    dsimp only
    exact rl_S_F hL hE ht hu hst hr hc hk hb2 (by decide) (by decide)
  unfold c_finish d_enda
  rcases rl_g101 ht with ⟨k1, k2⟩ | ⟨k1, k2, k3⟩
  · rw [k1, k2, decide_eq_true (rfl : nI 0 = nI 0), decide_eq_true (rfl : (-1 : Int32) = -1), Bool.true_or, Bool.true_or, if_pos tt, if_pos tt]
    exact F
  · have ho := rl_outer ht k1
    have n10 : ¬ nI 1 = nI 0 := by decide
    rw [k2, decide_eq_false n10, decide_eq_false k1, Bool.false_or, Bool.false_or, d1, ho]
    by_cases hdo : o < d
    · have e1 : ¬ nI d ≤ nI o := by rw [n_le (by omega) (by omega)]; omega
      rw [decide_eq_true hdo, decide_eq_true e1, if_pos tt, if_pos tt]
      exact F
    · have e1 : ¬ ¬ nI d ≤ nI o := fun q => q (by rw [n_le (by omega) (by omega)]; omega)
      obtain rfl : d = o := by omega
      rw [decide_eq_false hdo, decide_eq_false e1, if_neg ff, if_neg ff, hw, k3, rl_meets hL ht, rl_stale hL hu]
      cases h1 : (decide (¬ h 1 = nI 3) && (decide (¬ g (150 + 154 * u + 102) = nI 3) && d_meets g u))
      · rw [if_neg ff, if_neg ff]
        cases h2 : (decide (¬ h 1 = nI 3) && (decide (¬ g (150 + 154 * u + 102) = nI 3) && d_ch g u))
        · rw [if_neg ff, if_neg ff]
          obtain ⟨c', k', n', p1, p2, p3, p4, p5, p6⟩ := rl_cnt hL hE ht hu k1 hr hc hk hb2
          have e3 : c_leave (c_mk f u).1 u (3 + u) = f (3 + u) := by rw [c_leave_o (by omega) (by omega) (by omega) (by omega) (by omega), c_mk_o (by omega) (by omega)]
          have e6 : c_leave (c_mk f u).1 u (6 + u) = f (6 + u) := by rw [c_leave_o (by omega) (by omega) (by omega) (by omega) (by omega), c_mk_o (by omega) (by omega)]
          exact rl_S_n p4 p2 (Nat.le_succ _) (Nat.le_succ _) p3 p6 hu (by rw [e3]; exact hst) (e6.trans hp) hp2
        · rw [if_pos tt, if_pos tt]
          refine rl_S_2 rfl ⟨rfl, c, b, b2, k, n, Nat.le_succ _, Nat.le_succ _, Nat.le_succ _, Nat.le_succ _, (rl_anew (rl_toM hL) ht hu k1).1, rl_E_anew hE hu (Nat.le_refl _) d3 hst⟩
      · rw [if_pos tt, if_pos tt]
        exact rl_S_0 (show ¬ nI 100 ≤ nI 0 by decide) (show ¬ nI 0 = nI 2 by decide) (show ¬ nI 0 = nI 6 by decide) (rl_same hL hE)
theorem rl_rt (ht : rl_tb f g u c d o) (hi : ¬ f (15 + u) = -1) : ∀ e, e ≤ d → c_rt f u o e = (d_rt g u o e).map (fun i => m_sc (m_sc (c_bring f u (c_sc u i)) (12 + u) (nI i)) (6 + u) (m_sc (c_bring f u (c_sc u i)) (12 + u) (nI i) (287 + c_sc u i))) := by
  intro e
  induction e with
  | zero => intro _; rfl
  | succ e ih =>
    intro he
    have hd4 := ht.2.2.2.1.2.2.1
    rw [c_rt, d_rt]
    by_cases h1 : e < o
    · rw [if_pos h1, if_pos h1]; rfl
    · rw [if_neg h1, if_neg h1]
      obtain ⟨s1, _⟩ := (ht.2.2.2.2.2.2.1 e (by omega)).1 (by omega)
      rcases s1 with ⟨k1, k2⟩ | ⟨k1, k2⟩ | ⟨k1, k2⟩
      · rw [if_pos k1, if_pos k2]; rfl
      · have n1 : ¬ f (286 + c_sc u e) = nI 14 := by rw [k1]; decide
        have n2 : ¬ g (150 + 154 * u + 9 + 23 * e) = nI 0 := by rw [k2]; decide
        rw [if_neg n1, if_neg n2]; exact ih (by omega)
      · have n1 : ¬ f (286 + c_sc u e) = nI 14 := by rw [k1]; decide
        have n2 : ¬ g (150 + 154 * u + 9 + 23 * e) = nI 0 := by rw [k2]; decide
        rw [if_neg n1, if_neg n2]; exact ih (by omega)
theorem d_rt_ge {i : Nat} : ∀ {e : Nat}, d_rt g u o e = some i → o ≤ i
  | 0, h => by cases h
  | e + 1, h => by
    rw [d_rt] at h
    split at h
    · cases h
    · split at h
      · cases h; omega
      · exact d_rt_ge h
theorem m_sc_cm {α : Type} {f : Nat → α} {i j : Nat} {x y : α} (h : i ≠ j) : m_sc (m_sc f i x) j y = m_sc (m_sc f j y) i x := by
  funext t
  by_cases h1 : t = i
  · subst h1; rw [m_sc_ne h, m_sc_self, m_sc_self]
  · rw [m_sc_ne h1 (f := m_sc f j y)]
    by_cases h2 : t = j
    · subst h2; rw [m_sc_self, m_sc_self]
    · rw [m_sc_ne h2, m_sc_ne h1, m_sc_ne h2]
theorem rl_s13 (hL : rl_L f g h c b b2) (hE : rl_E ex f0 nn0 ww0 h0 o0 f g h nn ww oo b b2 k n) (ht : rl_tb f g u c d o) (hu : u < 3) (hst : ¬ f (3 + u) = nI 0) (hr : ¬ f (3 + u) = nI 4) (hc : c < 1000000000) (hb2 : b2 < 1000000000) (hk : k < 1000000) : rl_S1 ex f0 nn0 ww0 h0 o0 u c b b2 k d o (c_gq g26 nn ww (c_retry f u d o)) (d_retry g h oo u d o n) := by
  have ff : ¬ (false = true) := by decide
  have tt : true = true := rfl
  obtain ⟨d1, d2, d3, d4, d5, d6⟩ := ht.2.2.2.1
  have F : rl_S1 ex f0 nn0 ww0 h0 o0 u c b b2 k d o (c_gq g26 nn ww (nI 105, f)) (d_fails g h oo u (nI 5) d o n) := by
    unfold c_gq
    dsimp only
    exact rl_S_F hL hE ht hu hst hr hc hk hb2 (by decide) (by decide)
  unfold c_retry d_retry
  rcases rl_g101 ht with ⟨k1, k2⟩ | ⟨k1, k2, k3⟩
  · have n1 : ¬ f (15 + u) = nI 2 := by rw [k1]; decide
    rw [if_pos n1, k2, decide_eq_true (rfl : nI 0 = nI 0), Bool.true_or, if_pos tt]
    exact F
  · have n10 : ¬ nI 1 = nI 0 := by decide
    rw [k2, decide_eq_false n10, Bool.false_or, ← k3]
    by_cases h2 : f (15 + u) = nI 2
    · have n1 : ¬ ¬ f (15 + u) = nI 2 := fun q => q h2
      rw [if_neg n1, decide_eq_false n1, if_neg ff, rl_rt ht k1 d (Nat.le_refl _)]
      cases h3 : d_rt g u o d with
      | none =>
        dsimp only [Option.map]
        unfold c_sleep
        rw [rl_stale hL hu]
        cases h4 : d_ch g u
        · rw [if_neg ff, if_neg ff]
          have L2 := rl_sleep hL ht hu k1
          have S : ∀ j, j ≠ 3 + u → j ≠ 1 → (j < 33 ∨ 41 ≤ j) → (j < 176 + 47 * u ∨ 192 + 47 * u ≤ j) → c_slp f u j = f j := fun j j0 j1 j2 j3 => by
            unfold c_slp
            rw [m_sc_ne j0, c_unlock_o j1, c_rel_o (by omega), c_fill_o (by omega), c_fill_o (by omega)]
          have E2 : rl_E ex f0 nn0 ww0 h0 o0 (c_slp f u) (d_slp g u) h nn ww oo b b2 k n := rl_E_fr hE (fun j j1 j2 => S j (by omega) (by omega) (by omega) (by omega)) (fun v hv i i1 i2 => by
            unfold d_slp
            rw [m_sc_ne (by omega), d_unlock_o (by omega), d_dis_o (by omega), d_el_o (by omega)]) (fun _ _ _ _ => rfl) (fun v hv q => by
            by_cases hvu : v = u
            · subst hvu
              have e3 : c_slp f v (3 + v) = nI 4 := m_sc_self
              rw [e3] at q; exact absurd q (by decide)
            · rw [S _ (by omega) (by omega) (by omega) (by omega)] at q; exact q)
          exact rl_S_0 (show ¬ nI 100 ≤ nI 5 by decide) (show ¬ nI 5 = nI 2 by decide) (show ¬ nI 5 = nI 6 by decide) (rl_same L2 E2)
        · rw [if_pos tt, if_pos tt]
          exact rl_S_2 rfl ⟨rfl, c, b, b2, k, n, Nat.le_succ _, Nat.le_succ _, Nat.le_succ _, Nat.le_succ _, (rl_anew (rl_toM hL) ht hu k1).1, rl_E_anew hE hu d4 d3 hst⟩
      | some i =>
        dsimp only [Option.map]
        have hid := d_rt_lt h3
        have hio := d_rt_ge h3
        have e := c_sc_def u i
        obtain ⟨s1, s2, s3, _⟩ := (ht.2.2.2.2.2.2.1 i (by omega)).1 hid
        obtain ⟨L1, T1⟩ := rl_load hL ht hu hid k1 hst
        have st1 : ¬ c_bring f u (c_sc u i) (3 + u) = nI 0 := by rw [c_bring_o (by omega) (by omega)]; exact hst
        have ep : c_bring f u (c_sc u i) (287 + c_sc u i) = f (287 + c_sc u i) := c_bring_o (by omega) (by omega)
        have eg : d_load g u i (150 + 154 * u + 9 + 23 * i + 1) = f (287 + c_sc u i) := by rw [d_load_o (by omega) (by omega), s2]
        have L2 := rl_plc L1 hu s3 st1
        have T2 := rl_tb_plc T1 hu s3 st1
        obtain ⟨L3, T3⟩ := rl_drop L2 T2 hu (Nat.le_of_lt hid) hio (by rw [m_sc_ne (by omega)]; exact st1)
        have E3 : rl_E ex f0 nn0 ww0 h0 o0 (m_sc (m_sc (c_bring f u (c_sc u i)) (6 + u) (f (287 + c_sc u i))) (12 + u) (nI i)) (d_drop (m_sc (d_load g u i) (150 + 154 * u + 1) (f (287 + c_sc u i))) u d i) h nn ww oo b b2 k n := rl_E_fr hE (fun j j1 j2 => by
            rw [m_sc_ne (by omega), m_sc_ne (by omega), c_bring_o (by omega) (by omega)]) (fun v hv i i1 i2 => by
            rw [d_drop_o (by omega) d3 (by omega), m_sc_ne (by omega), d_load_o (by omega) (by omega)]) (fun _ _ _ _ => rfl) (fun v hv q => by
            rw [m_sc_ne (by omega), m_sc_ne (by omega), c_bring_o (by omega) (by omega)] at q; exact q)
        unfold d_rto
        rw [m_sc_ne (show 287 + c_sc u i ≠ 12 + u by omega), ep, eg, m_sc_cm (show 12 + u ≠ 6 + u by omega)]
        exact rl_S_0 (show ¬ nI 100 ≤ nI 1 by decide) (show ¬ nI 1 = nI 2 by decide) (show ¬ nI 1 = nI 6 by decide) (rl_same L3 E3)
    · rw [if_pos h2, decide_eq_true h2, if_pos tt]
      exact F
theorem rl_wak2 (hL : rl_L f g h c b b2) (hE : rl_E ex f0 nn0 ww0 h0 o0 f g h nn ww oo b b2 k n) (ht : rl_tb f g u c d o) (hu : u < 3) (hst : ¬ f (3 + u) = nI 0) : rl_S1 ex f0 nn0 ww0 h0 o0 u c b b2 k d o (c_gq g26 nn ww (c_wake f u)) (d_wakes g h oo u d o) := by
  have ff : ¬ (false = true) := by decide
  have tt : true = true := rfl
  obtain ⟨d1, d2, d3, d4, d5, d6⟩ := ht.2.2.2.1
  have hw := hL.1.2.2.2.2.1
  have Z : rl_S1 ex f0 nn0 ww0 h0 o0 u c b b2 k d o (c_gq g26 nn ww (nI 0, f)) (nI 0, g, h, oo) := rl_S_0 (show ¬ nI 100 ≤ nI 0 by decide) (show ¬ nI 0 = nI 2 by decide) (show ¬ nI 0 = nI 6 by decide) (rl_same hL hE)
  unfold c_wake d_wakes
  rw [rl_stale hL hu, rl_lkd hL]
  cases h1 : d_ch g u
  · have n1 : ¬ (false = true) := by decide
    rw [if_pos n1, decide_eq_true (rfl : false = false), Bool.true_or, if_pos tt]
    exact Z
  · have n1 : ¬ ¬ (true = true) := fun q => q rfl
    have n2 : ¬ (true = false) := by decide
    rw [if_neg n1, decide_eq_false n2, Bool.false_or, hw]
    have hi : ¬ f (15 + u) = -1 := fun hi => by
      have h2 := (rl_stale hL hu).trans h1
      unfold c_stale at h2
      rw [s_any_iff] at h2
      obtain ⟨j, j1, j2, j3⟩ := h2
      unfold s_stale at j3
      rw [(ht.2.2.2.2.2.2.2.2.1 hi j (by omega)).1] at j3
      simp at j3
    have fin : ∀ (hlk : f 564 = nI 3 → f 1 = -1 ∨ f 1 = nI u) (F : Nat → Int32), F = c_wak f u → rl_S1 ex f0 nn0 ww0 h0 o0 u c b b2 k d o (c_gq g26 nn ww (nI 2, F)) (nI 2, d_anew (d_wak g h u) u d o, d_anh h, oo) := by
      intro hlk F hF
      subst hF
      obtain ⟨M1, T1⟩ := rl_wake hL ht hu hi hlk
      have F : ∀ j, j ≠ 1 ∧ j ≠ 3 + u → c_wak f u j = f j := fun j hj => by
        unfold c_wak
        rw [m_sc_ne hj.2]
        split
        · rw [m_sc_ne hj.1]
        · rfl
      have G : ∀ j, j ≠ 145 ∧ j ≠ 150 + 154 * u → d_wak g h u j = g j := fun j hj => by
        unfold d_wak
        rw [m_sc_ne hj.2]
        split
        · rw [m_sc_ne hj.1]
        · rfl
      have e3 : c_wak f u (3 + u) = nI 1 := m_sc_self
      have e30 : ¬ c_wak f u (3 + u) = nI 0 := by rw [e3]; decide
      have E1 : rl_E ex f0 nn0 ww0 h0 o0 (c_wak f u) (d_wak g h u) h nn ww oo b b2 k n := rl_E_fr hE (fun j j1 j2 => F j (by omega)) (fun v hv i i1 i2 => G _ (by omega)) (fun _ _ _ _ => rfl) (fun v hv q => by
        by_cases hvu : v = u
        · subst hvu; rw [e3] at q; exact absurd q (by decide)
        · rw [F _ (by omega)] at q; exact q)
      exact rl_S_2 rfl ⟨rfl, c, b, b2, k, n, Nat.le_succ _, Nat.le_succ _, Nat.le_succ _, Nat.le_succ _, (rl_anew M1 T1 hu (by rw [F _ (by omega)]; exact hi)).1, rl_E_anew E1 hu d4 d3 e30⟩
    by_cases h3 : h 1 = nI 3
    · rw [if_pos h3, decide_eq_true h3, Bool.true_and]
      cases h4 : c_oth (f 1) (nI u)
      · rw [if_neg ff, if_neg ff]
        refine fin (fun _ => rl_oth_f h4) _ ?_
        unfold c_wak
        rw [hw, if_pos h3]
      · rw [if_pos tt, if_pos tt]
        exact Z
    · rw [if_neg h3, decide_eq_false h3, Bool.false_and, if_neg ff]
      refine fin (fun q => absurd (hw.symm.trans q) h3) _ ?_
      unfold c_wak
      rw [hw, if_neg h3]
theorem rl_stp (hL : rl_L f g h c b b2) (hE : rl_E ex f0 nn0 ww0 h0 o0 f g h nn ww oo b b2 k n) (ht : rl_tb f g u c d o) (hu : u < 3) (hst : ¬ f (3 + u) = nI 0) (hr : ¬ f (3 + u) = nI 4) (hc : c < 1000000000) (hb2 : b2 < 1000000000) (hk : k < 1000000) : rl_S1 ex f0 nn0 ww0 h0 o0 u c b b2 k d o (c_gq g26 nn ww (c_stop f u)) (if decide (g (150 + 154 * u + 101) = nI 1) || decide (0 < d) then d_fails g h oo u (nI 2) d o n else (nI 4, m_sc g (150 + 154 * u) (nI 2), h, oo)) := by
  have ff : ¬ (false = true) := by decide
  have tt : true = true := rfl
  obtain ⟨d1, d2, d3, d4, d5, d6⟩ := ht.2.2.2.1
  have F : rl_S1 ex f0 nn0 ww0 h0 o0 u c b b2 k d o (c_gq g26 nn ww (nI 102, f)) (d_fails g h oo u (nI 2) d o n) := by
    unfold c_gq
    dsimp only
    exact rl_S_F hL hE ht hu hst hr hc hk hb2 (by decide) (by decide)
  unfold c_stop
  rw [d1]
  rcases rl_g101 ht with ⟨k1, k2⟩ | ⟨k1, k2, k3⟩
  · have n1 : ¬ ¬ f (15 + u) = -1 := fun q => q k1
    have n01 : ¬ nI 0 = nI 1 := by decide
    rw [k2, decide_eq_false n1, decide_eq_false n01, Bool.false_or, Bool.false_or]
    by_cases hd0 : 0 < d
    · have e1 : ¬ nI d ≤ nI 0 := by rw [n_le (by omega) (by omega)]; omega
      rw [decide_eq_true hd0, decide_eq_true e1, if_pos tt, if_pos tt]
      exact F
    · have e1 : ¬ ¬ nI d ≤ nI 0 := fun q => q (by rw [n_le (by omega) (by omega)]; omega)
      rw [decide_eq_false hd0, decide_eq_false e1, if_neg ff, if_neg ff]
      have L2 : rl_L (m_sc f (3 + u) (nI 2)) (m_sc g (150 + 154 * u) (nI 2)) h c b b2 := rl_stands hL hu k1 (fun j j1 j2 => m_sc_ne j1) (fun j j1 j2 => m_sc_ne j1) (by rw [m_sc_self, m_sc_self]) (by rw [m_sc_ne (by omega), m_sc_ne (by omega)]; exact ht.1.2.2.1) (by rw [m_sc_self]; decide)
      have E2 : rl_E ex f0 nn0 ww0 h0 o0 (m_sc f (3 + u) (nI 2)) (m_sc g (150 + 154 * u) (nI 2)) h nn ww oo b b2 k n := rl_E_fr hE (fun j j1 j2 => m_sc_ne (by omega)) (fun v hv i i1 i2 => m_sc_ne (by omega)) (fun _ _ _ _ => rfl) (fun v hv q => by
        by_cases hvu : v = u
        · subst hvu; rw [m_sc_self] at q; exact absurd q (by decide)
        · rw [m_sc_ne (by omega)] at q; exact q)
      exact rl_S_0 (show ¬ nI 100 ≤ nI 4 by decide) (show ¬ nI 4 = nI 2 by decide) (show ¬ nI 4 = nI 6 by decide) (rl_same L2 E2)
  · rw [k2, decide_eq_true k1, decide_eq_true (rfl : nI 1 = nI 1), Bool.true_or, Bool.true_or, if_pos tt, if_pos tt]
    exact F
/-- scopes: begun -/
theorem rl_opn (hL : rl_L f g h c b b2) (hE : rl_E ex f0 nn0 ww0 h0 o0 f g h nn ww oo b b2 k n) (ht : rl_tb f g u c d o) (hu : u < 3) (hi1 : i1 ≤ 40) (hst : ¬ f (3 + u) = nI 0) (hr : ¬ f (3 + u) = nI 4) (hp : f (6 + u) = nI pp) (hp2 : pp < 40) (hc : c < 1000000000) (hb2 : b2 < 1000000000) (hk : k < 1000000) (hs : rl_sort (nI kk) (nI v)) (hkv : kk = 18 ↔ v = 2) (hin : kk = 18 ∨ ¬ f (15 + u) = -1) : rl_S1 ex f0 nn0 ww0 h0 o0 u c b b2 k d o (c_gq g26 nn ww (if ¬ d < 4 then (nI 105, f) else (nI 6, c_opn f u kk i1 d))) (if (d_push g u v i1 d).1 = true then (nI 1, d_next (d_push g u v i1 d).2 u, h, oo) else d_fails g h oo u (nI 5) d o n) := by
  have ff : ¬ (false = true) := by decide
  have tt : true = true := rfl
  unfold d_push
  by_cases h4 : d < 4
  · have n4 : ¬ ¬ d < 4 := fun q => q h4
    rw [if_pos h4, if_neg n4]
    dsimp only
    rw [if_pos tt]
    obtain ⟨L2, T2⟩ := rl_push (kk := kk) (v := v) (p := i1) hL ht hu h4 hi1 hst hs hkv hin
    have e := c_sc_def u d
    have E2 : rl_E ex f0 nn0 ww0 h0 o0 (c_opn f u kk i1 d) (d_psh g u v i1 d) h nn ww oo b b2 k n := rl_E_fr hE (fun j j1 j2 => c_opn_o (by omega) (by omega)) (fun v hv i i1 i2 => d_psh_o (by omega) (by rcases Nat.lt_trichotomy v u with q | q | q <;> omega)) (fun _ _ _ _ => rfl) (fun v hv q => by
      rw [c_opn_o (by omega) (by omega)] at q; exact q)
    exact rl_S_n L2 (Nat.le_succ _) (Nat.le_succ _) (Nat.le_succ _) (Nat.le_succ _) E2 hu (by rw [c_opn_o (by omega) (by omega)]; exact hst) (by rw [c_opn_o (by omega) (by omega)]; exact hp) hp2
  · rw [if_neg h4, if_pos h4]
    dsimp only
    rw [if_neg ff]
    unfold c_gq
    dsimp only
    exact rl_S_F hL hE ht hu hst hr hc hk hb2 (by decide) (by decide)
/-- scopes: done -/
theorem rl_close (hL : rl_L f g h c b b2) (hE : rl_E ex f0 nn0 ww0 h0 o0 f g h nn ww oo b b2 k n) (ht : rl_tb f g u c d o) (hu : u < 3) (hst : ¬ f (3 + u) = nI 0) (hs : (kk = 14 ∧ v = 0) ∨ (kk = 16 ∧ v = 1) ∨ (kk = 18 ∧ v = 2)) : ((c_clo f u (nI kk) d o = (nI 105, f)) ∧ d_pop g u v (d_fl g u o) d = (false, g)) ∨ ((c_clo f u (nI kk) d o).1 = nI 6 ∧ (d_pop g u v (d_fl g u o) d).1 = true ∧ rl_L (c_clo f u (nI kk) d o).2 (d_pop g u v (d_fl g u o) d).2 h c b b2 ∧ rl_E ex f0 nn0 ww0 h0 o0 (c_clo f u (nI kk) d o).2 (d_pop g u v (d_fl g u o) d).2 h nn ww oo b b2 k n ∧ (∀ j, j ≠ 12 + u → (c_clo f u (nI kk) d o).2 j = f j) ∧ (kk = 18 ∨ ¬ f (15 + u) = -1)) := by
  obtain ⟨d1, d2, d3, d4, d5, d6⟩ := ht.2.2.2.1
  have hfl : d_fl g u o = o := by
    unfold d_fl
    rcases rl_g101 ht with ⟨k1, k2⟩ | ⟨k1, k2, k3⟩
    · rw [k2, if_neg (by decide)]
      unfold c_outer at d5
      rw [if_pos k1, n_eq (by omega) (by omega)] at d5
      exact d5
    · rw [if_pos k2]
  rw [hfl]
  cases d with
  | zero => exact Or.inl ⟨rfl, rfl⟩
  | succ d =>
    have ec : c_clo f u (nI kk) (d + 1) o = if d < o then (nI 105, f) else if f (286 + c_sc u d) = nI kk then (nI 6, m_sc f (12 + u) (nI d)) else (nI 105, f) := rfl
    have ed : d_pop g u v o (d + 1) = if d < o then (false, g) else if g (150 + 154 * u + 9 + 23 * d) = nI v then (true, d_drop g u (d + 1) d) else (false, g) := rfl
    rw [ec, ed]
    by_cases h1 : d < o
    · rw [if_pos h1, if_pos h1]; exact Or.inl ⟨rfl, rfl⟩
    · rw [if_neg h1, if_neg h1]
      obtain ⟨s1, s2, s3, s4, s5, s6, s7⟩ := (ht.2.2.2.2.2.2.1 d (by omega)).1 (Nat.lt_succ_self d)
      have hiff : f (286 + c_sc u d) = nI kk ↔ g (150 + 154 * u + 9 + 23 * d) = nI v := by
        rcases s1 with ⟨k1, k2⟩ | ⟨k1, k2⟩ | ⟨k1, k2⟩ <;> rcases hs with ⟨m1, m2⟩ | ⟨m1, m2⟩ | ⟨m1, m2⟩ <;> subst m1 <;> subst m2 <;> rw [k1, k2] <;> decide
      by_cases h2 : f (286 + c_sc u d) = nI kk
      · rw [if_pos h2, if_pos (hiff.1 h2)]
        obtain ⟨L2, T2⟩ := rl_drop hL ht hu (Nat.le_succ d) (by omega) hst
        refine Or.inr ⟨rfl, rfl, L2, rl_E_fr hE (fun j j1 j2 => m_sc_ne (by omega)) (fun v hv i i1 i2 => d_drop_o (Nat.le_succ d) d3 (by omega)) (fun _ _ _ _ => rfl) (fun v hv q => (m_sc_ne (by omega)).symm.trans q), fun j hj => m_sc_ne hj, ?_⟩
        rcases s7 with q | q
        · exact Or.inr q.2
        · rw [h2] at q
          rcases hs with ⟨m1, m2⟩ | ⟨m1, m2⟩ | ⟨m1, m2⟩
          · rw [m1] at q; exact absurd q (by decide)
          · rw [m1] at q; exact absurd q (by decide)
          · exact Or.inl m1
      · rw [if_neg h2, if_neg (fun q => h2 (hiff.2 q))]; exact Or.inl ⟨rfl, rfl⟩
end RLW
