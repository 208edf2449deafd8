/-! class and model alike: looking and putting, whole -/
def rl_dw (f : Nat → Int32) (x : Nat) : Nat := (f (12 + c_own f x)).toNatClampNeg
def rl_kw (f : Nat → Int32) (x : Nat) : Nat := (c_outer f (c_own f x)).toNatClampNeg
section RLU
variable {ex : Bool} {f g h f' g' h' nn ww f0 nn0 ww0 h0 g26 : Nat → Int32} {oo o0 : m_I} {u v w x k r c c' b b2 d o n p j cx : Nat} {y z va : Int32}
theorem rl_cb_of (hL : rl_L f' g' h' c' b b2) (hcx : g (18 * x + 15) = nI cx) (hc4 : cx ≤ 4) (hx : x < 8) (e : g' (18 * x + 15) = g (18 * x + 15)) : rl_cb f' g' x c' cx := by
  obtain ⟨n', h1⟩ := hL.2.2.1 x hx
  have h2 := h1.2.2.1
  have h3 := h1.2.1
  rw [e, hcx, n_eq (by omega) (by omega)] at h2
  rw [h2]
  exact h1
theorem rl_owner (hL : rl_L f g h c b b2) (hx : x < 8) (ho : ¬ f (33 + x) = -1) : c_own f x < 3 ∧ f (33 + x) = nI (c_own f x) ∧ ¬ f (15 + c_own f x) = -1 := by
  rcases hL.2.2.2.1 x hx with q | ⟨w, w1, w2, w3⟩
  · exact absurd q ho
  · have e : c_own f x = w := by unfold c_own; rw [w2]; exact nI_clamp (by omega)
    rw [e]
    exact ⟨w1, w2, w3⟩
theorem rl_ownd (hL : rl_L f g h c b b2) (hx : x < 8) (ho : ¬ f (33 + x) = -1) : rl_tb f g (c_own f x) c (rl_dw f x) (rl_kw f x) := by
  obtain ⟨w1, w2, w3⟩ := rl_owner hL hx ho
  obtain ⟨d, o, ht⟩ := hL.2.1 _ w1
  obtain ⟨a1, a2, a3, a4, a5, a6⟩ := ht.2.2.2.1
  have e1 : rl_dw f x = d := by unfold rl_dw; rw [a1]; exact nI_clamp (by omega)
  have e2 : rl_kw f x = o := by unfold rl_kw; rw [a5]; exact nI_clamp (by omega)
  rw [e1, e2]
  exact ht
theorem rl_down (hL : rl_L f g h c b b2) (hx : x < 8) : d_own g h u x (c_own f x) (rl_dw f x) (rl_kw f x) := by
  intro q
  obtain ⟨v1, v2, v3, v4, v5, v6⟩ := rl_cv hL hx
  rw [Bool.and_eq_true, ← v6] at q
  have q2 := q.2
  unfold c_oth at q2
  rw [Bool.and_eq_true, decide_eq_true_eq, decide_eq_true_eq] at q2
  obtain ⟨w1, w2, w3⟩ := rl_owner hL hx q2.1
  obtain ⟨a1, a2, a3, a4, a5, a6⟩ := (rl_ownd hL hx q2.1).2.2.2.1
  refine ⟨w1, fun e => q2.2 (by rw [w2, e]), ?_, a3, a4, a2, a6⟩
  rw [← v6]; exact w2
theorem rl_elder (hL : rl_L f g h c b b2) (hu : u < 3) (hv : v < 3) (hi : ¬ f (15 + u) = -1) (hj : ¬ f (15 + v) = -1) : c_elder f u v = d_eld g u v := by
  obtain ⟨d, o, ht⟩ := hL.2.1 u hu
  obtain ⟨d2, o2, ht2⟩ := hL.2.1 v hv
  obtain ⟨ku, ku4, k1, k2, k3⟩ := ht.2.2.1.resolve_left (fun q => hi q.1)
  obtain ⟨kv, kv4, m1, m2, m3⟩ := ht2.2.2.1.resolve_left (fun q => hj q.1)
  have ha := ((hL.2.2.2.2.2.2.2 u hu hi).2.2 v hv hj).1
  unfold c_elder d_eld
  rw [k1, k3, m1, m3]
  by_cases h1 : nI ku = nI 3
  · simp [h1]
  · by_cases h2 : nI kv = nI 3
    · simp [h1, h2]
    · simp [h1, h2, ha]
/-- once no one is in the way -/
theorem rl_look2 (hL : rl_L f g h c b b2) (hE : rl_E ex f0 nn0 ww0 h0 o0 f g h nn ww oo b b2 k n) (ht : rl_tb f g u c d o) (hu : u < 3) (hx : x < 8) (hi : ¬ f (15 + u) = -1) (hb : b2 < 2147483648) (hst : f (3 + u) = va) (hc : c < 1000000000) (hcx : rl_cb f g x c cx) : rl_lk ex f0 nn0 ww0 h0 o0 nn ww oo u c b b2 k n d o va (c_look2 f g26 u x) (d_rd2 g h u x cx d o) := by
  obtain ⟨ku, ku4, k1, k2, k3⟩ := ht.2.2.1.resolve_left (fun q => hi q.1)
  obtain ⟨v1, v2, v3, v4, v5, v6⟩ := rl_cv hL hx
  have hw := hL.1.2.2.2.2.1
  unfold c_look2 d_rd2
  rw [k1, k3, hw]
  by_cases h1 : nI ku = nI 3
  · rw [if_pos h1, if_pos h1]
    have hL2 := rl_hold (u := u) hL hx hu
    have ht2 := rl_tb_of hL2 ht hu (m_sc_ne (by omega)) (m_sc_ne (by omega)) (m_sc_ne (by omega))
    have hE2 : rl_E ex f0 nn0 ww0 h0 o0 (m_sc f (41 + x) (nI u)) (m_sc g (18 * x + 17) (nI u)) h nn ww oo b b2 k n := rl_E_fr hE (fun j j1 j2 => m_sc_ne (by omega)) (fun v hv i i1 i2 => m_sc_ne (by omega)) (fun _ _ _ _ => rfl) (fun v hv q => (m_sc_ne (by omega)).symm.trans q)
    exact rl_plainsee hL2 hE2 ht2 hu hx (by rw [m_sc_ne (by omega)]; exact hi) hb (by rw [m_sc_ne (by omega)]; exact hst)
  · rw [if_neg h1, if_neg h1]
    cases h2 : (decide (nI ku = nI 1) && decide (h 1 = nI 2))
    · have ff : ¬ (false = true) := by decide
      rw [if_neg ff, if_neg ff]
      exact rl_clk hL hE ht hu hx hi hb hst
    · rw [if_pos rfl, if_pos rfl]
      exact rl_pic hL hE ht hu hx hi hb hst hc hcx
theorem rl_look (hL : rl_L f g h c b b2) (hE : rl_E ex f0 nn0 ww0 h0 o0 f g h nn ww oo b b2 k n) (ht : rl_tb f g u c d o) (hu : u < 3) (hx : x < 8) (hb : b2 < 2147483648) (hst : f (3 + u) = va) (hr : ¬ va = nI 4) (hc : c < 1000000000) (hcx : rl_cb f g x c cx) : rl_lk ex f0 nn0 ww0 h0 o0 nn ww oo u c b b2 k n d o va (c_look f g26 u x) (d_reads g h u x cx d o (c_own f x) (rl_dw f x) (rl_kw f x)) := by
  obtain ⟨v1, v2, v3, v4, v5, v6⟩ := rl_cv hL hx
  have hw := hL.1.2.2.2.2.1
  have h1l := hL.1.2.2.1
  have ff : ¬ (false = true) := by decide
  unfold c_look d_reads
  by_cases hi : f (15 + u) = -1
  · have g0 : g (150 + 154 * u + 101) = nI 0 := by
      rcases ht.2.2.1 with ⟨_, k2, _⟩ | ⟨kk, kk4, k2, _⟩
      · exact k2
      · rw [hi] at k2; exact absurd k2.symm (n_ne1' (by omega))
    rw [if_pos hi, if_pos g0]
    unfold c_out
    have e1 : (decide (¬ g (18 * x + 17) = -1) || d_lkd g u) = (decide (¬ f (41 + x) = -1) || c_oth (f 1) (nI u)) := by
      unfold d_lkd c_oth
      rw [v5, h1l]
    rw [e1]
    cases h2 : (decide (¬ f (41 + x) = -1) || c_oth (f 1) (nI u))
    · rw [if_neg ff, ← v2, ← v3, ← hst]
      exact rl_found hL hE ht hb v1
    · rw [if_pos rfl]
      exact Or.inl ⟨rfl, rfl, rl_vh hL hb, rl_E_vh hE⟩
  · obtain ⟨ku, ku4, k1, k2, k3⟩ := ht.2.2.1.resolve_left (fun q => hi q.1)
    have g0 : ¬ g (150 + 154 * u + 101) = nI 0 := by rw [k2]; decide
    rw [if_neg hi, if_neg g0]
    obtain ⟨a1, a2, a3, a4, a5, a6⟩ := ht.2.2.2.2.2.1 x hx
    rw [show 150 + 154 * u + 135 + 2 * x + 1 = 150 + 154 * u + 136 + 2 * x by omega, ← a4, ← a5, show 176 + 47 * u + x + 8 = 184 + 47 * u + x by omega]
    by_cases h2 : f (176 + 47 * u + x) = -1
    · have h2' : ¬ ¬ f (176 + 47 * u + x) = -1 := fun q => q h2
      rw [if_neg h2', if_neg h2', hw]
      by_cases h3 : h 1 = nI 3
      · rw [if_pos h3, if_pos h3]
        have hco := (hL.2.2.2.2.1 (hw.trans h3) u hu hi (by rw [hst]; exact hr)).2 x hx
        have ec : c_come f u x = m_sc f (152 + 47 * u + x) (f (65 + x)) := by
          unfold c_come
          rcases hco with e | e
          · rw [if_pos e]
          · by_cases e2 : f (152 + 47 * u + x) = -1
            · rw [if_pos e2]
            · rw [if_neg e2, ← e, s_sce]
        rw [ec]
        exact rl_comesee hL hE ht hu hx hi hb hst
      · rw [if_neg h3, if_neg h3]
        have e1 : d_held g u x = c_oth (f (41 + x)) (nI u) := by
          unfold d_held c_oth
          rw [v5]
        rw [e1]
        cases h4 : c_oth (f (41 + x)) (nI u)
        · rw [if_neg ff, if_neg ff]
          unfold d_wfo c_rival
          rw [hw, ← v6]
          cases h5 : (decide (h 1 = nI 1) && c_oth (f (33 + x)) (nI u))
          · rw [if_neg ff, if_neg ff, if_neg ff, if_pos rfl]
            exact rl_look2 hL hE ht hu hx hi hb hst hc hcx
          · have tt : true = true := rfl
            rw [Bool.and_eq_true] at h5
            have q2 := h5.2
            unfold c_oth at q2
            rw [Bool.and_eq_true, decide_eq_true_eq, decide_eq_true_eq] at q2
            obtain ⟨w1, w2, w3⟩ := rl_owner hL hx q2.1
            have htw := rl_ownd hL hx q2.1
            have hwu : c_own f x ≠ u := fun e => q2.2 (by rw [w2, e])
            rw [if_pos tt, if_pos tt, if_neg q2.1, rl_elder hL hu w1 hi w3]
            cases h6 : d_eld g u (c_own f x)
            · rw [if_neg ff, if_neg ff]
              dsimp only
              rw [if_pos tt]
              exact Or.inl ⟨rfl, rfl, hL, hE⟩
            · rw [if_pos tt, if_pos tt]
              dsimp only
              rw [if_neg ff]
              have hd4 := htw.2.2.2.1.2.2.1
              have hok := htw.2.2.2.1.2.2.2.1
              obtain ⟨L2, t2⟩ := rl_anew (rl_toM hL) htw w1 w3
              have E2 := rl_E_anew hE w1 hok hd4 (rl_started htw w3)
              have F : ∀ j, (j < 33 ∨ 41 ≤ j) → (j < 152 + 47 * c_own f x ∨ 192 + 47 * c_own f x ≤ j) → (j < 21 + 4 * c_own f x ∨ 25 + 4 * c_own f x ≤ j) → (j ≠ 145 + 47 * c_own f x ∧ j ≠ 12 + c_own f x ∧ j ≠ 6 + c_own f x ∧ j ≠ 560 ∧ j ≠ 550 + c_own f x) → c_anew f (c_own f x) j = f j := fun j j1 j2 j3 j4 => c_anew_o j1 j2 j3 j4
              have t3 := rl_tb_of L2 ht hu (F _ (by omega) (by omega) (by omega) (by omega)) (F _ (by omega) (by omega) (by omega) (by omega)) (F _ (by omega) (by omega) (by omega) (by omega))
              refine rl_look2 L2 E2 t3 hu hx ?_ hb ?_ hc (rl_cb_of (g := g) L2 hcx.2.2.1 hcx.2.1 hx (d_anew_o hok hd4 (by omega) (by omega)))
              · rw [F _ (by omega) (by omega) (by omega) (by omega)]; exact hi
              · rw [F _ (by omega) (by omega) (by omega) (by omega)]; exact hst
        · rw [if_pos rfl, if_pos rfl]
          exact Or.inl ⟨rfl, rfl, hL, hE⟩
    · rw [if_pos h2, if_pos h2, ← hst]
      exact rl_found hL hE ht hb (a6.resolve_left h2)
/-- what a writing comes to -/
def rl_pt (ex : Bool) (f0 nn0 ww0 h0 : Nat → Int32) (o0 : m_I) (u c b b2 k : Nat) (sp ss : Int32) (p : c_P) (q : d_R) : Prop :=
  ((p.1 = nI 0 ∧ q.1 = nI 1) ∨ (p.1 = nI 6 ∧ q.1 = nI 0)) ∧ p.2.1 (6 + u) = sp ∧ p.2.1 (3 + u) = ss ∧ ∃ c' b' b2' k' n', c' ≤ c + 1 ∧ b' ≤ b + 1 ∧ b2' ≤ b2 + 1 ∧ k' ≤ k + 1 ∧ rl_L p.2.1 q.2.1 q.2.2.1 c' b' b2' ∧ rl_E ex f0 nn0 ww0 h0 o0 p.2.1 q.2.1 q.2.2.1 p.2.2.1 p.2.2.2 q.2.2.2 b' b2' k' n'
theorem rl_pt0 (hL : rl_L f g h c b b2) (hE : rl_E ex f0 nn0 ww0 h0 o0 f g h nn ww oo b b2 k n) {p1 q1 : Int32} (hp : (p1 = nI 0 ∧ q1 = nI 1) ∨ (p1 = nI 6 ∧ q1 = nI 0)) (e1 : f (6 + u) = y) (e2 : f (3 + u) = z) : rl_pt ex f0 nn0 ww0 h0 o0 u c b b2 k y z (p1, f, nn, ww) (q1, g, h, oo) :=
  ⟨hp, e1, e2, c, b, b2, k, n, Nat.le_succ _, Nat.le_succ _, Nat.le_succ _, Nat.le_succ _, hL, hE⟩
theorem d_aln_h (h2 : j ≠ 2) (h4 : j ≠ 4) (h17 : j ≠ 17) : (d_aln g h oo u x y z n).1 j = h j := by
  unfold d_aln
  split
  · unfold d_note
    split
    · dsimp only; rw [m_sc_ne h4, m_sc_ne h2]
    · dsimp only; rw [m_sc_ne h17, m_sc_ne h4, m_sc_ne h2]
  · rfl
theorem d_aln_2 (h5 : h 5 = nI 0) : (d_aln g h oo u x y z n).1 2 = h 2 + nI 1 := by
  unfold d_aln
  rw [if_pos h5]
  unfold d_note
  split
  · dsimp only; rw [m_sc_ne (by omega), m_sc_self]
  · dsimp only; rw [m_sc_ne (by omega), m_sc_ne (by omega), m_sc_self]
theorem c_noteW_3 (h2 : j ≠ 2) : (c_noteW f nn ww u x k).1 j = nn j := by
  unfold c_noteW
  split
  · rfl
  · split
    · dsimp only; rw [m_sc_ne h2]
    · dsimp only; rw [m_sc_ne h2]
theorem rl_putO (hL : rl_L f g h c b b2) (hE : rl_E ex f0 nn0 ww0 h0 o0 f g h nn ww oo b b2 k n) (ht : rl_tb f g u c d o) (hu : u < 3) (hx : x < 8) (hi : f (15 + u) = -1) (hb : b < 1000000000) (hb2 : b2 < 1000000000) (hk : k < 1000000) (hv : rl_val y z) : rl_pt ex f0 nn0 ww0 h0 o0 u c b b2 k (f (6 + u)) (f (3 + u)) (c_putO f nn ww u x k y z) (if decide (¬ g (18 * x + 17) = -1) || (d_lkd g u || decide (¬ g (18 * x + 16) = -1)) then (nI 1, g, h, oo) else (nI 0, d_bec (m_sc g 144 (g 144 + nI 1)) x y z, d_aln (d_bec (m_sc g 144 (g 144 + nI 1)) x y z) h oo u x y z n)) := by
  obtain ⟨v1, v2, v3, v4, v5, v6⟩ := rl_cv hL hx
  have ff : ¬ (false = true) := by decide
  have e1 : d_lkd g u = c_oth (f 1) (nI u) := by
    unfold d_lkd c_oth
    rw [hL.1.2.2.1]
  have e2 : decide (¬ g (18 * x + 16) = -1) = c_oth (f (33 + x)) (nI u) := by
    unfold c_oth
    rw [← v6]
    by_cases q : f (33 + x) = -1
    · simp [q]
    · obtain ⟨w1, w2, w3⟩ := rl_owner hL hx q
      have : ¬ f (33 + x) = nI u := fun e => by
        rw [w2] at e
        have := nI_u w1 hu e
        rw [this] at w3
        exact w3 hi
      simp [q, this]
  unfold c_putO
  rw [e1, e2, ← v5]
  cases h1 : decide (¬ f (41 + x) = -1)
  · cases h2 : c_oth (f 1) (nI u)
    · cases h3 : c_oth (f (33 + x)) (nI u)
      · simp only [Bool.or_self, Bool.false_eq_true, if_false]
        have hlk : f 564 = nI 3 → f 1 = -1 ∨ f 1 = nI u := fun _ => by
          unfold c_oth at h2
          by_cases q : f 1 = -1
          · exact Or.inl q
          · by_cases q2 : f 1 = nI u
            · exact Or.inr q2
            · simp [q, q2] at h2
        have L2 := rl_putF hL hu hi hx hv hb hlk
        have F : ∀ j, (j < 49 ∨ 145 ≤ j) → j ≠ 0 → j ≠ 559 → c_putF f x y z j = f j := fun j j1 j2 j3 => by
          unfold c_putF
          rw [c_change_o hx j1, m_sc_ne j2, m_sc_ne j3]
        have G : ∀ v, v < 3 → ∀ i, 151 ≤ i → i < 154 → d_bec (m_sc g 144 (g 144 + nI 1)) x y z (150 + 154 * v + i) = g (150 + 154 * v + i) := fun v hv i i1 i2 => by
          rw [d_bec_o hx (by omega), m_sc_ne (by omega)]
        have q49 : c_putF f x y z (49 + x) = y := c_change_0 hx
        have q57 : c_putF f x y z (57 + x) = z := c_change_1 hx
        obtain ⟨s1, s2, s3, s4, s5, s6, s7⟩ := hE
        have S3 : ∀ v, v < 3 → c_putF f x y z (3 + v) = nI 0 → f0 (3 + v) = nI 0 := fun v hv q => s7 v hv ((F _ (by omega) (by omega) (by omega)).symm.trans q)
        refine ⟨Or.inr ⟨rfl, rfl⟩, F _ (by omega) (by omega) (by omega), F _ (by omega) (by omega) (by omega), ?_⟩
        cases hex : ex
        · obtain ⟨a1, a2, a3, a4, a5⟩ := s5 hex
          have hn3 : nn 3 = nI 0 := (s2 3 (by omega)).trans a1
          have hh5 : h 5 = nI 0 := (s3 5 (by omega) (by omega) (by omega) (by omega) (by omega) (by omega)).trans a2
          obtain ⟨n', hN⟩ := rl_noteW (u := u) a3 hn3 hh5 hk hx q49 q57 (L2.1.1.trans L2.1.2.1.symm)
          have hn60 : n' ≤ 60 := by have := hN.2.2.2.1; omega
          refine ⟨c + 1, b + 1, b2 + 1, k + 1, n', Nat.le_refl _, Nat.le_refl _, Nat.le_refl _, Nat.le_refl _, rl_h2 L2 (d_aln_h (by omega) (by omega) (by omega)) (by rw [d_aln_2 hh5, hL.2.2.2.2.2.2.1, nI_add]) (Nat.le_succ _) (by omega), fun j hj => (F j (by omega) (by omega) (by omega)).trans (s1 j hj), fun j hj => (c_noteW_3 hj).trans (s2 j hj), fun j j1 j2 j3 j4 j5 j6 => (d_aln_h j1 j3 j4).trans (s3 j j1 j2 j3 j4 j5 j6), ⟨hN.1, hN.2.2.1, hn60⟩, fun _ => ⟨a1, a2, hN, by omega, ?_⟩, (fun q => by cases q), S3⟩
          exact rl_O_fr a5 (fun j j1 j2 j3 => F j (by omega) (by omega) j3) G (d_aln_h (by omega) (by omega) (by omega)) (fun v hv q => (F _ (by omega) (by omega) (by omega)).symm.trans q)
        · obtain ⟨a1, a2, a3, a4, a5, a6, a7, a8⟩ := s6 hex
          have hnn3 : ¬ nn 3 = nI 0 := fun q => a7 ((s2 3 (by omega)).symm.trans q)
          have hh5 : ¬ h 5 = nI 0 := fun q => a8 ((s3 5 (by omega) (by omega) (by omega) (by omega) (by omega) (by omega)).symm.trans q)
          have ed : d_aln (d_bec (m_sc g 144 (g 144 + nI 1)) x y z) h oo u x y z n = (h, oo) := if_neg hh5
          have ec : c_noteW (c_putF f x y z) nn ww u x k = (nn, ww) := if_pos hnn3
          dsimp only
          rw [ed, ec]
          exact ⟨c + 1, b + 1, b2, k, n, Nat.le_refl _, Nat.le_refl _, Nat.le_succ _, Nat.le_succ _, L2, fun j hj => (F j (by omega) (by omega) (by omega)).trans (s1 j hj), s2, s3, s4, (fun q => by cases q), (fun _ => ⟨a1, a2, a3, a4, a5, a6, a7, a8⟩), S3⟩
      · simp only [Bool.or_true, Bool.false_or, Bool.or_self, Bool.false_eq_true, if_false, if_true]
        exact rl_pt0 hL hE (Or.inl ⟨rfl, rfl⟩) rfl rfl
    · simp only [Bool.or_true, Bool.true_or, if_true]
      exact rl_pt0 hL hE (Or.inl ⟨rfl, rfl⟩) rfl rfl
  · simp only [Bool.true_or, if_true]
    exact rl_pt0 hL hE (Or.inl ⟨rfl, rfl⟩) rfl rfl
/-- into the log, with the marks -/
theorem rl_put2 (hL : rl_L f g h c b b2) (hE : rl_E ex f0 nn0 ww0 h0 o0 f g h nn ww oo b b2 k n) (hu : u < 3) (hx : x < 8) (hi : ¬ f (15 + u) = -1) (hv : rl_val y z) {ku : Nat} (hk1 : f (15 + u) = nI ku) (hk2 : g (150 + 154 * u + 102) = nI ku) {kd : Int32} (hkd : kd = nI ku) (e1 : f (6 + u) = va) {vb : Int32} (e2 : f (3 + u) = vb) : rl_pt ex f0 nn0 ww0 h0 o0 u c b b2 k va vb (nI 6, c_put2 f u x kd y z, nn, ww) (nI 0, d_lg (d_wr3 (d_wr2 g (h 1) u x) u x) u x y z, h, oo) := by
  have hw := hL.1.2.2.2.2.1
  have A : ∃ f1 g1, f1 = (if f 564 = nI 1 then m_sc f (33 + x) (nI u) else f) ∧ g1 = d_wr2 g (h 1) u x ∧ rl_L f1 g1 h c b b2 ∧ (∀ j, j ≠ 33 + x → f1 j = f j) ∧ (∀ j, j ≠ 18 * x + 16 → g1 j = g j) := by
    unfold d_wr2
    rw [hw]
    by_cases q : h 1 = nI 1
    · rw [if_pos q, if_pos q]
      exact ⟨_, _, rfl, rfl, rl_ownx hL hx hu hi, fun j hj => m_sc_ne hj, fun j hj => m_sc_ne hj⟩
    · rw [if_neg q, if_neg q]
      exact ⟨_, _, rfl, rfl, hL, fun j hj => rfl, fun j hj => rfl⟩
  obtain ⟨f1, g1, ef1, eg1, L1, F1, G1⟩ := A
  have Bq : ∃ f2 g2, f2 = (if kd = nI 3 then m_sc f1 (41 + x) (nI u) else f1) ∧ g2 = d_wr3 g1 u x ∧ rl_L f2 g2 h c b b2 ∧ (∀ j, j ≠ 41 + x → f2 j = f1 j) ∧ (∀ j, j ≠ 18 * x + 17 → g2 j = g1 j) := by
    unfold d_wr3
    rw [G1 _ (by omega), hk2, hkd]
    by_cases q : nI ku = nI 3
    · rw [if_pos q, if_pos q]
      exact ⟨_, _, rfl, rfl, rl_hold L1 hx hu, fun j hj => m_sc_ne hj, fun j hj => m_sc_ne hj⟩
    · rw [if_neg q, if_neg q]
      exact ⟨_, _, rfl, rfl, L1, fun j hj => rfl, fun j hj => rfl⟩
  obtain ⟨f2, g2, ef2, eg2, L2, F2, G2⟩ := Bq
  have ec : c_put2 f u x kd y z = c_log f2 u x y z := by
    unfold c_put2
    dsimp only
    rw [← ef1, ← ef2]
  rw [ec, ← eg1, ← eg2]
  have FF : ∀ j, j ≠ 33 + x → j ≠ 41 + x → (j < 176 + 47 * u ∨ 192 + 47 * u ≤ j) → c_log f2 u x y z j = f j := fun j j1 j2 j3 => by
    unfold c_log
    rw [m_sc_ne (by omega), m_sc_ne (by omega), F2 j j2, F1 j j1]
  have GG : ∀ j, 147 ≤ j → (j < 150 + 154 * u + 135 ∨ 150 + 154 * u + 151 ≤ j) → d_lg g2 u x y z j = g j := fun j j1 j2 => by
    unfold d_lg
    rw [m_sc_ne (by omega), m_sc_ne (by omega), G2 j (by omega), G1 j (by omega)]
  refine rl_pt0 (rl_log L2 hu hx ?_ hv) (rl_E_fr hE (fun j j1 j2 => FF j (by omega) (by omega) (by omega)) (fun v hv i i1 i2 => GG _ (by omega) (by omega)) (fun _ _ _ _ => rfl) (fun v hv q => (FF _ (by omega) (by omega) (by omega)).symm.trans q)) (Or.inr ⟨rfl, rfl⟩) ?_ ?_
  · rw [F2 _ (by omega), F1 _ (by omega)]; exact hi
  · rw [FF _ (by omega) (by omega) (by omega)]; exact e1
  · rw [FF _ (by omega) (by omega) (by omega)]; exact e2
theorem rl_put (hL : rl_L f g h c b b2) (hE : rl_E ex f0 nn0 ww0 h0 o0 f g h nn ww oo b b2 k n) (ht : rl_tb f g u c d o) (hu : u < 3) (hx : x < 8) (hb : b < 1000000000) (hb2 : b2 < 1000000000) (hk : k < 1000000) (hv : rl_val y z) (hnr : ¬ f (15 + u) = nI 1) : rl_pt ex f0 nn0 ww0 h0 o0 u c b b2 k (f (6 + u)) (f (3 + u)) (c_put f nn ww u x k y z) (d_wr g h oo u x y z n (c_own f x) (rl_dw f x) (rl_kw f x)) := by
  obtain ⟨v1, v2, v3, v4, v5, v6⟩ := rl_cv hL hx
  have hw := hL.1.2.2.2.2.1
  have ff : ¬ (false = true) := by decide
  have tt : true = true := rfl
  unfold c_put d_wr
  by_cases hi : f (15 + u) = -1
  · have g0 : g (150 + 154 * u + 101) = nI 0 := by
      rcases ht.2.2.1 with ⟨_, k2, _⟩ | ⟨kk, kk4, k2, _⟩
      · exact k2
      · rw [hi] at k2; exact absurd k2.symm (n_ne1' (by omega))
    rw [if_pos hi, if_pos g0]
    exact rl_putO hL hE ht hu hx hi hb hb2 hk hv
  · obtain ⟨ku, ku4, k1, k2, k3⟩ := ht.2.2.1.resolve_left (fun q => hi q.1)
    have g0 : ¬ g (150 + 154 * u + 101) = nI 0 := by rw [k2]; decide
    rw [if_neg hi, if_neg hnr, if_neg g0, hw]
    by_cases h3 : h 1 = nI 3
    · rw [if_pos h3, if_pos h3]
      refine rl_pt0 (rl_log hL hu hx hi hv) (rl_E_fr hE (fun j j1 j2 => ?_) (fun v hv i i1 i2 => ?_) (fun _ _ _ _ => rfl) (fun v hv q => ?_)) (Or.inr ⟨rfl, rfl⟩) ?_ ?_
      · unfold c_log; rw [m_sc_ne (by omega), m_sc_ne (by omega)]
      · unfold d_lg; rw [m_sc_ne (by omega), m_sc_ne (by omega)]
      · unfold c_log at q; rw [m_sc_ne (by omega), m_sc_ne (by omega)] at q; exact q
      · unfold c_log; rw [m_sc_ne (by omega), m_sc_ne (by omega)]
      · unfold c_log; rw [m_sc_ne (by omega), m_sc_ne (by omega)]
    · rw [if_neg h3, if_neg h3]
      have e1 : d_held g u x = c_oth (f (41 + x)) (nI u) := by
        unfold d_held c_oth
        rw [v5]
      rw [e1]
      cases h4 : c_oth (f (41 + x)) (nI u)
      · rw [if_neg ff, if_neg ff]
        unfold d_wfo c_rival
        rw [hw, ← v6]
        cases h5 : (decide (h 1 = nI 1) && c_oth (f (33 + x)) (nI u))
        · rw [if_neg ff, if_neg ff, if_neg ff, if_pos rfl]
          exact rl_put2 hL hE hu hx hi hv k1 k3 k1 rfl rfl
        · rw [Bool.and_eq_true] at h5
          have q2 := h5.2
          unfold c_oth at q2
          rw [Bool.and_eq_true, decide_eq_true_eq, decide_eq_true_eq] at q2
          obtain ⟨w1, w2, w3⟩ := rl_owner hL hx q2.1
          have htw := rl_ownd hL hx q2.1
          have hwu : c_own f x ≠ u := fun e => q2.2 (by rw [w2, e])
          rw [if_pos tt, if_pos tt, if_neg q2.1, rl_elder hL hu w1 hi w3]
          cases h6 : d_eld g u (c_own f x)
          · rw [if_neg ff, if_neg ff]
            dsimp only
            rw [if_pos tt]
            exact rl_pt0 hL hE (Or.inl ⟨rfl, rfl⟩) rfl rfl
          · rw [if_pos tt, if_pos tt]
            dsimp only
            rw [if_neg ff]
            have hd4 := htw.2.2.2.1.2.2.1
            have hok := htw.2.2.2.1.2.2.2.1
            obtain ⟨L2, t2⟩ := rl_anew (rl_toM hL) htw w1 w3
            have E2 := rl_E_anew hE w1 hok hd4 (rl_started htw w3)
            have F : ∀ j, (j < 33 ∨ 41 ≤ j) → (j < 152 + 47 * c_own f x ∨ 192 + 47 * c_own f x ≤ j) → (j < 21 + 4 * c_own f x ∨ 25 + 4 * c_own f x ≤ j) → (j ≠ 145 + 47 * c_own f x ∧ j ≠ 12 + c_own f x ∧ j ≠ 6 + c_own f x ∧ j ≠ 560 ∧ j ≠ 550 + c_own f x) → c_anew f (c_own f x) j = f j := fun j j1 j2 j3 j4 => c_anew_o j1 j2 j3 j4
            have eh : d_anh h 1 = h 1 := m_sc_ne (by omega)
            rw [← eh]
            refine rl_put2 L2 E2 hu hx ?_ hv (ku := ku) ?_ ?_ k1 ?_ ?_
            · rw [F _ (by omega) (by omega) (by omega) (by omega)]; exact hi
            · rw [F _ (by omega) (by omega) (by omega) (by omega)]; exact k1
            · rw [d_anew_o hok hd4 (by omega) (by omega)]; exact k3
            · exact F _ (by omega) (by omega) (by omega) (by omega)
            · exact F _ (by omega) (by omega) (by omega) (by omega)
      · rw [if_pos rfl, if_pos rfl]
        exact rl_pt0 hL hE (Or.inl ⟨rfl, rfl⟩) rfl rfl
end RLU
