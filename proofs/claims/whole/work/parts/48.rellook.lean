/-! class and model alike: reading a cell -/
def rl_lk (ex : Bool) (f0 nn0 ww0 h0 : Nat → Int32) (o0 : m_I) (nn ww : Nat → Int32) (oo : m_I) (u c b b2 k n d o : Nat) (sta : Int32) (p : c_O) (q : d_O) : Prop :=
  (p.1 = nI 0 ∧ q.1 = nI 1 ∧ rl_L p.2.1 q.2.1 q.2.2 c b b2 ∧ rl_E ex f0 nn0 ww0 h0 o0 p.2.1 q.2.1 q.2.2 nn ww oo b b2 k n) ∨
  (p.1 = nI 6 ∧ q.1 = nI 0 ∧ rl_L p.2.1 q.2.1 q.2.2 c b b2 ∧ rl_E ex f0 nn0 ww0 h0 o0 p.2.1 q.2.1 q.2.2 nn ww oo b b2 k n ∧ rl_tb p.2.1 q.2.1 u c d o ∧ q.2.2 22 = p.2.2 2 ∧ q.2.2 23 = p.2.2 3 ∧ rl_val (p.2.2 2) (p.2.2 3) ∧ p.2.1 (3 + u) = sta) ∨
  (p.1 = nI 2 ∧ q.1 = nI 2 ∧ rl_L (c_anew p.2.1 u) q.2.1 q.2.2 c b b2 ∧ rl_E ex f0 nn0 ww0 h0 o0 (c_anew p.2.1 u) q.2.1 q.2.2 nn ww oo b b2 k n)
section RLT
variable {ex : Bool} {f g h f' g' h' nn ww f0 nn0 ww0 h0 g26 : Nat → Int32} {oo o0 : m_I} {u v w x k r c c' b b2 d o n p j : Nat} {y z va : Int32}
theorem rl_tb_of (hL : rl_L f' g' h' c' b b2) (ht : rl_tb f g u c d o) (hu : u < 3) (e12 : f' (12 + u) = f (12 + u)) (e15 : f' (15 + u) = f (15 + u)) (e147 : f' (147 + 47 * u) = f (147 + 47 * u)) : rl_tb f' g' u c' d o := by
  obtain ⟨d', o', h1⟩ := hL.2.1 u hu
  obtain ⟨a1, a2, a3, a4, a5, a6⟩ := h1.2.2.2.1
  obtain ⟨b1, b3, b4, b5, b6, b7⟩ := ht.2.2.2.1
  rw [e12, b1, n_eq (by omega) (by omega)] at a1
  rw [c_outer_fr e15 e147, b6, n_eq (by omega) (by omega)] at a5
  subst a1
  subst a5
  exact h1
theorem rl_vh (hL : rl_L f g h c b b2) (hb : b2 < 2147483648) : rl_L f g (d_vh h y z) c b b2 := by
  have e : ∀ j, j ≠ 22 → j ≠ 23 → d_vh h y z j = h j := fun j j1 j2 => by unfold d_vh; rw [m_sc_ne j2, m_sc_ne j1]
  exact rl_h2 hL (e 1 (by omega) (by omega)) ((e 2 (by omega) (by omega)).trans hL.2.2.2.2.2.2.1) (Nat.le_refl _) hb
theorem rl_E_vh (hE : rl_E ex f0 nn0 ww0 h0 o0 f g h nn ww oo b b2 k n) : rl_E ex f0 nn0 ww0 h0 o0 f g (d_vh h y z) nn ww oo b b2 k n :=
  rl_E_fr hE (fun _ _ _ => rfl) (fun _ _ _ _ _ => rfl) (fun j j1 j2 j3 => by unfold d_vh; rw [m_sc_ne j3, m_sc_ne j2]) (fun _ _ q => q)
theorem d_vh_22 : d_vh h y z 22 = y := by unfold d_vh; rw [m_sc_ne (by omega), m_sc_self]
theorem d_vh_23 : d_vh h y z 23 = z := by unfold d_vh; rw [m_sc_self]
theorem c_f2_2 : m_sc (m_sc g26 2 y) 3 z 2 = y := by rw [m_sc_ne (by omega), m_sc_self]
theorem c_f2_3 : m_sc (m_sc g26 2 y) 3 z 3 = z := m_sc_self
theorem c_see_o (hu : u < 3) (hx : x < 8) (h : j < 160 + 47 * u ∨ 176 + 47 * u ≤ j) : c_see f u x r j = f j := by
  unfold c_see
  split
  · rw [m_sc_ne (by omega), m_sc_ne (by omega)]
  · rfl
/-- a value is found at hand -/
theorem rl_found (hL : rl_L f g h c b b2) (hE : rl_E ex f0 nn0 ww0 h0 o0 f g h nn ww oo b b2 k n) (ht : rl_tb f g u c d o) (hb : b2 < 2147483648) (hv : rl_val y z) : rl_lk ex f0 nn0 ww0 h0 o0 nn ww oo u c b b2 k n d o (f (3 + u)) (c_find f g26 y z) (nI 0, g, d_vh h y z) :=
  Or.inr (Or.inl ⟨rfl, rfl, rl_vh hL hb, rl_E_vh hE, ht, by unfold c_find; dsimp only; rw [d_vh_22, c_f2_2], by unfold c_find; dsimp only; rw [d_vh_23, c_f2_3], by
    unfold c_find; dsimp only; rw [c_f2_2, c_f2_3]; exact hv, rfl⟩)
/-- a value is seen -/
theorem rl_seeR (hL : rl_L f g h c b b2) (hE : rl_E ex f0 nn0 ww0 h0 o0 f g h nn ww oo b b2 k n) (ht : rl_tb f g u c d o) (hu : u < 3) (hx : x < 8) (hi : ¬ f (15 + u) = -1) (hb : b2 < 2147483648) (hst : f (3 + u) = va) (ey : f (49 + r + x) = y) (ez : f (57 + r + x) = z) (hv : rl_val y z) : rl_lk ex f0 nn0 ww0 h0 o0 nn ww oo u c b b2 k n d o va (c_seeR f g26 u x r) (nI 0, d_seen g u x y z, d_vh h y z) := by
  have S : ∀ j, (j < 160 + 47 * u ∨ 176 + 47 * u ≤ j) → c_see f u x r j = f j := fun j hj => c_see_o hu hx hj
  have hL2 := rl_see hL hu hx hi ey ez
  refine Or.inr (Or.inl ⟨rfl, rfl, rl_vh hL2 hb, rl_E_vh (rl_E_fr hE (fun j j1 j2 => S j (by omega)) (fun v hv i i1 i2 => d_seen_o hx (by omega)) (fun _ _ _ _ => rfl) (fun v hv q => (S _ (by omega)).symm.trans q)), rl_tb_of hL2 ht hu (S _ (by omega)) (S _ (by omega)) (S _ (by omega)), ?_, ?_, ?_, ?_⟩)
  · unfold c_seeR; dsimp only; rw [d_vh_22, c_f2_2, ey]
  · unfold c_seeR; dsimp only; rw [d_vh_23, c_f2_3, ez]
  · unfold c_seeR; dsimp only; rw [c_f2_2, c_f2_3, ey, ez]; exact hv
  · exact (S _ (by omega)).trans hst
/-- begun anew out of a reading -/
theorem rl_lkA (hL : rl_L f g h c b b2) (hE : rl_E ex f0 nn0 ww0 h0 o0 f g h nn ww oo b b2 k n) (ht : rl_tb f g u c d o) (hu : u < 3) (hi : ¬ f (15 + u) = -1) : rl_lk ex f0 nn0 ww0 h0 o0 nn ww oo u c b b2 k n d o va (nI 2, f, g26) (nI 2, d_anew g u d o, d_anh h) :=
  Or.inr (Or.inr ⟨rfl, rfl, (rl_anew (rl_toM hL) ht hu hi).1, rl_E_anew hE hu ht.2.2.2.1.2.2.2.1 ht.2.2.2.1.2.2.1 (rl_started ht hi)⟩)
theorem rl_cv (hL : rl_L f g h c b b2) (hx : x < 8) : rl_val (f (49 + x)) (f (57 + x)) ∧ f (49 + x) = g (18 * x) ∧ f (57 + x) = g (18 * x + 1) ∧ f (65 + x) = g (18 * x + 2) ∧ f (41 + x) = g (18 * x + 17) ∧ f (33 + x) = g (18 * x + 16) := by
  obtain ⟨n, a1, a2, a3, a4, a5, a6, a7, a8, a9, a10⟩ := hL.2.2.1 x hx
  obtain ⟨b1, b3, b4, b5, b6⟩ := (a10 0 (by omega)).1 (by omega)
  simp only [Nat.mul_zero, Nat.add_zero] at b6
  exact ⟨b6, a6, a7, a8, a5, a4⟩
theorem rl_E_come (hE : rl_E ex f0 nn0 ww0 h0 o0 f g h nn ww oo b b2 k n) (hu : u < 3) (hx : x < 8) : rl_E ex f0 nn0 ww0 h0 o0 (m_sc f (152 + 47 * u + x) y) (m_sc g (150 + 154 * u + 111 + x) z) h nn ww oo b b2 k n :=
  rl_E_fr hE (fun j j1 j2 => m_sc_ne (by omega)) (fun v hv i i1 i2 => m_sc_ne (by omega)) (fun _ _ _ _ => rfl) (fun v hv q => (m_sc_ne (by omega)).symm.trans q)
/-- seen, once it has come to what was read -/
theorem rl_comesee (hL : rl_L f g h c b b2) (hE : rl_E ex f0 nn0 ww0 h0 o0 f g h nn ww oo b b2 k n) (ht : rl_tb f g u c d o) (hu : u < 3) (hx : x < 8) (hi : ¬ f (15 + u) = -1) (hb : b2 < 2147483648) (hst : f (3 + u) = va) : rl_lk ex f0 nn0 ww0 h0 o0 nn ww oo u c b b2 k n d o va (c_seeR (m_sc f (152 + 47 * u + x) (f (65 + x))) g26 u x 0) (d_fin (m_sc g (150 + 154 * u + 111 + x) (g (18 * x + 2))) h u x) := by
  obtain ⟨v1, v2, v3, v4, v5, v6⟩ := rl_cv hL hx
  have hL2 := rl_come hL hu hx hi
  have ht2 := rl_tb_of hL2 ht hu (m_sc_ne (by omega)) (m_sc_ne (by omega)) (m_sc_ne (by omega))
  have e1 : m_sc f (152 + 47 * u + x) (f (65 + x)) (49 + x) = f (49 + x) := m_sc_ne (by omega)
  have e2 : m_sc f (152 + 47 * u + x) (f (65 + x)) (57 + x) = f (57 + x) := m_sc_ne (by omega)
  have e3 : m_sc g (150 + 154 * u + 111 + x) (g (18 * x + 2)) (18 * x) = g (18 * x) := m_sc_ne (by omega)
  have e4 : m_sc g (150 + 154 * u + 111 + x) (g (18 * x + 2)) (18 * x + 1) = g (18 * x + 1) := m_sc_ne (by omega)
  unfold d_fin
  rw [e3, e4]
  exact rl_seeR (r := 0) hL2 (rl_E_come hE hu hx) ht2 hu hx (by rw [m_sc_ne (by omega)]; exact hi) hb (by rw [m_sc_ne (by omega)]; exact hst) (e1.trans v2) (e2.trans v3) (by rw [← v2, ← v3]; exact v1)
theorem rl_plainsee (hL : rl_L f g h c b b2) (hE : rl_E ex f0 nn0 ww0 h0 o0 f g h nn ww oo b b2 k n) (ht : rl_tb f g u c d o) (hu : u < 3) (hx : x < 8) (hi : ¬ f (15 + u) = -1) (hb : b2 < 2147483648) (hst : f (3 + u) = va) : rl_lk ex f0 nn0 ww0 h0 o0 nn ww oo u c b b2 k n d o va (c_seeR f g26 u x 0) (d_fin g h u x) := by
  obtain ⟨v1, v2, v3, v4, v5, v6⟩ := rl_cv hL hx
  unfold d_fin
  exact rl_seeR (r := 0) hL hE ht hu hx hi hb hst v2 v3 (by rw [← v2, ← v3]; exact v1)
/-- by the clock -/
theorem rl_clk (hL : rl_L f g h c b b2) (hE : rl_E ex f0 nn0 ww0 h0 o0 f g h nn ww oo b b2 k n) (ht : rl_tb f g u c d o) (hu : u < 3) (hx : x < 8) (hi : ¬ f (15 + u) = -1) (hb : b2 < 2147483648) (hst : f (3 + u) = va) : rl_lk ex f0 nn0 ww0 h0 o0 nn ww oo u c b b2 k n d o va (c_clkR f g26 u x) (if ¬ g (150 + 154 * u + 111 + x) = -1 then (if g (150 + 154 * u + 111 + x) = g (18 * x + 2) then d_fin g h u x else (nI 2, d_anew g u d o, d_anh h)) else if g (18 * x + 2) ≤ g (150 + 154 * u + 103) then d_fin (m_sc g (150 + 154 * u + 111 + x) (g (18 * x + 2))) h u x else if d_ch g u then (nI 2, d_anew g u d o, d_anh h) else d_fin (m_sc (m_sc g (150 + 154 * u + 103) (g 144)) (150 + 154 * u + 111 + x) (g (18 * x + 2))) h u x) := by
  obtain ⟨v1, v2, v3, v4, v5, v6⟩ := rl_cv hL hx
  have er := (ht.2.2.2.2.2.1 x hx).1
  have es := (ht.2.2.2.2.1.2 hi).1
  have est := rl_stale hL hu
  have ff : ¬ (false = true) := by decide
  unfold c_clkR
  rw [← er, ← v4, ← es, ← est]
  by_cases h1 : f (152 + 47 * u + x) = -1
  · have ec : c_come f u x = m_sc f (152 + 47 * u + x) (f (65 + x)) := if_pos h1
    have c1 : ¬ (decide (¬ f (152 + 47 * u + x) = -1) && decide (¬ f (152 + 47 * u + x) = f (65 + x))) = true := by simp [h1]
    have c2 : ¬ ¬ f (152 + 47 * u + x) = -1 := fun q => q h1
    rw [if_neg c1, if_neg c2]
    by_cases h2 : f (65 + x) ≤ f (145 + 47 * u)
    · have c3 : ¬ (decide (f (152 + 47 * u + x) = -1) && decide (f (145 + 47 * u) < f (65 + x))) = true := by simp [h1, h2]
      rw [if_neg c3, if_pos h2, ec, v4]
      have := rl_comesee (g26 := g26) hL hE ht hu hx hi hb hst
      rw [v4] at this
      exact this
    · have c3 : (decide (f (152 + 47 * u + x) = -1) && decide (f (145 + 47 * u) < f (65 + x))) = true := by simp [h1, Int32.not_le.mp h2]
      rw [if_pos c3, if_neg h2]
      cases h3 : c_stale f u
      · rw [if_neg ff, if_neg ff]
        have hL2 := rl_start hL hu hi
        have ht2 := rl_tb_of hL2 ht hu (m_sc_ne (by omega)) (m_sc_ne (by omega)) (m_sc_ne (by omega))
        have hE2 : rl_E ex f0 nn0 ww0 h0 o0 (m_sc f (145 + 47 * u) (f 0)) (m_sc g (150 + 154 * u + 103) (g 144)) h nn ww oo b b2 k n := rl_E_fr hE (fun j j1 j2 => m_sc_ne (by omega)) (fun v hv i i1 i2 => m_sc_ne (by omega)) (fun _ _ _ _ => rfl) (fun v hv q => (m_sc_ne (by omega)).symm.trans q)
        have := rl_comesee (x := x) (g26 := g26) (va := va) hL2 hE2 ht2 hu hx (by rw [m_sc_ne (by omega)]; exact hi) hb (by rw [m_sc_ne (by omega)]; exact hst)
        have e1 : m_sc f (145 + 47 * u) (f 0) (65 + x) = f (65 + x) := m_sc_ne (by omega)
        have e2 : m_sc g (150 + 154 * u + 103) (g 144) (18 * x + 2) = g (18 * x + 2) := m_sc_ne (by omega)
        rw [e1, e2, v4] at this
        have ec2 : c_come (m_sc f (145 + 47 * u) (f 0)) u x = m_sc (m_sc f (145 + 47 * u) (f 0)) (152 + 47 * u + x) (f (65 + x)) := by
          unfold c_come
          rw [m_sc_ne (by omega), if_pos h1, e1]
        rw [ec2, v4]
        exact this
      · rw [if_pos rfl, if_pos rfl]
        exact rl_lkA hL hE ht hu hi
  · have ec : c_come f u x = f := if_neg h1
    have c3 : ¬ (decide (f (152 + 47 * u + x) = -1) && decide (f (145 + 47 * u) < f (65 + x))) = true := by simp [h1]
    rw [if_pos h1]
    by_cases h2 : f (152 + 47 * u + x) = f (65 + x)
    · have c1 : ¬ (decide (¬ f (152 + 47 * u + x) = -1) && decide (¬ f (152 + 47 * u + x) = f (65 + x))) = true := by simp [h2]
      rw [if_neg c1, if_neg c3, if_pos h2, ec]
      exact rl_plainsee hL hE ht hu hx hi hb hst
    · have c1 : (decide (¬ f (152 + 47 * u + x) = -1) && decide (¬ f (152 + 47 * u + x) = f (65 + x))) = true := by simp [h1, h2]
      rw [if_pos c1, if_neg h2]
      exact rl_lkA hL hE ht hu hi
/-- by a picture -/
theorem rl_pic (hL : rl_L f g h c b b2) (hE : rl_E ex f0 nn0 ww0 h0 o0 f g h nn ww oo b b2 k n) (ht : rl_tb f g u c d o) (hu : u < 3) (hx : x < 8) (hi : ¬ f (15 + u) = -1) (hb : b2 < 2147483648) (hst : f (3 + u) = va) (hc : c < 1000000000) {cx : Nat} (hcx : rl_cb f g x c cx) : rl_lk ex f0 nn0 ww0 h0 o0 nn ww oo u c b b2 k n d o va (c_picR f g26 u x) (d_pic g h u x cx d o) := by
  have es := (ht.2.2.2.2.1.2 hi).1
  obtain ⟨a1, a2, a3, a4, a5, a6, a7, a8, a9, a10⟩ := hcx
  have ok : ∀ i, i < cx → (c_pok f u x (24 * i) = decide (g (18 * x + 3 + 3 * i + 2) ≤ g (150 + 154 * u + 103))) ∧ rl_lk ex f0 nn0 ww0 h0 o0 nn ww oo u c b b2 k n d o va (c_seeR f g26 u x (24 * i)) (nI 0, d_seen g u x (g (18 * x + 3 + 3 * i)) (g (18 * x + 3 + 3 * i + 1)), d_vh h (g (18 * x + 3 + 3 * i)) (g (18 * x + 3 + 3 * i + 1))) := by
    intro i hi2
    obtain ⟨b1, b3, b4, ⟨s, s1, s2⟩, b6⟩ := (a10 i (by omega)).1 hi2
    refine ⟨?_, rl_seeR hL hE ht hu hx hi hb hst b1 b3 (by rw [← b1, ← b3]; exact b6)⟩
    unfold c_pok
    rw [b4] at s2
    rw [b4, es]
    have hne : ¬ g (18 * x + 3 + 3 * i + 2) = -1 := by
      rw [s2]
      exact n_ne1' (by omega)
    simp [hne]
  have no : ∀ i, i < 4 → cx ≤ i → c_pok f u x (24 * i) = false := by
    intro i hi4 hi2
    obtain ⟨b1, b3, b4, _⟩ := (a10 i hi4).2 hi2
    unfold c_pok
    rw [b4]
    simp
  have ff : ¬ (false = true) := by decide
  have step : ∀ i m, d_pk g u x i (m + 1) = if g (18 * x + 3 + 3 * i + 2) ≤ g (150 + 154 * u + 103) then some i else d_pk g u x (i + 1) m := fun _ _ => rfl
  unfold c_picR d_pic
  obtain rfl | rfl | rfl | rfl : cx = 1 ∨ cx = 2 ∨ cx = 3 ∨ cx = 4 := by omega
  · have z0 : c_pok f u x 0 = decide (g (18 * x + 3 + 3 * 0 + 2) ≤ g (150 + 154 * u + 103)) := (ok 0 (by omega)).1
    have z1 : c_pok f u x 24 = false := no 1 (by omega) (by omega)
    have z2 : c_pok f u x 48 = false := no 2 (by omega) (by omega)
    have z3 : c_pok f u x 72 = false := no 3 (by omega) (by omega)
    rw [z0, z1, z2, z3]
    rw [step 0 0]
    by_cases p0 : g (18 * x + 3 + 3 * 0 + 2) ≤ g (150 + 154 * u + 103)
    · rw [if_pos p0, decide_eq_true p0, if_pos rfl]
      exact (ok 0 (by omega)).2
    · rw [if_neg p0, decide_eq_false p0, if_neg ff]
      rw [if_neg ff]
      exact rl_lkA hL hE ht hu hi
  · have z0 : c_pok f u x 0 = decide (g (18 * x + 3 + 3 * 0 + 2) ≤ g (150 + 154 * u + 103)) := (ok 0 (by omega)).1
    have z1 : c_pok f u x 24 = decide (g (18 * x + 3 + 3 * 1 + 2) ≤ g (150 + 154 * u + 103)) := (ok 1 (by omega)).1
    have z2 : c_pok f u x 48 = false := no 2 (by omega) (by omega)
    have z3 : c_pok f u x 72 = false := no 3 (by omega) (by omega)
    rw [z0, z1, z2, z3]
    rw [step 0 1]
    by_cases p0 : g (18 * x + 3 + 3 * 0 + 2) ≤ g (150 + 154 * u + 103)
    · rw [if_pos p0, decide_eq_true p0, if_pos rfl]
      exact (ok 0 (by omega)).2
    · rw [if_neg p0, decide_eq_false p0, if_neg ff]
      rw [step 1 0]
      by_cases p1 : g (18 * x + 3 + 3 * 1 + 2) ≤ g (150 + 154 * u + 103)
      · rw [if_pos p1, decide_eq_true p1, if_pos rfl]
        exact (ok 1 (by omega)).2
      · rw [if_neg p1, decide_eq_false p1, if_neg ff]
        rw [if_neg ff]
        exact rl_lkA hL hE ht hu hi
  · have z0 : c_pok f u x 0 = decide (g (18 * x + 3 + 3 * 0 + 2) ≤ g (150 + 154 * u + 103)) := (ok 0 (by omega)).1
    have z1 : c_pok f u x 24 = decide (g (18 * x + 3 + 3 * 1 + 2) ≤ g (150 + 154 * u + 103)) := (ok 1 (by omega)).1
    have z2 : c_pok f u x 48 = decide (g (18 * x + 3 + 3 * 2 + 2) ≤ g (150 + 154 * u + 103)) := (ok 2 (by omega)).1
    have z3 : c_pok f u x 72 = false := no 3 (by omega) (by omega)
    rw [z0, z1, z2, z3]
    rw [step 0 2]
    by_cases p0 : g (18 * x + 3 + 3 * 0 + 2) ≤ g (150 + 154 * u + 103)
    · rw [if_pos p0, decide_eq_true p0, if_pos rfl]
      exact (ok 0 (by omega)).2
    · rw [if_neg p0, decide_eq_false p0, if_neg ff]
      rw [step 1 1]
      by_cases p1 : g (18 * x + 3 + 3 * 1 + 2) ≤ g (150 + 154 * u + 103)
      · rw [if_pos p1, decide_eq_true p1, if_pos rfl]
        exact (ok 1 (by omega)).2
      · rw [if_neg p1, decide_eq_false p1, if_neg ff]
        rw [step 2 0]
        by_cases p2 : g (18 * x + 3 + 3 * 2 + 2) ≤ g (150 + 154 * u + 103)
        · rw [if_pos p2, decide_eq_true p2, if_pos rfl]
          exact (ok 2 (by omega)).2
        · rw [if_neg p2, decide_eq_false p2, if_neg ff]
          rw [if_neg ff]
          exact rl_lkA hL hE ht hu hi
  · have z0 : c_pok f u x 0 = decide (g (18 * x + 3 + 3 * 0 + 2) ≤ g (150 + 154 * u + 103)) := (ok 0 (by omega)).1
    have z1 : c_pok f u x 24 = decide (g (18 * x + 3 + 3 * 1 + 2) ≤ g (150 + 154 * u + 103)) := (ok 1 (by omega)).1
    have z2 : c_pok f u x 48 = decide (g (18 * x + 3 + 3 * 2 + 2) ≤ g (150 + 154 * u + 103)) := (ok 2 (by omega)).1
    have z3 : c_pok f u x 72 = decide (g (18 * x + 3 + 3 * 3 + 2) ≤ g (150 + 154 * u + 103)) := (ok 3 (by omega)).1
    rw [z0, z1, z2, z3]
    rw [step 0 3]
    by_cases p0 : g (18 * x + 3 + 3 * 0 + 2) ≤ g (150 + 154 * u + 103)
    · rw [if_pos p0, decide_eq_true p0, if_pos rfl]
      exact (ok 0 (by omega)).2
    · rw [if_neg p0, decide_eq_false p0, if_neg ff]
      rw [step 1 2]
      by_cases p1 : g (18 * x + 3 + 3 * 1 + 2) ≤ g (150 + 154 * u + 103)
      · rw [if_pos p1, decide_eq_true p1, if_pos rfl]
        exact (ok 1 (by omega)).2
      · rw [if_neg p1, decide_eq_false p1, if_neg ff]
        rw [step 2 1]
        by_cases p2 : g (18 * x + 3 + 3 * 2 + 2) ≤ g (150 + 154 * u + 103)
        · rw [if_pos p2, decide_eq_true p2, if_pos rfl]
          exact (ok 2 (by omega)).2
        · rw [if_neg p2, decide_eq_false p2, if_neg ff]
          rw [step 3 0]
          by_cases p3 : g (18 * x + 3 + 3 * 3 + 2) ≤ g (150 + 154 * u + 103)
          · rw [if_pos p3, decide_eq_true p3, if_pos rfl]
            exact (ok 3 (by omega)).2
          · rw [if_neg p3, decide_eq_false p3, if_neg ff]
            exact rl_lkA hL hE ht hu hi
end RLT
