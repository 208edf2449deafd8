/-! class and model alike: values change, it counts -/
section LK5
variable {f g : Nat → Int32} {u x k i j : Nat} {y z : Int32}
theorem c_change_n (h : ∀ m, m < 12 → j ≠ 49 + 8 * m + x) : c_change f x y z j = f j := by
  have h0 := h 0 (by omega)
  have h1 := h 1 (by omega)
  have h2 := h 2 (by omega)
  have h3 := h 3 (by omega)
  have h4 := h 4 (by omega)
  have h5 := h 5 (by omega)
  have h6 := h 6 (by omega)
  have h7 := h 7 (by omega)
  have h8 := h 8 (by omega)
  have h9 := h 9 (by omega)
  have h10 := h 10 (by omega)
  have h11 := h 11 (by omega)
  unfold c_change c_chg
  rw [m_sc_ne (by omega), m_sc_ne (by omega), m_sc_ne (by omega), m_sc_ne (by omega), m_sc_ne (by omega), m_sc_ne (by omega), m_sc_ne (by omega), m_sc_ne (by omega), m_sc_ne (by omega), m_sc_ne (by omega), m_sc_ne (by omega), m_sc_ne (by omega)]
theorem c_change_0 (hx : x < 8) : c_change f x y z (49 + x) = y := by
  unfold c_change
  rw [m_sc_ne (by omega), m_sc_ne (by omega), m_sc_self]
theorem c_change_1 (hx : x < 8) : c_change f x y z (57 + x) = z := by
  unfold c_change
  rw [m_sc_ne (by omega), m_sc_self]
theorem c_change_2 (hx : x < 8) : c_change f x y z (65 + x) = f 0 := by
  unfold c_change
  rw [m_sc_self]
theorem c_change_s (hx : x < 8) (hk : k < 3) (hi : i < 3) (hj : j = 73 + 24 * k + 8 * i + x) : c_change f x y z j = f (j - 24) := by
  subst hj
  obtain rfl | rfl | rfl : k = 0 ∨ k = 1 ∨ k = 2 := by omega
  all_goals obtain rfl | rfl | rfl : i = 0 ∨ i = 1 ∨ i = 2 := by omega
  all_goals
    unfold c_change c_chg
    simp (disch := omega) only [m_sc_ne, scE]
    exact congrArg f (by omega)
theorem d_bec_o2 (h : j < 18 * x ∨ 18 * x + 16 ≤ j) : d_bec g x y z j = g j := by
  unfold d_bec
  rw [m_sc_ne (by omega)]
  unfold d_bc2
  rw [m_sc_ne (by omega), m_sc_ne (by omega), m_sc_ne (by omega)]
  refine (if_neg (by omega)).trans ?_
  unfold d_bc1
  rw [m_sc_ne (by omega), m_sc_ne (by omega), m_sc_ne (by omega)]
theorem d_bec_a : d_bec g x y z (18 * x) = y ∧ d_bec g x y z (18 * x + 1) = z ∧ d_bec g x y z (18 * x + 2) = g 144 := by
  unfold d_bec d_bc2
  refine ⟨?_, ?_, ?_⟩
  all_goals
    rw [m_sc_ne (by omega), m_sc_ne (by omega), m_sc_ne (by omega), m_sc_ne (by omega)]
    refine (if_neg (by omega)).trans ?_
    unfold d_bc1
  · rw [m_sc_ne (by omega), m_sc_ne (by omega), m_sc_self]
  · rw [m_sc_ne (by omega), m_sc_self]
  · rw [m_sc_self]
theorem d_bec_b : d_bec g x y z (18 * x + 3) = y ∧ d_bec g x y z (18 * x + 3 + 1) = z ∧ d_bec g x y z (18 * x + 3 + 2) = g 144 := by
  unfold d_bec d_bc2
  refine ⟨?_, ?_, ?_⟩
  · rw [m_sc_ne (by omega), m_sc_ne (by omega), m_sc_ne (by omega), m_sc_self]
  · rw [m_sc_ne (by omega), m_sc_ne (by omega), m_sc_self]
  · rw [m_sc_ne (by omega), m_sc_self]
theorem d_bec_s (h1 : 18 * x + 6 ≤ j) (h2 : j ≤ 18 * x + 14) : d_bec g x y z j = g (j - 3) := by
  unfold d_bec d_bc2
  rw [m_sc_ne (by omega), m_sc_ne (by omega), m_sc_ne (by omega), m_sc_ne (by omega)]
  refine (if_pos (by omega)).trans ?_
  unfold d_bc1
  rw [m_sc_ne (by omega), m_sc_ne (by omega), m_sc_ne (by omega)]
theorem d_bec_c : d_bec g x y z (18 * x + 15) = if g (18 * x + 15) < nI 4 then g (18 * x + 15) + nI 1 else nI 4 := by
  have e : d_bc2 g x y z (18 * x + 15) = g (18 * x + 15) := by
    unfold d_bc2
    rw [m_sc_ne (by omega), m_sc_ne (by omega), m_sc_ne (by omega)]
    refine (if_neg (by omega)).trans ?_
    unfold d_bc1
    rw [m_sc_ne (by omega), m_sc_ne (by omega), m_sc_ne (by omega)]
  unfold d_bec
  rw [m_sc_self, e]
end LK5
section RLR
variable {f g h f' g' h' : Nat → Int32} {u v w x k r c b b2 d o n p : Nat} {y z : Int32}
theorem rl_cb_chg (hx : x < 8) (hcb : rl_cb f g x c n) (h0 : f 0 = nI c) (h1 : g 144 = nI c) (hc : 0 < c) (hv : rl_val y z) : rl_cb (c_change f x y z) (d_bec g x y z) x c (if n < 4 then n + 1 else 4) := by
  obtain ⟨a1, a2, a3, a4, a5, a6, a7, a8, a9, a10⟩ := hcb
  obtain ⟨m, hm⟩ : ∃ m, m = (if n < 4 then n + 1 else 4) := ⟨_, rfl⟩
  rw [← hm]
  have hm1 : (n < 4 ∧ m = n + 1) ∨ (n = 4 ∧ m = 4) := by
    rw [hm]
    by_cases h4 : n < 4
    · rw [if_pos h4]; omega
    · rw [if_neg h4]; omega
  clear hm
  refine ⟨by omega, by omega, ?_, ?_, ?_, ?_, ?_, ?_, fun q => by omega, fun k hk => ?_⟩
  · rw [d_bec_c, a3]
    by_cases h4 : n < 4
    · rw [if_pos (by rw [n_lt (by omega) (by omega)]; exact h4), nI_add]
      congr 1; omega
    · rw [if_neg (by rw [n_lt (by omega) (by omega)]; exact h4)]
      congr 1; omega
  · rw [c_change_n (by omega), d_bec_o2 (by omega)]; exact a4
  · rw [c_change_n (by omega), d_bec_o2 (by omega)]; exact a5
  · rw [c_change_0 hx, d_bec_a.1]
  · rw [c_change_1 hx, d_bec_a.2.1]
  · rw [c_change_2 hx, d_bec_a.2.2, h0, h1]
  · cases k with
    | zero =>
      refine ⟨fun _ => ?_, fun q => by omega⟩
      have e1 := c_change_0 (f := f) (y := y) (z := z) hx
      have e2 := c_change_1 (f := f) (y := y) (z := z) hx
      have e3 := c_change_2 (f := f) (y := y) (z := z) hx
      obtain ⟨b1, b3, b4⟩ := d_bec_b (g := g) (x := x) (y := y) (z := z)
      simp only [Nat.mul_zero, Nat.add_zero]
      rw [e1, e2, e3, b1, b3, b4, h0, h1]
      exact ⟨rfl, rfl, rfl, ⟨c, Nat.le_refl _, rfl⟩, hv⟩
    | succ k =>
      have hk3 : k < 3 := by omega
      have z1 : k + 1 < m → k < n := by omega
      have z2 : m ≤ k + 1 → n ≤ k := by omega
      have hk4 : k < 4 := by omega
      rw [c_change_s (k := k) (i := 0) hx hk3 (by omega) (by omega), c_change_s (k := k) (i := 1) hx hk3 (by omega) (by omega), c_change_s (k := k) (i := 2) hx hk3 (by omega) (by omega), d_bec_s (by omega) (by omega), d_bec_s (by omega) (by omega), d_bec_s (by omega) (by omega)]
      rw [show 49 + 24 * (k + 1) + x - 24 = 49 + 24 * k + x by omega, show 57 + 24 * (k + 1) + x - 24 = 57 + 24 * k + x by omega, show 65 + 24 * (k + 1) + x - 24 = 65 + 24 * k + x by omega, show 18 * x + 3 + 3 * (k + 1) - 3 = 18 * x + 3 + 3 * k by omega, show 18 * x + 3 + 3 * (k + 1) + 1 - 3 = 18 * x + 3 + 3 * k + 1 by omega, show 18 * x + 3 + 3 * (k + 1) + 2 - 3 = 18 * x + 3 + 3 * k + 2 by omega]
      exact ⟨fun q => (a10 k hk4).1 (z1 q), fun q => (a10 k hk4).2 (z2 q)⟩
theorem rl_chgM (hM : rl_M f g h w c b b2) (hx : x < 8) (hc : 0 < c) (hv : rl_val y z) (hlk : f 564 = nI 3 → ∀ v, v < 3 → v ≠ w → f (15 + v) = -1 ∨ f (3 + v) = nI 4) : rl_M (c_change f x y z) (d_bec g x y z) h w c b b2 := by
  obtain ⟨h1, h2, h3, h4, h5, h6⟩ := hM
  have F : ∀ j, j < 49 ∨ 145 ≤ j → c_change f x y z j = f j := fun j hj => c_change_o hx hj
  have G : ∀ j, 144 ≤ j → d_bec g x y z j = g j := fun j hj => d_bec_o hx hj
  refine ⟨rl_gl_fr h1 (F _ (by omega)) (F _ (by omega)) (F _ (by omega)) (F _ (by omega)) (fun j j1 j2 => G j j1) rfl, fun v hv => rl_th_fr (h2 v hv) (fun j hj => F j (by unfold rl_ci at hj; omega)) (fun j j1 j2 => G j (by omega)), fun i hi => ?_, rl_ow_fr h4 (fun j j1 j2 => F j (by omega)) (fun v hv => F _ (by omega)), fun q v hv z1 z2 => ?_, rl_ag_fr h6 (F _ (by omega)) rfl (fun v hv => F _ (by omega)) (fun v hv => F _ (by omega)) (fun v hv => G _ (by omega))⟩
  · obtain ⟨n, hn⟩ := h3 i hi
    by_cases hix : i = x
    · subst hix
      exact ⟨_, rl_cb_chg hi hn h1.1 h1.2.1 hc hv⟩
    · obtain ⟨a1, a2, a3, a4, a5, a6, a7, a8, a9, a10⟩ := hn
      have F2 : ∀ m, m < 12 → c_change f x y z (49 + 8 * m + i) = f (49 + 8 * m + i) := fun m hm => c_change_n (by omega)
      have G2 : ∀ j, 18 * i ≤ j → j < 18 * i + 18 → d_bec g x y z j = g j := fun j j1 j2 => d_bec_o2 (by omega)
      refine ⟨n, a1, a2, (G2 _ (by omega) (by omega)).trans a3, (F _ (by omega)).trans (a4.trans (G2 _ (by omega) (by omega)).symm), (F _ (by omega)).trans (a5.trans (G2 _ (by omega) (by omega)).symm), (F2 0 (by omega)).trans (a6.trans (G2 _ (by omega) (by omega)).symm), ?_, ?_, a9, fun k hk => ?_⟩
      · rw [show 57 + i = 49 + 8 * 1 + i by omega, F2 1 (by omega), G2 _ (by omega) (by omega)]; exact a7
      · rw [show 65 + i = 49 + 8 * 2 + i by omega, F2 2 (by omega), G2 _ (by omega) (by omega)]; exact a8
      · rw [show 49 + 24 * k + i = 49 + 8 * (3 * k) + i by omega, F2 (3 * k) (by omega), show 57 + 24 * k + i = 49 + 8 * (3 * k + 1) + i by omega, F2 (3 * k + 1) (by omega), show 65 + 24 * k + i = 49 + 8 * (3 * k + 2) + i by omega, F2 (3 * k + 2) (by omega), G2 (18 * i + 3 + 3 * k) (by omega) (by omega), G2 (18 * i + 3 + 3 * k + 1) (by omega) (by omega), G2 (18 * i + 3 + 3 * k + 2) (by omega) (by omega), ← show 49 + 24 * k + i = 49 + 8 * (3 * k) + i by omega, ← show 57 + 24 * k + i = 49 + 8 * (3 * k + 1) + i by omega, ← show 65 + 24 * k + i = 49 + 8 * (3 * k + 2) + i by omega]
        exact a10 k hk
  · rw [F 564 (by omega)] at q
    rw [F (15 + v) (by omega)] at z1
    rw [F (3 + v) (by omega)] at z2
    obtain ⟨b1, b3⟩ := h5 q v hv z1 z2
    rw [F 1 (by omega)]
    refine ⟨b1, fun hvw => ?_⟩
    rcases hlk q v hv hvw with e | e
    · exact absurd e z1
    · exact absurd e z2
theorem rl_tb_chg (ht : rl_tb f g u c d o) (hu : u < 3) (hx : x < 8) : rl_tb (c_change f x y z) (d_bec g x y z) u c d o :=
  rl_tb_fr ht (fun j hj => c_change_o hx (by unfold rl_ci at hj; omega)) (fun j j1 j2 => d_bec_o hx (by omega))
/-- the clock is one more -/
theorem rl_tick (hM : rl_M f g h w c b b2) : rl_M (m_sc f 0 (f 0 + nI 1)) (m_sc g 144 (g 144 + nI 1)) h w (c + 1) b b2 := by
  obtain ⟨h1, h2, h3, h4, h5, h6⟩ := hM
  have F : ∀ j, j ≠ 0 → m_sc f 0 (f 0 + nI 1) j = f j := fun j hj => m_sc_ne hj
  have G : ∀ j, j ≠ 144 → m_sc g 144 (g 144 + nI 1) j = g j := fun j hj => m_sc_ne hj
  obtain ⟨l0, l1, l2, l3, l4, l5, l6, l7⟩ := h1
  refine ⟨⟨?_, ?_, ?_, ?_, ?_, ?_, ?_, ?_⟩, fun v hv => rl_th_le (rl_th_fr (h2 v hv) (fun j hj => F j (by unfold rl_ci at hj; omega)) (fun j j1 j2 => G j (by omega))) (Nat.le_succ c), fun x hx => rl_cl_le (rl_cl_fr hx (h3 x hx) (fun j j1 j2 => F j (by omega)) (fun j j1 j2 => G j (by omega))) (Nat.le_succ c), rl_ow_fr h4 (fun j j1 j2 => F j (by omega)) (fun v hv => F _ (by omega)), fun q v hv z1 z2 => ?_, rl_ag_fr h6 (F _ (by omega)) rfl (fun v hv => F _ (by omega)) (fun v hv => F _ (by omega)) (fun v hv => G _ (by omega))⟩
  · rw [m_sc_self, l0, nI_add]
  · rw [m_sc_self, l1, nI_add]
  · rw [F _ (by omega), G _ (by omega)]; exact l2
  · rw [F _ (by omega), G _ (by omega)]; exact l3
  · rw [F _ (by omega)]; exact l4
  · rw [G _ (by omega)]; exact l5
  · rw [G _ (by omega)]; exact l6
  · rw [G _ (by omega)]; exact l7
  · rw [F 564 (by omega)] at q
    rw [F (15 + v) (by omega)] at z1
    rw [F (3 + v) (by omega)] at z2
    obtain ⟨b1, b3⟩ := h5 q v hv z1 z2
    refine ⟨by rw [F 1 (by omega)]; exact b1, fun hvw x hx => ?_⟩
    rw [F (152 + 47 * v + x) (by omega), F (65 + x) (by omega)]
    exact b3 hvw x hx
theorem rl_tb_tick (ht : rl_tb f g u c d o) (hu : u < 3) : rl_tb (m_sc f 0 (f 0 + nI 1)) (m_sc g 144 (g 144 + nI 1)) u (c + 1) d o := by
  have h1 : rl_tb (m_sc f 0 (f 0 + nI 1)) (m_sc g 144 (g 144 + nI 1)) u c d o := rl_tb_fr ht (fun j hj => m_sc_ne (by unfold rl_ci at hj; omega)) (fun j j1 j2 => m_sc_ne (by omega))
  obtain ⟨t1, t2, t3, t4, t5, t6, t7, t8, t9, t10, t11⟩ := h1
  exact ⟨t1, t2, t3, t4, t5, t6, t7, t8, t9, t10, rl_T_le t11 (Nat.le_succ c)⟩
def c_mk2 (u x : Nat) (f : Nat → Int32) : Nat → Int32 := if f (176 + 47 * u + x) = -1 then f else c_change f x (f (176 + 47 * u + x)) (f (176 + 47 * u + 8 + x))
def c_any (f : Nat → Int32) (u : Nat) (x k : Nat) : Bool := s_any (fun x => decide (¬ f (176 + 47 * u + x) = -1)) x k
theorem c_mk_A {u : Nat} : ∀ (k x : Nat) (s : c_fm), ¬ s.2 = nI 0 → s_loop (c_mk1 u) x k s = (s_loop (c_mk2 u) x k s.1, s.2) := by
  intro k
  induction k with
  | zero => intro x s _; rfl
  | succ k ih =>
    intro x s h
    rw [s_loop, s_loop]
    have e0 : c_mk0 s = s := if_neg h
    have e1 : c_mk1 u x s = (c_mk2 u x s.1, s.2) := by
      unfold c_mk1 c_mk2
      rw [e0]
      split <;> rfl
    rw [e1, ih (x + 1) (c_mk2 u x s.1, s.2) h]
theorem c_mk_B {u : Nat} (hn : ¬ f 0 + nI 1 = nI 0) : ∀ (k x : Nat), s_loop (c_mk1 u) x k (f, nI 0) = if c_any f u x k then (s_loop (c_mk2 u) x k (m_sc f 0 (f 0 + nI 1)), f 0 + nI 1) else (f, nI 0) := by
  intro k
  induction k with
  | zero => intro x; rfl
  | succ k ih =>
    intro x
    have e2 : m_sc f 0 (f 0 + nI 1) (176 + 47 * u + x) = f (176 + 47 * u + x) := m_sc_ne (by omega)
    rw [s_loop, s_loop]
    unfold c_any
    rw [s_any]
    by_cases h1 : f (176 + 47 * u + x) = -1
    · have e1 : c_mk1 u x (f, nI 0) = (f, nI 0) := if_pos h1
      have e3 : c_mk2 u x (m_sc f 0 (f 0 + nI 1)) = m_sc f 0 (f 0 + nI 1) := if_pos (by rw [e2]; exact h1)
      rw [e1, ih (x + 1), e3]
      have e4 : decide (¬ f (176 + 47 * u + x) = -1) = false := by simp [h1]
      rw [e4, Bool.false_or]
      rfl
    · have e0 : c_mk0 (f, nI 0) = (m_sc f 0 (f 0 + nI 1), f 0 + nI 1) := if_pos rfl
      have e1 : c_mk1 u x (f, nI 0) = (c_mk2 u x (m_sc f 0 (f 0 + nI 1)), f 0 + nI 1) := by
        refine (if_neg h1).trans ?_
        rw [e0]
        refine Prod.ext ?_ rfl
        exact (if_neg (by rw [e2]; exact h1)).symm
      have e4 : decide (¬ f (176 + 47 * u + x) = -1) = true := by simp [h1]
      rw [e1, c_mk_A k (x + 1) _ hn, e4, Bool.true_or, if_pos rfl]
theorem rl_mk_loop (hu : u < 3) (hc : 0 < c) : ∀ (k x : Nat) (f g : Nat → Int32), x + k = 8 → rl_M f g h u c b b2 → rl_tb f g u c d o → (f 564 = nI 3 → ∀ v, v < 3 → v ≠ u → f (15 + v) = -1 ∨ f (3 + v) = nI 4) → rl_M (s_loop (c_mk2 u) x k f) (s_loop (d_ct1 u) x k g) h u c b b2 ∧ rl_tb (s_loop (c_mk2 u) x k f) (s_loop (d_ct1 u) x k g) u c d o := by
  intro k
  induction k with
  | zero => intro x f g _ h1 h2 _; exact ⟨h1, h2⟩
  | succ k ih =>
    intro x f g hx h1 h2 h3
    have hx8 : x < 8 := by omega
    rw [s_loop, s_loop]
    obtain ⟨a1, a2, a3, a4, a5, a6⟩ := h2.2.2.2.2.2.1 x hx8
    unfold c_mk2 d_ct1
    rw [show 176 + 47 * u + 8 + x = 184 + 47 * u + x by omega, show 150 + 154 * u + 135 + 2 * x + 1 = 150 + 154 * u + 136 + 2 * x by omega, ← a4, ← a5]
    by_cases h4 : f (176 + 47 * u + x) = -1
    · rw [if_pos h4, if_pos h4]
      exact ih (x + 1) f g (by omega) h1 h2 h3
    · rw [if_neg h4, if_neg h4]
      have hv : rl_val (f (176 + 47 * u + x)) (f (184 + 47 * u + x)) := a6.resolve_left h4
      refine ih (x + 1) _ _ (by omega) (rl_chgM h1 hx8 hc hv h3) (rl_tb_chg h2 hu hx8) (fun q v hv hvu => ?_)
      rw [c_change_o hx8 (by omega)] at q
      rw [c_change_o hx8 (by omega), c_change_o hx8 (by omega)]
      exact h3 q v hv hvu
theorem s_any_cg {p q : Nat → Bool} : ∀ (k x : Nat), (∀ j, x ≤ j → j < x + k → p j = q j) → s_any p x k = s_any q x k := by
  intro k
  induction k with
  | zero => intro x _; rfl
  | succ k ih =>
    intro x h
    rw [s_any, s_any, h x (Nat.le_refl _) (by omega), ih (x + 1) (fun j j1 j2 => h j (by omega) (by omega))]
theorem rl_any (ht : rl_tb f g u c d o) : c_any f u 0 8 = d_any g u := by
  refine s_any_cg 8 0 (fun j _ j2 => ?_)
  rw [(ht.2.2.2.2.2.1 j (by omega)).2.2.2.1]
/-- it counts: the values -/
theorem rl_count (hL : rl_L f g h c b b2) (ht : rl_tb f g u c d o) (hu : u < 3) (hi : ¬ f (15 + u) = -1) (hr : ¬ f (3 + u) = nI 4) (hc : c < 1000000000) : ∃ c', c ≤ c' ∧ c' ≤ c + 1 ∧ rl_M (c_mk f u).1 (d_ct g u) h u c' b b2 ∧ rl_tb (c_mk f u).1 (d_ct g u) u c' d o ∧ ((d_any g u = false ∧ (c_mk f u).2 = nI 0) ∨ (d_any g u = true ∧ (c_mk f u).2 = nI c' ∧ d_ct g u 144 = nI c')) := by
  have h0 := hL.1.1
  have hne : ¬ f 0 + nI 1 = nI 0 := by rw [h0, nI_add, n_eq (by omega) (by omega)]; omega
  have ha := rl_any ht
  unfold c_mk d_ct
  rw [c_mk_B hne, ha]
  cases h1 : d_any g u
  · rw [if_neg (by decide), if_neg (by decide)]
    exact ⟨c, Nat.le_refl _, Nat.le_succ _, rl_toM hL, ht, Or.inl ⟨rfl, rfl⟩⟩
  · rw [if_pos rfl, if_pos rfl]
    have hlk : m_sc f 0 (f 0 + nI 1) 564 = nI 3 → ∀ v, v < 3 → v ≠ u → m_sc f 0 (f 0 + nI 1) (15 + v) = -1 ∨ m_sc f 0 (f 0 + nI 1) (3 + v) = nI 4 := fun q v hv hvu => by
      rw [m_sc_ne (by omega)] at q
      rw [m_sc_ne (by omega), m_sc_ne (by omega)]
      by_cases e1 : f (15 + v) = -1
      · exact Or.inl e1
      · by_cases e2 : f (3 + v) = nI 4
        · exact Or.inr e2
        · have q1 := (hL.2.2.2.2.1 q v hv e1 e2).1
          have q2 := (hL.2.2.2.2.1 q u hu hi hr).1
          rw [q1] at q2
          exact absurd (nI_u hv hu q2) hvu
    have hT : rl_M (m_sc f 0 (f 0 + nI 1)) (m_sc g 144 (g 144 + nI 1)) h u (c + 1) b b2 := rl_tick (rl_toM hL)
    have hTb := rl_tb_tick ht hu
    have hc1 : 0 < c + 1 := Nat.succ_pos c
    have h88 : 0 + 8 = 8 := rfl
    have r := rl_mk_loop hu hc1 8 0 (m_sc f 0 (f 0 + nI 1)) (m_sc g 144 (g 144 + nI 1)) h88 hT hTb hlk
    obtain ⟨r1, r2⟩ := r
    dsimp only
    have q4 := r1.1.2.1
    exact ⟨c + 1, Nat.le_succ _, Nat.le_refl _, r1, r2, Or.inr ⟨rfl, by rw [h0, nI_add], q4⟩⟩
theorem rl_putF (hL : rl_L f g h c b b2) (hu : u < 3) (hi : f (15 + u) = -1) (hx : x < 8) (hv : rl_val y z) (hb : b < 1000000000) (hlk : f 564 = nI 3 → f 1 = -1 ∨ f 1 = nI u) : rl_L (c_putF f x y z) (d_bec (m_sc g 144 (g 144 + nI 1)) x y z) h (c + 1) (b + 1) b2 := by
  have h559 : rl_M (m_sc f 559 (f 559 + nI 1)) g h u c (b + 1) b2 := by
    obtain ⟨h1, h2, h3, h4, h5, h6⟩ := hL
    have F : ∀ j, j ≠ 559 → m_sc f 559 (f 559 + nI 1) j = f j := fun j hj => m_sc_ne hj
    refine ⟨rl_gl_fr h1 (F _ (by omega)) (F _ (by omega)) (F _ (by omega)) (F _ (by omega)) (fun _ _ _ => rfl) rfl, fun v hv => rl_th_fr (h2 v hv) (fun j hj => F j (by unfold rl_ci at hj; omega)) (fun _ _ _ => rfl), fun x hx => rl_cl_fr hx (h3 x hx) (fun j j1 j2 => F j (by omega)) (fun _ _ _ => rfl), rl_ow_fr h4 (fun j j1 j2 => F j (by omega)) (fun v hv => F _ (by omega)), fun q v hv z1 z2 => ?_, ⟨by rw [m_sc_self, h6.1, nI_add], h6.2.1, fun v hv z1 => ?_⟩⟩
    · rw [F 564 (by omega)] at q
      rw [F (15 + v) (by omega)] at z1
      rw [F (3 + v) (by omega)] at z2
      obtain ⟨b1, b3⟩ := h5 q v hv z1 z2
      refine ⟨by rw [F 1 (by omega)]; exact b1, fun _ x hx => ?_⟩
      rw [F (152 + 47 * v + x) (by omega), F (65 + x) (by omega)]
      exact b3 x hx
    · rw [F (15 + v) (by omega)] at z1
      obtain ⟨⟨a0, a1⟩, a2, a3⟩ := h6.2.2 v hv z1
      rw [F (18 + v) (by omega)]
      refine ⟨⟨a0, n_lts a1 (by omega) (by omega)⟩, a2, fun w hw z2 => ?_⟩
      rw [F (15 + w) (by omega)] at z2
      rw [F (18 + w) (by omega)]
      exact a3 w hw z2
  have e0 : m_sc (m_sc f 559 (f 559 + nI 1)) 0 (f 0 + nI 1) = m_sc (m_sc f 559 (f 559 + nI 1)) 0 (m_sc f 559 (f 559 + nI 1) 0 + nI 1) := by rw [m_sc_ne (by omega)]
  have hT := rl_tick h559
  rw [← e0] at hT
  have hlk2 : m_sc (m_sc f 559 (f 559 + nI 1)) 0 (f 0 + nI 1) 564 = nI 3 → ∀ v, v < 3 → v ≠ u → m_sc (m_sc f 559 (f 559 + nI 1)) 0 (f 0 + nI 1) (15 + v) = -1 ∨ m_sc (m_sc f 559 (f 559 + nI 1)) 0 (f 0 + nI 1) (3 + v) = nI 4 := fun q v hv hvu => by
    rw [m_sc_ne (by omega), m_sc_ne (by omega)] at q
    rw [m_sc_ne (by omega), m_sc_ne (by omega), m_sc_ne (by omega), m_sc_ne (by omega)]
    by_cases e1 : f (15 + v) = -1
    · exact Or.inl e1
    · by_cases e2 : f (3 + v) = nI 4
      · exact Or.inr e2
      · have q1 := (hL.2.2.2.2.1 q v hv e1 e2).1
        rcases hlk q with q2 | q2
        · rw [q2] at q1; exact absurd q1.symm (n_ne1' (by omega))
        · rw [q2] at q1; exact absurd (nI_u hv hu q1.symm) hvu
  obtain ⟨r1, r2, r3, r4, r5, r6⟩ := rl_chgM hT hx (Nat.succ_pos c) hv hlk2
  unfold c_putF
  have hiu : c_change (m_sc (m_sc f 559 (f 559 + nI 1)) 0 (f 0 + nI 1)) x y z (15 + u) = -1 := by
    rw [c_change_o hx (by omega), m_sc_ne (by omega), m_sc_ne (by omega)]; exact hi
  refine ⟨r1, r2, r3, r4, fun q v hv z1 z2 => ?_, r6⟩
  obtain ⟨s1, s2⟩ := r5 q v hv z1 z2
  refine ⟨s1, s2 (fun e => z1 (by rw [e]; exact hiu))⟩
end RLR
