/-! class and model alike: what it says -/
def rl_sort (a b : Int32) : Prop := (a = nI 14 ∧ b = nI 0) ∨ (a = nI 16 ∧ b = nI 1) ∨ (a = nI 18 ∧ b = nI 2)
def rl_val (v z : Int32) : Prop := v = nI 0 ∨ v = nI 1 ∨ (v = nI 2 ∧ ∃ y, y < 6 ∧ z = nI y)
def rl_lv (v z : Int32) : Prop := v = -1 ∨ rl_val v z
def rl_pl (v : Int32) : Prop := ∃ p, p ≤ 40 ∧ v = nI p
theorem c_sc_def (u k : Nat) : c_sc u k = 88 * u + 22 * k := by unfold c_sc; omega
/-- a scope that stands -/
def rl_sk (f g : Nat → Int32) (u k o : Nat) : Prop :=
  rl_sort (f (286 + c_sc u k)) (g (150 + 154 * u + 9 + 23 * k)) ∧ f (287 + c_sc u k) = g (150 + 154 * u + 9 + 23 * k + 1) ∧ rl_pl (f (287 + c_sc u k)) ∧ g (150 + 154 * u + 9 + 23 * k + 2) = (if o ≤ k ∧ ¬ f (15 + u) = -1 then nI 1 else nI 0) ∧ (∀ r, r < 4 → f (288 + c_sc u k + r) = g (150 + 154 * u + 9 + 23 * k + 3 + r)) ∧ (∀ x, x < 8 → f (292 + c_sc u k + x) = g (150 + 154 * u + 9 + 23 * k + 7 + 2 * x) ∧ f (300 + c_sc u k + x) = g (150 + 154 * u + 9 + 23 * k + 7 + 2 * x + 1) ∧ rl_lv (f (292 + c_sc u k + x)) (f (300 + c_sc u k + x))) ∧ ((o ≤ k ∧ ¬ f (15 + u) = -1) ∨ f (286 + c_sc u k) = nI 18)
def rl_A (f g : Nat → Int32) (u : Nat) : Prop := f (3 + u) = g (150 + 154 * u) ∧ f (6 + u) = g (150 + 154 * u + 1) ∧ f (9 + u) = g (150 + 154 * u + 2) ∧ f (561 + u) = g (150 + 154 * u + 7)
def rl_G (f g : Nat → Int32) (u : Nat) : Prop := ∀ r, r < 4 → f (21 + 4 * u + r) = g (150 + 154 * u + 3 + r)
def rl_K (f g : Nat → Int32) (u : Nat) : Prop := (f (15 + u) = -1 ∧ g (150 + 154 * u + 101) = nI 0 ∧ g (150 + 154 * u + 102) = nI 0) ∨ ∃ k, k < 4 ∧ f (15 + u) = nI k ∧ g (150 + 154 * u + 101) = nI 1 ∧ g (150 + 154 * u + 102) = nI k
def rl_D (f g : Nat → Int32) (u d o : Nat) : Prop := f (12 + u) = nI d ∧ g (150 + 154 * u + 8) = nI d ∧ d ≤ 4 ∧ o ≤ d ∧ c_outer f u = nI o ∧ g (150 + 154 * u + 110) = nI o
def rl_X (f g : Nat → Int32) (u : Nat) : Prop := (f (15 + u) = -1 → g (150 + 154 * u + 103) = nI 0 ∧ g (150 + 154 * u + 105) = nI 0 ∧ ∀ r, r < 4 → g (150 + 154 * u + 106 + r) = nI 0) ∧ (¬ f (15 + u) = -1 → f (145 + 47 * u) = g (150 + 154 * u + 103) ∧ f (146 + 47 * u) = g (150 + 154 * u + 105) ∧ ∀ r, r < 4 → f (148 + 47 * u + r) = g (150 + 154 * u + 106 + r))
def rl_W (f g : Nat → Int32) (u : Nat) : Prop := ∀ x, x < 8 → f (152 + 47 * u + x) = g (150 + 154 * u + 111 + x) ∧ f (160 + 47 * u + x) = g (150 + 154 * u + 119 + 2 * x) ∧ f (168 + 47 * u + x) = g (150 + 154 * u + 120 + 2 * x) ∧ f (176 + 47 * u + x) = g (150 + 154 * u + 135 + 2 * x) ∧ f (184 + 47 * u + x) = g (150 + 154 * u + 136 + 2 * x) ∧ rl_lv (f (176 + 47 * u + x)) (f (184 + 47 * u + x))
def rl_S (f g : Nat → Int32) (u d o : Nat) : Prop := ∀ k, k < 4 → (k < d → rl_sk f g u k o) ∧ (d ≤ k → ∀ i, i < 23 → g (150 + 154 * u + 9 + 23 * k + i) = nI 0)
def rl_P (f : Nat → Int32) (u : Nat) : Prop := rl_pl (f (6 + u)) ∧ (∃ c, c < 6 ∧ f (561 + u) = nI c) ∧ (¬ f (15 + u) = -1 → rl_pl (f (146 + 47 * u)))
def rl_C (f : Nat → Int32) (u : Nat) : Prop := f (15 + u) = -1 → ∀ x, x < 8 → f (152 + 47 * u + x) = -1 ∧ f (160 + 47 * u + x) = -1 ∧ f (168 + 47 * u + x) = nI 0 ∧ f (176 + 47 * u + x) = -1 ∧ f (184 + 47 * u + x) = nI 0
def rl_N (f : Nat → Int32) (u : Nat) : Prop := f (3 + u) = nI 0 → f (6 + u) = nI 0 ∧ f (9 + u) = nI 0 ∧ f (12 + u) = nI 0 ∧ f (15 + u) = -1 ∧ ∀ r, r < 4 → f (21 + 4 * u + r) = nI 0
def rl_T (f : Nat → Int32) (u c : Nat) : Prop := ¬ f (15 + u) = -1 → ∃ s, s ≤ c ∧ f (145 + 47 * u) = nI s
/-- a thread, d scopes, o of them outside of its transaction; the clock is c -/
def rl_tb (f g : Nat → Int32) (u c d o : Nat) : Prop := rl_A f g u ∧ rl_G f g u ∧ rl_K f g u ∧ rl_D f g u d o ∧ rl_X f g u ∧ rl_W f g u ∧ rl_S f g u d o ∧ rl_P f u ∧ rl_C f u ∧ rl_N f u ∧ rl_T f u c
def rl_th (f g : Nat → Int32) (u c : Nat) : Prop := ∃ d o, rl_tb f g u c d o
/-- a cell, n values of it, the present one too -/
def rl_cb (f g : Nat → Int32) (x c n : Nat) : Prop := 1 ≤ n ∧ n ≤ 4 ∧ g (18 * x + 15) = nI n ∧ f (33 + x) = g (18 * x + 16) ∧ f (41 + x) = g (18 * x + 17) ∧ f (49 + x) = g (18 * x) ∧ f (57 + x) = g (18 * x + 1) ∧ f (65 + x) = g (18 * x + 2) ∧ (c = 0 → n = 1) ∧ ∀ k, k < 4 → (k < n → f (49 + 24 * k + x) = g (18 * x + 3 + 3 * k) ∧ f (57 + 24 * k + x) = g (18 * x + 3 + 3 * k + 1) ∧ f (65 + 24 * k + x) = g (18 * x + 3 + 3 * k + 2) ∧ (∃ v, v ≤ c ∧ f (65 + 24 * k + x) = nI v) ∧ rl_val (f (49 + 24 * k + x)) (f (57 + 24 * k + x))) ∧ (n ≤ k → f (49 + 24 * k + x) = -1 ∧ f (57 + 24 * k + x) = -1 ∧ f (65 + 24 * k + x) = -1 ∧ g (18 * x + 3 + 3 * k) = nI 0 ∧ g (18 * x + 3 + 3 * k + 1) = nI 0 ∧ g (18 * x + 3 + 3 * k + 2) = nI 0)
def rl_cl (f g : Nat → Int32) (x c : Nat) : Prop := ∃ n, rl_cb f g x c n
def rl_gl (f g h : Nat → Int32) (c : Nat) : Prop := f 0 = nI c ∧ g 144 = nI c ∧ f 1 = g 145 ∧ f 2 = g 146 ∧ f 564 = h 1 ∧ g 147 = nI 0 ∧ g 148 = nI 0 ∧ g 149 = nI 0
def rl_ow (f : Nat → Int32) : Prop := ∀ x, x < 8 → f (33 + x) = -1 ∨ ∃ w, w < 3 ∧ f (33 + x) = nI w ∧ ¬ f (15 + w) = -1
def rl_co (f : Nat → Int32) : Prop := f 564 = nI 3 → ∀ u, u < 3 → ¬ f (15 + u) = -1 → ¬ f (3 + u) = nI 4 → f 1 = nI u ∧ ∀ x, x < 8 → f (152 + 47 * u + x) = -1 ∨ f (152 + 47 * u + x) = f (65 + x)
/-- an age -/
def rl_al (y : Int32) (b : Nat) : Prop := nI 0 ≤ y ∧ y < nI b
def rl_ag (f g h : Nat → Int32) (b b2 : Nat) : Prop := f 559 = nI b ∧ h 2 = nI b2 ∧ ∀ u, u < 3 → ¬ f (15 + u) = -1 → rl_al (f (18 + u)) b ∧ g (150 + 154 * u + 104) < nI b2 ∧ ∀ v, v < 3 → ¬ f (15 + v) = -1 → (f (18 + u) < f (18 + v) ↔ g (150 + 154 * u + 104) < g (150 + 154 * v + 104)) ∧ (¬ u = v → ¬ f (18 + u) = f (18 + v))
/-- c: the clock; b, b2: how many have begun -/
def rl_L (f g h : Nat → Int32) (c b b2 : Nat) : Prop := rl_gl f g h c ∧ (∀ u, u < 3 → rl_th f g u c) ∧ (∀ x, x < 8 → rl_cl f g x c) ∧ rl_ow f ∧ rl_co f ∧ rl_ag f g h b b2
section RLF
variable {f g h f' g' h' : Nat → Int32} {u v x k c b b2 d o n : Nat}
/-- where a thread stands in the class's row -/
def rl_ci (u j : Nat) : Prop := j = 3 + u ∨ j = 6 + u ∨ j = 9 + u ∨ j = 12 + u ∨ j = 15 + u ∨ (21 + 4 * u ≤ j ∧ j < 25 + 4 * u) ∨ (145 + 47 * u ≤ j ∧ j < 192 + 47 * u) ∨ (286 + 88 * u ≤ j ∧ j < 374 + 88 * u) ∨ j = 561 + u
theorem c_outer_fr (h1 : f' (15 + u) = f (15 + u)) (h2 : f' (147 + 47 * u) = f (147 + 47 * u)) : c_outer f' u = c_outer f u := by
  unfold c_outer
  rw [h1, h2]
theorem rl_sk_fr (hk : k < 4) (h : rl_sk f g u k o) (h15 : f' (15 + u) = f (15 + u)) (hf : ∀ j, 286 + 88 * u + 22 * k ≤ j → j < 308 + 88 * u + 22 * k → f' j = f j) (hg : ∀ j, 150 + 154 * u + 9 + 23 * k ≤ j → j < 150 + 154 * u + 32 + 23 * k → g' j = g j) : rl_sk f' g' u k o := by
  have e := c_sc_def u k
  obtain ⟨h1, h2, h3, h4, h5, h6, h7⟩ := h
  unfold rl_sk
  rw [hf (286 + c_sc u k) (by omega) (by omega), hf (287 + c_sc u k) (by omega) (by omega), hg (150 + 154 * u + 9 + 23 * k) (by omega) (by omega), hg (150 + 154 * u + 9 + 23 * k + 1) (by omega) (by omega), hg (150 + 154 * u + 9 + 23 * k + 2) (by omega) (by omega), h15]
  refine ⟨h1, h2, h3, h4, fun r hr => ?_, fun x hx => ?_, h7⟩
  · rw [hf (288 + c_sc u k + r) (by omega) (by omega), hg (150 + 154 * u + 9 + 23 * k + 3 + r) (by omega) (by omega)]
    exact h5 r hr
  · rw [hf (292 + c_sc u k + x) (by omega) (by omega), hf (300 + c_sc u k + x) (by omega) (by omega), hg (150 + 154 * u + 9 + 23 * k + 7 + 2 * x) (by omega) (by omega), hg (150 + 154 * u + 9 + 23 * k + 7 + 2 * x + 1) (by omega) (by omega)]
    exact h6 x hx
theorem rl_S_fr (h : rl_S f g u d o) (h15 : f' (15 + u) = f (15 + u)) (hf : ∀ j, 286 + 88 * u ≤ j → j < 374 + 88 * u → f' j = f j) (hg : ∀ j, 150 + 154 * u + 9 ≤ j → j < 150 + 154 * u + 101 → g' j = g j) : rl_S f' g' u d o := by
  intro k hk
  refine ⟨fun h1 => rl_sk_fr hk ((h k hk).1 h1) h15 (fun j j1 j2 => hf j (by omega) (by omega)) (fun j j1 j2 => hg j (by omega) (by omega)), fun h1 i hi => ?_⟩
  rw [hg _ (by omega) (by omega)]
  exact (h k hk).2 h1 i hi
theorem rl_W_fr (h : rl_W f g u) (hf : ∀ j, 152 + 47 * u ≤ j → j < 192 + 47 * u → f' j = f j) (hg : ∀ j, 150 + 154 * u + 111 ≤ j → j < 150 + 154 * u + 151 → g' j = g j) : rl_W f' g' u := by
  intro x hx
  rw [hf (152 + 47 * u + x) (by omega) (by omega), hf (160 + 47 * u + x) (by omega) (by omega), hf (168 + 47 * u + x) (by omega) (by omega), hf (176 + 47 * u + x) (by omega) (by omega), hf (184 + 47 * u + x) (by omega) (by omega), hg (150 + 154 * u + 111 + x) (by omega) (by omega), hg (150 + 154 * u + 119 + 2 * x) (by omega) (by omega), hg (150 + 154 * u + 120 + 2 * x) (by omega) (by omega), hg (150 + 154 * u + 135 + 2 * x) (by omega) (by omega), hg (150 + 154 * u + 136 + 2 * x) (by omega) (by omega)]
  exact h x hx
theorem rl_C_fr (h : rl_C f u) (h15 : f' (15 + u) = f (15 + u)) (hf : ∀ j, 152 + 47 * u ≤ j → j < 192 + 47 * u → f' j = f j) : rl_C f' u := by
  intro h1 x hx
  rw [h15] at h1
  rw [hf (152 + 47 * u + x) (by omega) (by omega), hf (160 + 47 * u + x) (by omega) (by omega), hf (168 + 47 * u + x) (by omega) (by omega), hf (176 + 47 * u + x) (by omega) (by omega), hf (184 + 47 * u + x) (by omega) (by omega)]
  exact h h1 x hx
theorem rl_X_fr (h : rl_X f g u) (h15 : f' (15 + u) = f (15 + u)) (hf : ∀ j, 145 + 47 * u ≤ j → j < 152 + 47 * u → f' j = f j) (hg : ∀ j, 150 + 154 * u + 103 ≤ j → j < 150 + 154 * u + 110 → g' j = g j) : rl_X f' g' u := by
  unfold rl_X
  rw [h15, hf (145 + 47 * u) (by omega) (by omega), hf (146 + 47 * u) (by omega) (by omega), hg (150 + 154 * u + 103) (by omega) (by omega), hg (150 + 154 * u + 105) (by omega) (by omega)]
  refine ⟨fun h1 => ⟨(h.1 h1).1, (h.1 h1).2.1, fun r hr => ?_⟩, fun h1 => ⟨(h.2 h1).1, (h.2 h1).2.1, fun r hr => ?_⟩⟩
  · rw [hg (150 + 154 * u + 106 + r) (by omega) (by omega)]; exact (h.1 h1).2.2 r hr
  · rw [hf (148 + 47 * u + r) (by omega) (by omega), hg (150 + 154 * u + 106 + r) (by omega) (by omega)]; exact (h.2 h1).2.2 r hr
theorem rl_G_fr (h : rl_G f g u) (hf : ∀ j, 21 + 4 * u ≤ j → j < 25 + 4 * u → f' j = f j) (hg : ∀ j, 150 + 154 * u + 3 ≤ j → j < 150 + 154 * u + 7 → g' j = g j) : rl_G f' g' u := by
  intro r hr
  rw [hf (21 + 4 * u + r) (by omega) (by omega), hg (150 + 154 * u + 3 + r) (by omega) (by omega)]
  exact h r hr
theorem rl_A_fr (h : rl_A f g u) (h1 : f' (3 + u) = f (3 + u)) (h2 : f' (6 + u) = f (6 + u)) (h3 : f' (9 + u) = f (9 + u)) (h4 : f' (561 + u) = f (561 + u)) (g1 : g' (150 + 154 * u) = g (150 + 154 * u)) (g2 : g' (150 + 154 * u + 1) = g (150 + 154 * u + 1)) (g3 : g' (150 + 154 * u + 2) = g (150 + 154 * u + 2)) (g4 : g' (150 + 154 * u + 7) = g (150 + 154 * u + 7)) : rl_A f' g' u := by
  unfold rl_A
  rw [h1, h2, h3, h4, g1, g2, g3, g4]
  exact h
theorem rl_K_fr (h : rl_K f g u) (h1 : f' (15 + u) = f (15 + u)) (g1 : g' (150 + 154 * u + 101) = g (150 + 154 * u + 101)) (g2 : g' (150 + 154 * u + 102) = g (150 + 154 * u + 102)) : rl_K f' g' u := by
  unfold rl_K
  rw [h1, g1, g2]
  exact h
theorem rl_D_fr (h : rl_D f g u d o) (h1 : f' (12 + u) = f (12 + u)) (h2 : f' (15 + u) = f (15 + u)) (h3 : f' (147 + 47 * u) = f (147 + 47 * u)) (g1 : g' (150 + 154 * u + 8) = g (150 + 154 * u + 8)) (g2 : g' (150 + 154 * u + 110) = g (150 + 154 * u + 110)) : rl_D f' g' u d o := by
  unfold rl_D
  rw [h1, g1, g2, c_outer_fr h2 h3]
  exact h
theorem rl_P_fr (h : rl_P f u) (h1 : f' (6 + u) = f (6 + u)) (h2 : f' (15 + u) = f (15 + u)) (h3 : f' (146 + 47 * u) = f (146 + 47 * u)) (h4 : f' (561 + u) = f (561 + u)) : rl_P f' u := by
  unfold rl_P
  rw [h1, h2, h3, h4]
  exact h
theorem rl_N_fr (h : rl_N f u) (h1 : f' (3 + u) = f (3 + u)) (h2 : f' (6 + u) = f (6 + u)) (h3 : f' (9 + u) = f (9 + u)) (h4 : f' (12 + u) = f (12 + u)) (h5 : f' (15 + u) = f (15 + u)) (h6 : ∀ r, r < 4 → f' (21 + 4 * u + r) = f (21 + 4 * u + r)) : rl_N f' u := by
  unfold rl_N
  rw [h1, h2, h3, h4, h5]
  intro z
  obtain ⟨z1, z2, z3, z4, z5⟩ := h z
  exact ⟨z1, z2, z3, z4, fun r hr => by rw [h6 r hr]; exact z5 r hr⟩
theorem rl_N_of (h1 : ¬ f (3 + u) = nI 0) : rl_N f u := fun z => absurd z h1
theorem rl_T_fr (h : rl_T f u c) (h2 : f' (15 + u) = f (15 + u)) (h3 : f' (145 + 47 * u) = f (145 + 47 * u)) : rl_T f' u c := by
  unfold rl_T
  rw [h2, h3]
  exact h
theorem rl_T_le {c' : Nat} (h : rl_T f u c) (hc : c ≤ c') : rl_T f u c' := fun z => by
  obtain ⟨s, s1, s2⟩ := h z
  exact ⟨s, by omega, s2⟩
theorem rl_th_le {c' : Nat} (h : rl_th f g u c) (hc : c ≤ c') : rl_th f g u c' := by
  obtain ⟨d, o, h1, h2, h3, h4, h5, h6, h7, h8, h9, h10, h11⟩ := h
  exact ⟨d, o, h1, h2, h3, h4, h5, h6, h7, h8, h9, h10, rl_T_le h11 hc⟩
theorem rl_tb_fr (h : rl_tb f g u c d o) (hf : ∀ j, rl_ci u j → f' j = f j) (hg : ∀ j, 150 + 154 * u ≤ j → j < 150 + 154 * u + 151 → g' j = g j) : rl_tb f' g' u c d o := by
  obtain ⟨h1, h2, h3, h4, h5, h6, h7, h8, h9, h10, h11⟩ := h
  have q3 : f' (3 + u) = f (3 + u) := hf _ (by unfold rl_ci; omega)
  have q6 : f' (6 + u) = f (6 + u) := hf _ (by unfold rl_ci; omega)
  have q9 : f' (9 + u) = f (9 + u) := hf _ (by unfold rl_ci; omega)
  have q12 : f' (12 + u) = f (12 + u) := hf _ (by unfold rl_ci; omega)
  have q15 : f' (15 + u) = f (15 + u) := hf _ (by unfold rl_ci; omega)
  have q561 : f' (561 + u) = f (561 + u) := hf _ (by unfold rl_ci; omega)
  have qr : ∀ j, 21 + 4 * u ≤ j → j < 25 + 4 * u → f' j = f j := fun j j1 j2 => hf _ (by unfold rl_ci; omega)
  have qt : ∀ j, 145 + 47 * u ≤ j → j < 192 + 47 * u → f' j = f j := fun j j1 j2 => hf _ (by unfold rl_ci; omega)
  have qs : ∀ j, 286 + 88 * u ≤ j → j < 374 + 88 * u → f' j = f j := fun j j1 j2 => hf _ (by unfold rl_ci; omega)
  refine ⟨rl_A_fr h1 q3 q6 q9 q561 (hg _ (by omega) (by omega)) (hg _ (by omega) (by omega)) (hg _ (by omega) (by omega)) (hg _ (by omega) (by omega)), rl_G_fr h2 qr (fun j j1 j2 => hg j (by omega) (by omega)), rl_K_fr h3 q15 (hg _ (by omega) (by omega)) (hg _ (by omega) (by omega)), rl_D_fr h4 q12 q15 (qt _ (by omega) (by omega)) (hg _ (by omega) (by omega)) (hg _ (by omega) (by omega)), rl_X_fr h5 q15 (fun j j1 j2 => qt j (by omega) (by omega)) (fun j j1 j2 => hg j (by omega) (by omega)), rl_W_fr h6 (fun j j1 j2 => qt j (by omega) (by omega)) (fun j j1 j2 => hg j (by omega) (by omega)), rl_S_fr h7 q15 qs (fun j j1 j2 => hg j (by omega) (by omega)), rl_P_fr h8 q6 q15 (qt _ (by omega) (by omega)) q561, rl_C_fr h9 q15 (fun j j1 j2 => qt j (by omega) (by omega)), rl_N_fr h10 q3 q6 q9 q12 q15 (fun r hr => qr _ (by omega) (by omega)), rl_T_fr h11 q15 (qt _ (by omega) (by omega))⟩
theorem rl_th_fr (h : rl_th f g u c) (hf : ∀ j, rl_ci u j → f' j = f j) (hg : ∀ j, 150 + 154 * u ≤ j → j < 150 + 154 * u + 151 → g' j = g j) : rl_th f' g' u c := by
  obtain ⟨d, o, h1⟩ := h
  exact ⟨d, o, rl_tb_fr h1 hf hg⟩
theorem rl_cb_fr (hx : x < 8) (h : rl_cb f g x c n) (hf : ∀ j, 33 ≤ j → j < 145 → f' j = f j) (hg : ∀ j, 18 * x ≤ j → j < 18 * x + 18 → g' j = g j) : rl_cb f' g' x c n := by
  obtain ⟨h1, h2, h3, h4, h5, h6, h7, h8, h9, h10⟩ := h
  unfold rl_cb
  rw [hf (33 + x) (by omega) (by omega), hf (41 + x) (by omega) (by omega), hf (49 + x) (by omega) (by omega), hf (57 + x) (by omega) (by omega), hf (65 + x) (by omega) (by omega), hg (18 * x + 15) (by omega) (by omega), hg (18 * x + 16) (by omega) (by omega), hg (18 * x + 17) (by omega) (by omega), hg (18 * x) (by omega) (by omega), hg (18 * x + 1) (by omega) (by omega), hg (18 * x + 2) (by omega) (by omega)]
  refine ⟨h1, h2, h3, h4, h5, h6, h7, h8, h9, fun k hk => ?_⟩
  rw [hf (49 + 24 * k + x) (by omega) (by omega), hf (57 + 24 * k + x) (by omega) (by omega), hf (65 + 24 * k + x) (by omega) (by omega), hg (18 * x + 3 + 3 * k) (by omega) (by omega), hg (18 * x + 3 + 3 * k + 1) (by omega) (by omega), hg (18 * x + 3 + 3 * k + 2) (by omega) (by omega)]
  exact h10 k hk
theorem rl_cl_fr (hx : x < 8) (h : rl_cl f g x c) (hf : ∀ j, 33 ≤ j → j < 145 → f' j = f j) (hg : ∀ j, 18 * x ≤ j → j < 18 * x + 18 → g' j = g j) : rl_cl f' g' x c := by
  obtain ⟨n, h1⟩ := h
  exact ⟨n, rl_cb_fr hx h1 hf hg⟩
theorem rl_cl_le {c' : Nat} (h : rl_cl f g x c) (hc : c ≤ c') : rl_cl f g x c' := by
  obtain ⟨n, h1, h2, h3, h4, h5, h6, h7, h8, h9, h10⟩ := h
  refine ⟨n, h1, h2, h3, h4, h5, h6, h7, h8, fun z => h9 (by omega), fun k hk => ⟨fun z => ?_, (h10 k hk).2⟩⟩
  obtain ⟨a1, a2, a3, ⟨v, a4, a5⟩, a6⟩ := (h10 k hk).1 z
  exact ⟨a1, a2, a3, ⟨v, by omega, a5⟩, a6⟩
theorem rl_ow_fr (h : rl_ow f) (hf : ∀ j, 33 ≤ j → j < 41 → f' j = f j) (hf2 : ∀ u, u < 3 → f' (15 + u) = f (15 + u)) : rl_ow f' := by
  intro x hx
  rw [hf (33 + x) (by omega) (by omega)]
  rcases h x hx with h1 | ⟨w, hw, h1, h2⟩
  · exact Or.inl h1
  · exact Or.inr ⟨w, hw, h1, by rw [hf2 w hw]; exact h2⟩
theorem rl_co_fr (h : rl_co f) (h0 : f' 564 = f 564) (h1 : f' 1 = f 1) (h3 : ∀ u, u < 3 → f' (3 + u) = f (3 + u)) (h15 : ∀ u, u < 3 → f' (15 + u) = f (15 + u)) (hr : ∀ u x, u < 3 → x < 8 → f' (152 + 47 * u + x) = f (152 + 47 * u + x)) (hv : ∀ x, x < 8 → f' (65 + x) = f (65 + x)) : rl_co f' := by
  intro z u hu z1 z2
  rw [h0] at z
  rw [h15 u hu] at z1
  rw [h3 u hu] at z2
  obtain ⟨a1, a2⟩ := h z u hu z1 z2
  rw [h1]
  refine ⟨a1, fun x hx => ?_⟩
  rw [hr u x hu hx, hv x hx]
  exact a2 x hx
theorem rl_ag_fr (h0 : rl_ag f g h b b2) (h1 : f' 559 = f 559) (h2 : h' 2 = h 2) (h15 : ∀ u, u < 3 → f' (15 + u) = f (15 + u)) (h18 : ∀ u, u < 3 → f' (18 + u) = f (18 + u)) (hg : ∀ u, u < 3 → g' (150 + 154 * u + 104) = g (150 + 154 * u + 104)) : rl_ag f' g' h' b b2 := by
  obtain ⟨a1, a2, a3⟩ := h0
  refine ⟨h1.trans a1, h2.trans a2, fun u hu z => ?_⟩
  rw [h15 u hu] at z
  obtain ⟨b1, b3, b4⟩ := a3 u hu z
  rw [h18 u hu, hg u hu]
  refine ⟨b1, b3, fun v hv z2 => ?_⟩
  rw [h15 v hv] at z2
  rw [h18 v hv, hg v hv]
  exact b4 v hv z2
theorem rl_gl_fr (h0 : rl_gl f g h c) (e0 : f' 0 = f 0) (e1 : f' 1 = f 1) (e2 : f' 2 = f 2) (e3 : f' 564 = f 564) (hg : ∀ j, 144 ≤ j → j < 150 → g' j = g j) (hh : h' 1 = h 1) : rl_gl f' g' h' c := by
  unfold rl_gl
  rw [e0, e1, e2, e3, hh, hg 144 (by omega) (by omega), hg 145 (by omega) (by omega), hg 146 (by omega) (by omega), hg 147 (by omega) (by omega), hg 148 (by omega) (by omega), hg 149 (by omega) (by omega)]
  exact h0
/-- what a thread has for itself alone -/
def rl_pi (u j : Nat) : Prop := j = 6 + u ∨ j = 9 + u ∨ j = 12 + u ∨ (21 + 4 * u ≤ j ∧ j < 25 + 4 * u) ∨ (145 + 47 * u ≤ j ∧ j < 152 + 47 * u) ∨ (160 + 47 * u ≤ j ∧ j < 192 + 47 * u) ∨ (286 + 88 * u ≤ j ∧ j < 374 + 88 * u)
theorem rl_own (hu : u < 3) (hL : rl_L f g h c b b2) (hf : ∀ j, ¬ rl_pi u j → f' j = f j) (hg : ∀ j, j < 150 + 154 * u ∨ 150 + 154 * u + 151 ≤ j ∨ j = 150 + 154 * u + 104 → g' j = g j) (ht : rl_th f' g' u c) : rl_L f' g' h c b b2 := by
  obtain ⟨h1, h2, h3, h4, h5, h6⟩ := hL
  have F : ∀ j, j < 6 ∨ (15 ≤ j ∧ j < 21) ∨ (33 ≤ j ∧ j < 145) ∨ 550 ≤ j → f' j = f j := fun j hj => hf j (by unfold rl_pi; omega)
  refine ⟨rl_gl_fr h1 (F _ (by omega)) (F _ (by omega)) (F _ (by omega)) (F _ (by omega)) (fun j j1 j2 => hg j (by omega)) rfl, fun v hv => ?_, fun x hx => rl_cl_fr hx (h3 x hx) (fun j j1 j2 => F j (by omega)) (fun j j1 j2 => hg j (by omega)), rl_ow_fr h4 (fun j j1 j2 => F j (by omega)) (fun v hv => F _ (by omega)), rl_co_fr h5 (F _ (by omega)) (F _ (by omega)) (fun v hv => F _ (by omega)) (fun v hv => F _ (by omega)) (fun v x hv hx => hf _ (by unfold rl_pi; omega)) (fun x hx => F _ (by omega)), rl_ag_fr h6 (F _ (by omega)) rfl (fun v hv => F _ (by omega)) (fun v hv => F _ (by omega)) (fun v hv => hg _ (by omega))⟩
  by_cases hvu : v = u
  · subst hvu; exact ht
  · exact rl_th_fr (h2 v hv) (fun j hj => hf j (by unfold rl_ci at hj; unfold rl_pi; omega)) (fun j j1 j2 => hg j (by omega))
end RLF
