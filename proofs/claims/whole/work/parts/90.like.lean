/-! explore: what is unlike for one is unlike for the other -/
section RBB
variable {f g h f' g' h' : Nat → Int32} {u v w c b b2 d o c' b' b2' d' o' x n n' k : Nat} {y z z' : Int32}
def z_lk (f' f : Nat → Int32) : Prop := (∀ j, j < 73 → f' j = f j) ∧ (nI 0 < f 0 → ∀ j, 73 ≤ j → j < 145 → f' j = f j) ∧ ∀ u, u < 3 → (¬ f (15 + u) = -1 → ∀ j, 145 + 47 * u ≤ j → j < 192 + 47 * u → f' j = f j) ∧ ∀ j, 286 + 88 * u ≤ j → j < 286 + 88 * u + 22 * (f (12 + u)).toNatClampNeg → f' j = f j
def d_cm (k : Nat) : Prop := k < 150 ∨ (¬ (k - 150) % 154 = 104 ∧ (k - 150) % 154 < 151)
def d_elx (g : Nat → Int32) (t u : Nat) : Int32 := if g (150 + 154 * t + 101) = nI 0 ∨ g (150 + 154 * u + 101) = nI 0 then nI 0 else if g (150 + 154 * t + 104) < g (150 + 154 * u + 104) then nI 1 else nI 2
def d_lk (g' g : Nat → Int32) : Prop := (∀ k, k < 612 → d_cm k → g' k = g k) ∧ d_elx g' 0 1 = d_elx g 0 1 ∧ d_elx g' 0 2 = d_elx g 0 2 ∧ d_elx g' 1 2 = d_elx g 1 2
def z_el (f : Nat → Int32) (t u : Nat) : Int32 := if f (15 + t) = -1 ∨ f (15 + u) = -1 then nI 0 else if f (18 + t) < f (18 + u) then nI 1 else nI 2
theorem n_inj {a b : Nat} (h : nI a = nI b) (ha : a < 2147483648) (hb : b < 2147483648) : a = b := by rw [n_eq ha hb] at h; exact h
theorem lk_sort (h : rl_sort y z) (h' : rl_sort y z') : z' = z := by
  rcases h with ⟨p, q⟩ | ⟨p, q⟩ | ⟨p, q⟩ <;> rcases h' with ⟨p', q'⟩ | ⟨p', q'⟩ | ⟨p', q'⟩ <;> first | (rw [q, q']; done) | (rw [p] at p'; exact absurd p' (by decide))
theorem lk_sort2 (h : rl_sort z y) (h' : rl_sort z' y) : z' = z := by
  rcases h with ⟨p, q⟩ | ⟨p, q⟩ | ⟨p, q⟩ <;> rcases h' with ⟨p', q'⟩ | ⟨p', q'⟩ | ⟨p', q'⟩ <;> first | (rw [p, p']; done) | (rw [q] at q'; exact absurd q' (by decide))
theorem lk_n (hc : rl_cb f g x c n) (hc' : rl_cb f' g' x c n') (hx : x < 8) (hcb : c < 2147483648) (h1 : ∀ j, j < 73 → f' j = f j) (h2 : ¬ c = 0 → ∀ j, 73 ≤ j → j < 145 → f' j = f j) : n' = n := by
  obtain ⟨a1, a2, a3, a4, a5, a6, a7, a8, a9, a10⟩ := hc
  obtain ⟨b1, b2, b3, b4, b5, b6, b7, b8, b9, b10⟩ := hc'
  by_cases h0 : c = 0
  · rw [a9 h0, b9 h0]
  · have e : ∀ k, k < 4 → f' (65 + 24 * k + x) = f (65 + 24 * k + x) := fun k hk => by
      by_cases q : 65 + 24 * k + x < 73
      · exact h1 _ q
      · exact h2 h0 _ (by omega) (by omega)
    by_cases q1 : n < n'
    · obtain ⟨_, _, _, ⟨v, v1, v2⟩, _⟩ := (b10 n (by omega)).1 q1
      have z := ((a10 n (by omega)).2 (Nat.le_refl _)).2.2.1
      rw [e n (by omega), z] at v2
      exact absurd v2.symm (n_ne1' (by omega))
    · by_cases q2 : n' < n
      · obtain ⟨_, _, _, ⟨v, v1, v2⟩, _⟩ := (a10 n' (by omega)).1 q2
        have z := ((b10 n' (by omega)).2 (Nat.le_refl _)).2.2.1
        rw [← e n' (by omega), z] at v2
        exact absurd v2.symm (n_ne1' (by omega))
      · omega
theorem lk_cell_g (hc : rl_cb f g x c n) (hc' : rl_cb f' g' x c n') (hx : x < 8) (hcb : c < 2147483648) (h1 : ∀ j, j < 73 → f' j = f j) (h2 : ¬ c = 0 → ∀ j, 73 ≤ j → j < 145 → f' j = f j) : ∀ i, i < 18 → g' (18 * x + i) = g (18 * x + i) := by
  have hn := lk_n hc hc' hx hcb h1 h2
  subst hn
  obtain ⟨a1, a2, a3, a4, a5, a6, a7, a8, a9, a10⟩ := hc
  obtain ⟨b1, b2, b3, b4, b5, b6, b7, b8, b9, b10⟩ := hc'
  intro i hi
  by_cases q3 : i < 3
  · obtain rfl | rfl | rfl : i = 0 ∨ i = 1 ∨ i = 2 := by omega
    · exact b6.symm.trans ((h1 _ (by omega)).trans a6)
    · exact b7.symm.trans ((h1 _ (by omega)).trans a7)
    · exact b8.symm.trans ((h1 _ (by omega)).trans a8)
  · by_cases q15 : 15 ≤ i
    · obtain rfl | rfl | rfl : i = 15 ∨ i = 16 ∨ i = 17 := by omega
      · exact b3.trans a3.symm
      · exact b4.symm.trans ((h1 _ (by omega)).trans a4)
      · exact b5.symm.trans ((h1 _ (by omega)).trans a5)
    · obtain ⟨k, r, hk, hr, rfl⟩ : ∃ k r, k < 4 ∧ r < 3 ∧ i = 3 + 3 * k + r := ⟨(i - 3) / 3, (i - 3) % 3, by omega, by omega, by omega⟩
      by_cases hkn : k < n'
      · have e : ∀ j, j < 73 ∨ (73 ≤ j ∧ 1 ≤ k ∧ j < 145) → f' j = f j := fun j hj => by
          by_cases q : j < 73
          · exact h1 j q
          · exact h2 (fun q0 => by have := a9 q0; omega) j (by omega) (by omega)
        obtain ⟨s1, s2, s3, _⟩ := (a10 k hk).1 hkn
        obtain ⟨t1, t2, t3, _⟩ := (b10 k hk).1 hkn
        obtain rfl | rfl | rfl : r = 0 ∨ r = 1 ∨ r = 2 := by omega
        · rw [show 18 * x + (3 + 3 * k + 0) = 18 * x + 3 + 3 * k by omega, ← t1, ← s1]; exact e _ (by omega)
        · rw [show 18 * x + (3 + 3 * k + 1) = 18 * x + 3 + 3 * k + 1 by omega, ← t2, ← s2]; exact e _ (by omega)
        · rw [show 18 * x + (3 + 3 * k + 2) = 18 * x + 3 + 3 * k + 2 by omega, ← t3, ← s3]; exact e _ (by omega)
      · obtain ⟨_, _, _, s1, s2, s3⟩ := (a10 k hk).2 (by omega)
        obtain ⟨_, _, _, t1, t2, t3⟩ := (b10 k hk).2 (by omega)
        obtain rfl | rfl | rfl : r = 0 ∨ r = 1 ∨ r = 2 := by omega
        · rw [show 18 * x + (3 + 3 * k + 0) = 18 * x + 3 + 3 * k by omega, t1, s1]
        · rw [show 18 * x + (3 + 3 * k + 1) = 18 * x + 3 + 3 * k + 1 by omega, t2, s2]
        · rw [show 18 * x + (3 + 3 * k + 2) = 18 * x + 3 + 3 * k + 2 by omega, t3, s3]
theorem lk_cell_f (hc : rl_cb f g x c n) (hc' : rl_cb f' g' x c' n') (hg : ∀ i, i < 18 → g' (18 * x + i) = g (18 * x + i)) : f' (33 + x) = f (33 + x) ∧ f' (41 + x) = f (41 + x) ∧ ∀ k, k < 4 → f' (49 + 24 * k + x) = f (49 + 24 * k + x) ∧ f' (57 + 24 * k + x) = f (57 + 24 * k + x) ∧ f' (65 + 24 * k + x) = f (65 + 24 * k + x) := by
  obtain ⟨a1, a2, a3, a4, a5, a6, a7, a8, a9, a10⟩ := hc
  obtain ⟨b1, b2, b3, b4, b5, b6, b7, b8, b9, b10⟩ := hc'
  have hn : n' = n := n_inj (b3.symm.trans ((hg 15 (by omega)).trans a3)) (by omega) (by omega)
  subst hn
  refine ⟨b4.trans ((hg 16 (by omega)).trans a4.symm), b5.trans ((hg 17 (by omega)).trans a5.symm), fun k hk => ?_⟩
  by_cases hkn : k < n'
  · obtain ⟨s1, s2, s3, _⟩ := (a10 k hk).1 hkn
    obtain ⟨t1, t2, t3, _⟩ := (b10 k hk).1 hkn
    have g0 := hg (3 + 3 * k) (by omega)
    have g1 := hg (3 + 3 * k + 1) (by omega)
    have g2 := hg (3 + 3 * k + 2) (by omega)
    rw [show 18 * x + (3 + 3 * k) = 18 * x + 3 + 3 * k by omega] at g0
    rw [show 18 * x + (3 + 3 * k + 1) = 18 * x + 3 + 3 * k + 1 by omega] at g1
    rw [show 18 * x + (3 + 3 * k + 2) = 18 * x + 3 + 3 * k + 2 by omega] at g2
    exact ⟨t1.trans (g0.trans s1.symm), t2.trans (g1.trans s2.symm), t3.trans (g2.trans s3.symm)⟩
  · obtain ⟨s1, s2, s3, _⟩ := (a10 k hk).2 (by omega)
    obtain ⟨t1, t2, t3, _⟩ := (b10 k hk).2 (by omega)
    exact ⟨t1.trans s1.symm, t2.trans s2.symm, t3.trans s3.symm⟩
theorem lk_th_g (hu : u < 3) (ht : rl_tb f g u c d o) (ht' : rl_tb f' g' u c' d' o') (h1 : ∀ j, j < 73 → f' j = f j) (h561 : f' (561 + u) = f (561 + u)) (h3 : ¬ f (15 + u) = -1 → ∀ j, 145 + 47 * u ≤ j → j < 192 + 47 * u → f' j = f j) (h4 : ∀ j, 286 + 88 * u ≤ j → j < 286 + 88 * u + 22 * d → f' j = f j) : ∀ i, i < 151 → i ≠ 104 → g' (150 + 154 * u + i) = g (150 + 154 * u + i) := by
  obtain ⟨A, G, K, D, X, W, S, P, C, _, _⟩ := ht
  obtain ⟨A', G', K', D', X', W', S', P', C', _, _⟩ := ht'
  have e15 := h1 (15 + u) (by omega)
  have d4 := D.2.2.1
  have o4 := D.2.2.2.1
  have d4' := D'.2.2.1
  have o4' := D'.2.2.2.1
  have hd : d' = d := n_inj (D'.1.symm.trans ((h1 (12 + u) (by omega)).trans D.1)) (by omega) (by omega)
  have ho : o' = o := by
    have e1 := D.2.2.2.2.1
    have e2 := D'.2.2.2.2.1
    unfold c_outer at e1 e2
    rw [e15] at e2
    by_cases q : f (15 + u) = -1
    · rw [if_pos q] at e1 e2
      exact n_inj (e2.symm.trans e1) (by omega) (by omega)
    · rw [if_neg q] at e1 e2
      exact n_inj (e2.symm.trans ((h3 q _ (by omega) (by omega)).trans e1)) (by omega) (by omega)
  subst hd ho
  have wf : ∀ x, x < 8 → f' (152 + 47 * u + x) = f (152 + 47 * u + x) ∧ f' (160 + 47 * u + x) = f (160 + 47 * u + x) ∧ f' (168 + 47 * u + x) = f (168 + 47 * u + x) ∧ f' (176 + 47 * u + x) = f (176 + 47 * u + x) ∧ f' (184 + 47 * u + x) = f (184 + 47 * u + x) := fun x hx => by
    by_cases q : f (15 + u) = -1
    · obtain ⟨p1, p2, p3, p4, p5⟩ := C q x hx
      obtain ⟨q1, q2, q3, q4, q5⟩ := C' (e15.trans q) x hx
      exact ⟨q1.trans p1.symm, q2.trans p2.symm, q3.trans p3.symm, q4.trans p4.symm, q5.trans p5.symm⟩
    · exact ⟨h3 q _ (by omega) (by omega), h3 q _ (by omega) (by omega), h3 q _ (by omega) (by omega), h3 q _ (by omega) (by omega), h3 q _ (by omega) (by omega)⟩
  have kk : g' (150 + 154 * u + 101) = g (150 + 154 * u + 101) ∧ g' (150 + 154 * u + 102) = g (150 + 154 * u + 102) := by
    rcases K with ⟨p1, p2, p3⟩ | ⟨k, k4, p1, p2, p3⟩
    · rcases K' with ⟨q1, q2, q3⟩ | ⟨k', k4', q1, q2, q3⟩
      · exact ⟨q2.trans p2.symm, q3.trans p3.symm⟩
      · rw [e15, p1] at q1; exact absurd q1.symm (n_ne1' (by omega))
    · rcases K' with ⟨q1, q2, q3⟩ | ⟨k', k4', q1, q2, q3⟩
      · rw [e15, p1] at q1; exact absurd q1 (n_ne1' (by omega))
      · exact ⟨q2.trans p2.symm, q3.trans (q1.symm.trans (e15.trans (p1.trans p3.symm)))⟩
  have xx : g' (150 + 154 * u + 103) = g (150 + 154 * u + 103) ∧ g' (150 + 154 * u + 105) = g (150 + 154 * u + 105) ∧ ∀ r, r < 4 → g' (150 + 154 * u + 106 + r) = g (150 + 154 * u + 106 + r) := by
    by_cases q : f (15 + u) = -1
    · obtain ⟨p1, p2, p3⟩ := X.1 q
      obtain ⟨q1, q2, q3⟩ := X'.1 (e15.trans q)
      exact ⟨q1.trans p1.symm, q2.trans p2.symm, fun r hr => (q3 r hr).trans (p3 r hr).symm⟩
    · obtain ⟨p1, p2, p3⟩ := X.2 q
      obtain ⟨q1, q2, q3⟩ := X'.2 (fun z => q (e15.symm.trans z))
      exact ⟨q1.symm.trans ((h3 q _ (by omega) (by omega)).trans p1), q2.symm.trans ((h3 q _ (by omega) (by omega)).trans p2), fun r hr => (q3 r hr).symm.trans ((h3 q _ (by omega) (by omega)).trans (p3 r hr))⟩
  intro i hi h104
  by_cases q3 : i < 3
  · obtain rfl | rfl | rfl : i = 0 ∨ i = 1 ∨ i = 2 := by omega
    · exact A'.1.symm.trans ((h1 _ (by omega)).trans A.1)
    · exact A'.2.1.symm.trans ((h1 _ (by omega)).trans A.2.1)
    · exact A'.2.2.1.symm.trans ((h1 _ (by omega)).trans A.2.2.1)
  by_cases q7 : i < 7
  · obtain ⟨r, hr, rfl⟩ : ∃ r, r < 4 ∧ i = 3 + r := ⟨i - 3, by omega, by omega⟩
    rw [show 150 + 154 * u + (3 + r) = 150 + 154 * u + 3 + r by omega]
    exact (G' r hr).symm.trans ((h1 _ (by omega)).trans (G r hr))
  by_cases q9 : i < 9
  · obtain rfl | rfl : i = 7 ∨ i = 8 := by omega
    · exact A'.2.2.2.symm.trans (h561.trans A.2.2.2)
    · exact D'.2.1.trans D.2.1.symm
  by_cases q101 : i < 101
  · obtain ⟨k, r, hk, hr, rfl⟩ : ∃ k r, k < 4 ∧ r < 23 ∧ i = 9 + 23 * k + r := ⟨(i - 9) / 23, (i - 9) % 23, by omega, by omega, by omega⟩
    rw [show 150 + 154 * u + (9 + 23 * k + r) = 150 + 154 * u + 9 + 23 * k + r by omega]
    by_cases hkd : k < d'
    · have ec := c_sc_def u k
      obtain ⟨s1, s2, _, s3, s4, s5, _⟩ := (S k hk).1 hkd
      obtain ⟨t1, t2, _, t3, t4, t5, _⟩ := (S' k hk).1 hkd
      have E : ∀ j, j < 22 → f' (286 + c_sc u k + j) = f (286 + c_sc u k + j) := fun j hj => h4 _ (by omega) (by omega)
      by_cases r0 : r = 0
      · subst r0
        have e0 := E 0 (by omega)
        rw [Nat.add_zero] at e0
        rw [e0] at t1
        exact lk_sort s1 t1
      by_cases r1 : r = 1
      · subst r1
        have e0 := E 1 (by omega)
        rw [show 286 + c_sc u k + 1 = 287 + c_sc u k by omega] at e0
        exact t2.symm.trans (e0.trans s2)
      by_cases r2 : r = 2
      · subst r2
        rw [t3, s3, e15]
      by_cases r7 : r < 7
      · obtain ⟨q, hq, rfl⟩ : ∃ q, q < 4 ∧ r = 3 + q := ⟨r - 3, by omega, by omega⟩
        have e0 := E (2 + q) (by omega)
        rw [show 286 + c_sc u k + (2 + q) = 288 + c_sc u k + q by omega] at e0
        rw [show 150 + 154 * u + 9 + 23 * k + (3 + q) = 150 + 154 * u + 9 + 23 * k + 3 + q by omega]
        exact (t4 q hq).symm.trans (e0.trans (s4 q hq))
      · obtain ⟨x, q, hx, hq, rfl⟩ : ∃ x q, x < 8 ∧ q < 2 ∧ r = 7 + 2 * x + q := ⟨(r - 7) / 2, (r - 7) % 2, by omega, by omega, by omega⟩
        obtain ⟨a1, a2, _⟩ := s5 x hx
        obtain ⟨b1, b2, _⟩ := t5 x hx
        obtain rfl | rfl : q = 0 ∨ q = 1 := by omega
        · have e0 := E (6 + x) (by omega)
          rw [show 286 + c_sc u k + (6 + x) = 292 + c_sc u k + x by omega] at e0
          rw [show 150 + 154 * u + 9 + 23 * k + (7 + 2 * x + 0) = 150 + 154 * u + 9 + 23 * k + 7 + 2 * x by omega]
          exact b1.symm.trans (e0.trans a1)
        · have e0 := E (14 + x) (by omega)
          rw [show 286 + c_sc u k + (14 + x) = 300 + c_sc u k + x by omega] at e0
          rw [show 150 + 154 * u + 9 + 23 * k + (7 + 2 * x + 1) = 150 + 154 * u + 9 + 23 * k + 7 + 2 * x + 1 by omega]
          exact b2.symm.trans (e0.trans a2)
    · rw [(S k hk).2 (by omega) r hr, (S' k hk).2 (by omega) r hr]
  by_cases q103 : i < 103
  · obtain rfl | rfl : i = 101 ∨ i = 102 := by omega
    · exact kk.1
    · exact kk.2
  by_cases q106 : i < 106
  · obtain rfl | rfl : i = 103 ∨ i = 105 := by omega
    · exact xx.1
    · exact xx.2.1
  by_cases q110 : i < 110
  · obtain ⟨r, hr, rfl⟩ : ∃ r, r < 4 ∧ i = 106 + r := ⟨i - 106, by omega, by omega⟩
    rw [show 150 + 154 * u + (106 + r) = 150 + 154 * u + 106 + r by omega]
    exact xx.2.2 r hr
  by_cases q111 : i = 110
  · subst q111
    exact D'.2.2.2.2.2.trans D.2.2.2.2.2.symm
  by_cases q119 : i < 119
  · obtain ⟨x, hx, rfl⟩ : ∃ x, x < 8 ∧ i = 111 + x := ⟨i - 111, by omega, by omega⟩
    rw [show 150 + 154 * u + (111 + x) = 150 + 154 * u + 111 + x by omega]
    exact (W' x hx).1.symm.trans ((wf x hx).1.trans (W x hx).1)
  by_cases q135 : i < 135
  · obtain ⟨x, q, hx, hq, rfl⟩ : ∃ x q, x < 8 ∧ q < 2 ∧ i = 119 + 2 * x + q := ⟨(i - 119) / 2, (i - 119) % 2, by omega, by omega, by omega⟩
    obtain rfl | rfl : q = 0 ∨ q = 1 := by omega
    · rw [show 150 + 154 * u + (119 + 2 * x + 0) = 150 + 154 * u + 119 + 2 * x by omega]
      exact (W' x hx).2.1.symm.trans ((wf x hx).2.1.trans (W x hx).2.1)
    · rw [show 150 + 154 * u + (119 + 2 * x + 1) = 150 + 154 * u + 120 + 2 * x by omega]
      exact (W' x hx).2.2.1.symm.trans ((wf x hx).2.2.1.trans (W x hx).2.2.1)
  · obtain ⟨x, q, hx, hq, rfl⟩ : ∃ x q, x < 8 ∧ q < 2 ∧ i = 135 + 2 * x + q := ⟨(i - 135) / 2, (i - 135) % 2, by omega, by omega, by omega⟩
    obtain rfl | rfl : q = 0 ∨ q = 1 := by omega
    · rw [show 150 + 154 * u + (135 + 2 * x + 0) = 150 + 154 * u + 135 + 2 * x by omega]
      exact (W' x hx).2.2.2.1.symm.trans ((wf x hx).2.2.2.1.trans (W x hx).2.2.2.1)
    · rw [show 150 + 154 * u + (135 + 2 * x + 1) = 150 + 154 * u + 136 + 2 * x by omega]
      exact (W' x hx).2.2.2.2.1.symm.trans ((wf x hx).2.2.2.2.trans (W x hx).2.2.2.2.1)
theorem lk_th_f (hu : u < 3) (ht : rl_tb f g u c d o) (ht' : rl_tb f' g' u c' d' o') (hg : ∀ i, i < 151 → i ≠ 104 → g' (150 + 154 * u + i) = g (150 + 154 * u + i)) : (f' (3 + u) = f (3 + u) ∧ f' (6 + u) = f (6 + u) ∧ f' (9 + u) = f (9 + u) ∧ f' (12 + u) = f (12 + u) ∧ f' (15 + u) = f (15 + u) ∧ ∀ r, r < 4 → f' (21 + 4 * u + r) = f (21 + 4 * u + r)) ∧ (¬ f (15 + u) = -1 → ∀ j, 145 + 47 * u ≤ j → j < 192 + 47 * u → f' j = f j) ∧ ∀ j, 286 + 88 * u ≤ j → j < 286 + 88 * u + 22 * d → f' j = f j := by
  obtain ⟨A, G, K, D, X, W, S, P, C, _, _⟩ := ht
  obtain ⟨A', G', K', D', X', W', S', P', C', _, _⟩ := ht'
  have d4 := D.2.2.1
  have o4 := D.2.2.2.1
  have d4' := D'.2.2.1
  have o4' := D'.2.2.2.1
  have hd : d' = d := n_inj (D'.2.1.symm.trans ((hg 8 (by omega) (by omega)).trans D.2.1)) (by omega) (by omega)
  have ho : o' = o := n_inj (D'.2.2.2.2.2.symm.trans ((hg 110 (by omega) (by omega)).trans D.2.2.2.2.2)) (by omega) (by omega)
  subst hd ho
  have n01 : ¬ nI 0 = nI 1 := by decide
  have e101 := hg 101 (by omega) (by omega)
  have e102 := hg 102 (by omega) (by omega)
  have e15 : f' (15 + u) = f (15 + u) := by
    rcases K with ⟨p1, p2, p3⟩ | ⟨k, k4, p1, p2, p3⟩
    · rcases K' with ⟨q1, q2, q3⟩ | ⟨k', k4', q1, q2, q3⟩
      · exact q1.trans p1.symm
      · rw [q2, p2] at e101; exact absurd e101.symm n01
    · rcases K' with ⟨q1, q2, q3⟩ | ⟨k', k4', q1, q2, q3⟩
      · rw [q2, p2] at e101; exact absurd e101 n01
      · exact q1.trans (q3.symm.trans (e102.trans (p3.trans p1.symm)))
  refine ⟨⟨A'.1.trans ((hg 0 (by omega) (by omega)).trans A.1.symm), A'.2.1.trans ((hg 1 (by omega) (by omega)).trans A.2.1.symm), A'.2.2.1.trans ((hg 2 (by omega) (by omega)).trans A.2.2.1.symm), D'.1.trans D.1.symm, e15, fun r hr => ?_⟩, fun hi j j1 j2 => ?_, fun j j1 j2 => ?_⟩
  · have e := hg (3 + r) (by omega) (by omega)
    rw [show 150 + 154 * u + (3 + r) = 150 + 154 * u + 3 + r by omega] at e
    exact (G' r hr).trans (e.trans (G r hr).symm)
  · have hi' : ¬ f' (15 + u) = -1 := fun q => hi (e15.symm.trans q)
    obtain ⟨p1, p2, p3⟩ := X.2 hi
    obtain ⟨q1, q2, q3⟩ := X'.2 hi'
    by_cases k0 : j = 145 + 47 * u
    · subst k0
      exact q1.trans ((hg 103 (by omega) (by omega)).trans p1.symm)
    by_cases k1 : j = 146 + 47 * u
    · subst k1
      exact q2.trans ((hg 105 (by omega) (by omega)).trans p2.symm)
    by_cases k2 : j = 147 + 47 * u
    · subst k2
      have e1 := D.2.2.2.2.1
      have e2 := D'.2.2.2.2.1
      unfold c_outer at e1 e2
      rw [if_neg hi] at e1
      rw [if_neg hi'] at e2
      exact e2.trans e1.symm
    by_cases k6 : j < 152 + 47 * u
    · obtain ⟨r, hr, rfl⟩ : ∃ r, r < 4 ∧ j = 148 + 47 * u + r := ⟨j - (148 + 47 * u), by omega, by omega⟩
      have e := hg (106 + r) (by omega) (by omega)
      rw [show 150 + 154 * u + (106 + r) = 150 + 154 * u + 106 + r by omega] at e
      exact (q3 r hr).trans (e.trans (p3 r hr).symm)
    · obtain ⟨p, x, hp, hx, rfl⟩ : ∃ p x, p < 5 ∧ x < 8 ∧ j = 152 + 47 * u + 8 * p + x := ⟨(j - (152 + 47 * u)) / 8, (j - (152 + 47 * u)) % 8, by omega, by omega, by omega⟩
      obtain ⟨a1, a2, a3, a4, a5, _⟩ := W x hx
      obtain ⟨b1, b2, b3, b4, b5, _⟩ := W' x hx
      obtain rfl | rfl | rfl | rfl | rfl : p = 0 ∨ p = 1 ∨ p = 2 ∨ p = 3 ∨ p = 4 := by omega
      · have e := hg (111 + x) (by omega) (by omega)
        rw [show 150 + 154 * u + (111 + x) = 150 + 154 * u + 111 + x by omega] at e
        exact b1.trans (e.trans a1.symm)
      · rw [show 152 + 47 * u + 8 * 1 + x = 160 + 47 * u + x by omega]
        have e := hg (119 + 2 * x) (by omega) (by omega)
        rw [show 150 + 154 * u + (119 + 2 * x) = 150 + 154 * u + 119 + 2 * x by omega] at e
        exact b2.trans (e.trans a2.symm)
      · rw [show 152 + 47 * u + 8 * 2 + x = 168 + 47 * u + x by omega]
        have e := hg (120 + 2 * x) (by omega) (by omega)
        rw [show 150 + 154 * u + (120 + 2 * x) = 150 + 154 * u + 120 + 2 * x by omega] at e
        exact b3.trans (e.trans a3.symm)
      · rw [show 152 + 47 * u + 8 * 3 + x = 176 + 47 * u + x by omega]
        have e := hg (135 + 2 * x) (by omega) (by omega)
        rw [show 150 + 154 * u + (135 + 2 * x) = 150 + 154 * u + 135 + 2 * x by omega] at e
        exact b4.trans (e.trans a4.symm)
      · rw [show 152 + 47 * u + 8 * 4 + x = 184 + 47 * u + x by omega]
        have e := hg (136 + 2 * x) (by omega) (by omega)
        rw [show 150 + 154 * u + (136 + 2 * x) = 150 + 154 * u + 136 + 2 * x by omega] at e
        exact b5.trans (e.trans a5.symm)
  · obtain ⟨k, r, hk, hr, rfl⟩ : ∃ k r, k < d' ∧ r < 22 ∧ j = 286 + 88 * u + 22 * k + r := ⟨(j - (286 + 88 * u)) / 22, (j - (286 + 88 * u)) % 22, by omega, by omega, by omega⟩
    have hk4 : k < 4 := by omega
    have ec := c_sc_def u k
    obtain ⟨s1, s2, _, s3, s4, s5, _⟩ := (S k hk4).1 hk
    obtain ⟨t1, t2, _, t3, t4, t5, _⟩ := (S' k hk4).1 hk
    have E : ∀ i, i < 23 → g' (150 + 154 * u + 9 + 23 * k + i) = g (150 + 154 * u + 9 + 23 * k + i) := fun i hi => by
      have e := hg (9 + 23 * k + i) (by omega) (by omega)
      rw [show 150 + 154 * u + (9 + 23 * k + i) = 150 + 154 * u + 9 + 23 * k + i by omega] at e
      exact e
    rw [show 286 + 88 * u + 22 * k + r = 286 + c_sc u k + r by omega]
    by_cases r0 : r = 0
    · subst r0
      have e0 := E 0 (by omega)
      rw [Nat.add_zero] at e0
      rw [e0] at t1
      exact lk_sort2 s1 t1
    by_cases r1 : r = 1
    · subst r1
      rw [show 286 + c_sc u k + 1 = 287 + c_sc u k by omega]
      exact t2.trans ((E 1 (by omega)).trans s2.symm)
    by_cases r6 : r < 6
    · obtain ⟨q, hq, rfl⟩ : ∃ q, q < 4 ∧ r = 2 + q := ⟨r - 2, by omega, by omega⟩
      have e0 := E (3 + q) (by omega)
      rw [show 150 + 154 * u + 9 + 23 * k + (3 + q) = 150 + 154 * u + 9 + 23 * k + 3 + q by omega] at e0
      rw [show 286 + c_sc u k + (2 + q) = 288 + c_sc u k + q by omega]
      exact (t4 q hq).trans (e0.trans (s4 q hq).symm)
    by_cases r14 : r < 14
    · obtain ⟨x, hx, rfl⟩ : ∃ x, x < 8 ∧ r = 6 + x := ⟨r - 6, by omega, by omega⟩
      obtain ⟨a1, a2, _⟩ := s5 x hx
      obtain ⟨b1, b2, _⟩ := t5 x hx
      have e0 := E (7 + 2 * x) (by omega)
      rw [show 150 + 154 * u + 9 + 23 * k + (7 + 2 * x) = 150 + 154 * u + 9 + 23 * k + 7 + 2 * x by omega] at e0
      rw [show 286 + c_sc u k + (6 + x) = 292 + c_sc u k + x by omega]
      exact b1.trans (e0.trans a1.symm)
    · obtain ⟨x, hx, rfl⟩ : ∃ x, x < 8 ∧ r = 14 + x := ⟨r - 14, by omega, by omega⟩
      obtain ⟨a1, a2, _⟩ := s5 x hx
      obtain ⟨b1, b2, _⟩ := t5 x hx
      have e0 := E (7 + 2 * x + 1) (by omega)
      rw [show 150 + 154 * u + 9 + 23 * k + (7 + 2 * x + 1) = 150 + 154 * u + 9 + 23 * k + 7 + 2 * x + 1 by omega] at e0
      rw [show 286 + c_sc u k + (14 + x) = 300 + c_sc u k + x by omega]
      exact b2.trans (e0.trans a2.symm)
theorem z_el_eq (hL : rl_L f g h c b b2) (hu : u < 3) (hv : v < 3) : d_elx g u v = z_el f u v := by
  have i0 : ∀ w, w < 3 → (g (150 + 154 * w + 101) = nI 0 ↔ f (15 + w) = -1) := fun w hw => by
    obtain ⟨d, o, ht⟩ := hL.2.1 w hw
    have n10 : ¬ nI 1 = nI 0 := by decide
    rcases rl_g101 ht with ⟨q1, q2⟩ | ⟨q1, q2, _⟩
    · rw [q2]; exact ⟨fun _ => q1, fun _ => rfl⟩
    · rw [q2]; exact ⟨fun z => absurd z n10, fun z => absurd z q1⟩
  unfold d_elx z_el
  have i2 : (g (150 + 154 * u + 101) = nI 0 ∨ g (150 + 154 * v + 101) = nI 0) ↔ (f (15 + u) = -1 ∨ f (15 + v) = -1) := by rw [i0 u hu, i0 v hv]
  by_cases q : f (15 + u) = -1 ∨ f (15 + v) = -1
  · rw [if_pos (i2.mpr q), if_pos q]
  · rw [if_neg (fun z => q (i2.mp z)), if_neg q]
    have e := ((hL.2.2.2.2.2.2.2 u hu (fun z => q (Or.inl z))).2.2 v hv (fun z => q (Or.inr z))).1
    by_cases q2 : f (18 + u) < f (18 + v)
    · rw [if_pos q2, if_pos (e.mp q2)]
    · rw [if_neg q2, if_neg (fun z => q2 (e.mpr z))]
theorem z_el_lt (h : z_el f' u v = z_el f u v) (iu : ¬ f (15 + u) = -1) (iv : ¬ f (15 + v) = -1) (eu : f' (15 + u) = f (15 + u)) (ev : f' (15 + v) = f (15 + v)) : f' (18 + u) < f' (18 + v) ↔ f (18 + u) < f (18 + v) := by
  have q : ¬ (f (15 + u) = -1 ∨ f (15 + v) = -1) := fun z => z.elim iu iv
  have n12 : ¬ nI 1 = nI 2 := by decide
  have n21 : ¬ nI 2 = nI 1 := by decide
  unfold z_el at h
  rw [eu, ev, if_neg q, if_neg q] at h
  by_cases q1 : f' (18 + u) < f' (18 + v)
  · rw [if_pos q1] at h
    by_cases q2 : f (18 + u) < f (18 + v)
    · exact ⟨fun _ => q2, fun _ => q1⟩
    · rw [if_neg q2] at h; exact absurd h n12
  · rw [if_neg q1] at h
    by_cases q2 : f (18 + u) < f (18 + v)
    · rw [if_pos q2] at h; exact absurd h n21
    · exact ⟨fun z => absurd z q1, fun z => absurd z q2⟩
theorem z_RK_eq (hd : ∀ v w, v < 3 → w < 3 → ¬ f (15 + v) = -1 → ¬ f (15 + w) = -1 → ¬ v = w → ¬ f (18 + v) = f (18 + w)) (hd' : ∀ v w, v < 3 → w < 3 → ¬ f' (15 + v) = -1 → ¬ f' (15 + w) = -1 → ¬ v = w → ¬ f' (18 + v) = f' (18 + w)) (r : z_RK f) (r' : z_RK f') (e15 : ∀ u, u < 3 → f' (15 + u) = f (15 + u)) (e1 : z_el f' 0 1 = z_el f 0 1) (e2 : z_el f' 0 2 = z_el f 0 2) (e3 : z_el f' 1 2 = z_el f 1 2) (hu : u < 3) : f' (18 + u) = f (18 + u) := by
  have E : ∀ v w, v < w → w < 3 → z_el f' v w = z_el f v w := fun v w h1 h2 => by
    obtain ⟨rfl, rfl⟩ | ⟨rfl, rfl⟩ | ⟨rfl, rfl⟩ : (v = 0 ∧ w = 1) ∨ (v = 0 ∧ w = 2) ∨ (v = 1 ∧ w = 2) := by omega
    · exact e1
    · exact e2
    · exact e3
  rw [r u hu, r' u hu]
  unfold z_rk
  rw [e15 u hu]
  by_cases iu : f (15 + u) = -1
  · rw [if_pos iu, if_pos iu]
  · rw [if_neg iu, if_neg iu]
    have z : ∀ v, v < 3 → z_z f' v u = z_z f v u := fun v hv => by
      unfold z_z
      rw [e15 v hv]
      by_cases iv : f (15 + v) = -1
      · rw [if_neg (fun q => q.1 iv), if_neg (fun q => q.1 iv)]
      · have iff : f' (18 + v) < f' (18 + u) ↔ f (18 + v) < f (18 + u) := by
          by_cases c1 : v < u
          · exact z_el_lt (E v u c1 hu) iv iu (e15 v hv) (e15 u hu)
          · by_cases c2 : u < v
            · have t := z_el_lt (E u v c2 hv) iu iv (e15 u hu) (e15 v hv)
              have iu' : ¬ f' (15 + u) = -1 := by rw [e15 u hu]; exact iu
              have iv' : ¬ f' (15 + v) = -1 := by rw [e15 v hv]; exact iv
              refine ⟨fun q => ?_, fun q => ?_⟩
              · exact n_tri (hd u v hu hv iu iv (by omega)) (fun z => Int32.lt_irrefl (Int32.lt_trans q (t.mpr z)))
              · exact n_tri (hd' u v hu hv iu' iv' (by omega)) (fun z => Int32.lt_irrefl (Int32.lt_trans q (t.mp z)))
            · have : v = u := by omega
              subst this
              exact ⟨fun q => (Int32.lt_irrefl q).elim, fun q => (Int32.lt_irrefl q).elim⟩
        by_cases q : f (18 + v) < f (18 + u)
        · rw [if_pos ⟨iv, iff.mpr q⟩, if_pos ⟨iv, q⟩]
        · rw [if_neg (fun z => q (iff.mp z.2)), if_neg (fun z => q z.2)]
    rw [z 0 (by omega), z 1 (by omega), z 2 (by omega)]
theorem lk_to (hL : rl_L f g h c b b2) (hL' : rl_L f' g' h' c' b' b2') (hc : c < 2147483648) (hc' : c' < 2147483648) (h561 : ∀ u, u < 3 → f' (561 + u) = f (561 + u)) (hk : z_lk f' f) : d_lk g' g := by
  obtain ⟨k1, k2, k3⟩ := hk
  have ec : c' = c := n_inj (hL'.1.1.symm.trans ((k1 0 (by omega)).trans hL.1.1)) hc' hc
  subst ec
  have k2' : ¬ c' = 0 → ∀ j, 73 ≤ j → j < 145 → f' j = f j := fun q => k2 (by rw [hL.1.1, n_lt (by omega) hc']; omega)
  have el : ∀ u v, u < 3 → v < 3 → d_elx g' u v = d_elx g u v := fun u v hu hv => by
    rw [z_el_eq hL hu hv, z_el_eq hL' hu hv]
    unfold z_el
    rw [k1 (15 + u) (by omega), k1 (15 + v) (by omega), k1 (18 + u) (by omega), k1 (18 + v) (by omega)]
  refine ⟨fun k hk cm => ?_, el 0 1 (by omega) (by omega), el 0 2 (by omega) (by omega), el 1 2 (by omega) (by omega)⟩
  by_cases q : k < 144
  · obtain ⟨x, i, hx, hi, rfl⟩ : ∃ x i, x < 8 ∧ i < 18 ∧ k = 18 * x + i := ⟨k / 18, k % 18, by omega, by omega, by omega⟩
    obtain ⟨n, hn⟩ := hL.2.2.1 x hx
    obtain ⟨n', hn'⟩ := hL'.2.2.1 x hx
    exact lk_cell_g hn hn' hx hc' k1 k2' i hi
  · by_cases q2 : k < 150
    · obtain ⟨a0, a1, a2, a3, a4, a5, a6, a7⟩ := hL.1
      obtain ⟨b0, b1, b2, b3, b4, b5, b6, b7⟩ := hL'.1
      obtain rfl | rfl | rfl | rfl | rfl | rfl : k = 144 ∨ k = 145 ∨ k = 146 ∨ k = 147 ∨ k = 148 ∨ k = 149 := by omega
      · exact b1.trans a1.symm
      · exact b2.symm.trans ((k1 1 (by omega)).trans a2)
      · exact b3.symm.trans ((k1 2 (by omega)).trans a3)
      · exact b5.trans a5.symm
      · exact b6.trans a6.symm
      · exact b7.trans a7.symm
    · obtain ⟨u, i, hu, hi, rfl⟩ : ∃ u i, u < 3 ∧ i < 154 ∧ k = 150 + 154 * u + i := ⟨(k - 150) / 154, (k - 150) % 154, by omega, by omega, by omega⟩
      have e : (150 + 154 * u + i - 150) % 154 = i := by omega
      rcases cm with cm | ⟨cm, cm2⟩
      · omega
      rw [e] at cm cm2
      obtain ⟨d, o, ht⟩ := hL.2.1 u hu
      obtain ⟨d', o', ht'⟩ := hL'.2.1 u hu
      obtain ⟨k4, k5⟩ := k3 u hu
      have ed : (f (12 + u)).toNatClampNeg = d := by rw [ht.2.2.2.1.1]; exact nI_clamp (by have := ht.2.2.2.1.2.2.1; omega)
      rw [ed] at k5
      exact lk_th_g hu ht ht' k1 (h561 u hu) k4 k5 i cm2 cm
theorem lk_from (hL : rl_L f g h c b b2) (hL' : rl_L f' g' h' c' b' b2') (hr : z_RK f) (hr' : z_RK f') (hk : d_lk g' g) : z_lk f' f := by
  obtain ⟨k1, k2, k3, k4⟩ := hk
  have G : ∀ u, u < 3 → ∀ i, i < 151 → i ≠ 104 → g' (150 + 154 * u + i) = g (150 + 154 * u + i) := fun u hu i hi h4 => k1 _ (by omega) (Or.inr ⟨by omega, by omega⟩)
  have T : ∀ u, u < 3 → ∃ d, (f (12 + u)).toNatClampNeg = d ∧ (f' (3 + u) = f (3 + u) ∧ f' (6 + u) = f (6 + u) ∧ f' (9 + u) = f (9 + u) ∧ f' (12 + u) = f (12 + u) ∧ f' (15 + u) = f (15 + u) ∧ ∀ r, r < 4 → f' (21 + 4 * u + r) = f (21 + 4 * u + r)) ∧ (¬ f (15 + u) = -1 → ∀ j, 145 + 47 * u ≤ j → j < 192 + 47 * u → f' j = f j) ∧ ∀ j, 286 + 88 * u ≤ j → j < 286 + 88 * u + 22 * d → f' j = f j := fun u hu => by
    obtain ⟨d, o, ht⟩ := hL.2.1 u hu
    obtain ⟨d', o', ht'⟩ := hL'.2.1 u hu
    exact ⟨d, by rw [ht.2.2.2.1.1]; exact nI_clamp (by have := ht.2.2.2.1.2.2.1; omega), lk_th_f hu ht ht' (G u hu)⟩
  have X : ∀ x, x < 8 → f' (33 + x) = f (33 + x) ∧ f' (41 + x) = f (41 + x) ∧ ∀ k, k < 4 → f' (49 + 24 * k + x) = f (49 + 24 * k + x) ∧ f' (57 + 24 * k + x) = f (57 + 24 * k + x) ∧ f' (65 + 24 * k + x) = f (65 + 24 * k + x) := fun x hx => by
    obtain ⟨n, hn⟩ := hL.2.2.1 x hx
    obtain ⟨n', hn'⟩ := hL'.2.2.1 x hx
    exact lk_cell_f hn hn' (fun i hi => k1 _ (by omega) (Or.inl (by omega)))
  have X2 : ∀ j, 49 ≤ j → j < 145 → f' j = f j := fun j j1 j2 => by
    obtain ⟨k, p, x, hk, hp, hx, rfl⟩ : ∃ k p x, k < 4 ∧ p < 3 ∧ x < 8 ∧ j = 49 + 24 * k + 8 * p + x := ⟨(j - 49) / 24, (j - 49) % 24 / 8, (j - 49) % 8, by omega, by omega, by omega, by omega⟩
    obtain ⟨a1, a2, a3⟩ := (X x hx).2.2 k hk
    obtain rfl | rfl | rfl : p = 0 ∨ p = 1 ∨ p = 2 := by omega
    · exact a1
    · rw [show 49 + 24 * k + 8 * 1 + x = 57 + 24 * k + x by omega]; exact a2
    · rw [show 49 + 24 * k + 8 * 2 + x = 65 + 24 * k + x by omega]; exact a3
  have e15 : ∀ u, u < 3 → f' (15 + u) = f (15 + u) := fun u hu => by
    obtain ⟨d, _, ⟨_, _, _, _, q, _⟩, _⟩ := T u hu
    exact q
  rw [z_el_eq hL (by omega) (by omega), z_el_eq hL' (by omega) (by omega)] at k2 k3 k4
  refine ⟨fun j hj => ?_, fun _ => fun j j1 j2 => X2 j (by omega) j2, fun u hu => ?_⟩
  · by_cases q3 : j < 3
    · obtain ⟨a0, a1, a2, a3, a4, a5, a6, a7⟩ := hL.1
      obtain ⟨b0, b1, b2, b3, b4, b5, b6, b7⟩ := hL'.1
      obtain rfl | rfl | rfl : j = 0 ∨ j = 1 ∨ j = 2 := by omega
      · exact b0.trans (b1.symm.trans ((k1 144 (by omega) (Or.inl (by omega))).trans (a1.trans a0.symm)))
      · exact b2.trans ((k1 145 (by omega) (Or.inl (by omega))).trans a2.symm)
      · exact b3.trans ((k1 146 (by omega) (Or.inl (by omega))).trans a3.symm)
    · by_cases q21 : j < 21
      · obtain ⟨p, u, hp, hu, rfl⟩ : ∃ p u, p < 6 ∧ u < 3 ∧ j = 3 + 3 * p + u := ⟨(j - 3) / 3, (j - 3) % 3, by omega, by omega, by omega⟩
        obtain ⟨d, _, ⟨t1, t2, t3, t4, t5, t6⟩, _⟩ := T u hu
        obtain rfl | rfl | rfl | rfl | rfl | rfl : p = 0 ∨ p = 1 ∨ p = 2 ∨ p = 3 ∨ p = 4 ∨ p = 5 := by omega
        · exact t1
        · exact t2
        · exact t3
        · exact t4
        · exact t5
        · exact z_RK_eq (rl_dist hL) (rl_dist hL') hr hr' e15 k2 k3 k4 hu
      · by_cases q33 : j < 33
        · obtain ⟨u, r, hu, hr, rfl⟩ : ∃ u r, u < 3 ∧ r < 4 ∧ j = 21 + 4 * u + r := ⟨(j - 21) / 4, (j - 21) % 4, by omega, by omega, by omega⟩
          obtain ⟨d, _, ⟨t1, t2, t3, t4, t5, t6⟩, _⟩ := T u hu
          exact t6 r hr
        · by_cases q41 : j < 41
          · obtain ⟨x, hx, rfl⟩ : ∃ x, x < 8 ∧ j = 33 + x := ⟨j - 33, by omega, by omega⟩
            exact (X x hx).1
          · by_cases q49 : j < 49
            · obtain ⟨x, hx, rfl⟩ : ∃ x, x < 8 ∧ j = 41 + x := ⟨j - 41, by omega, by omega⟩
              exact (X x hx).2.1
            · exact X2 j (by omega) (by omega)
  · obtain ⟨d, ed, _, t2, t3⟩ := T u hu
    rw [ed]
    exact ⟨t2, t3⟩
end RBB
