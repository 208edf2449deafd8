/-! class and model alike: the order -/
def rl_mk (a b : Int32) : Prop := a = b ∨ (a = nI 0 ∧ b = -1)
def rl_n1 (ww : Nat → Int32) (o : m_I) (i : Nat) : Prop := ww (i * 35) = o 40 i ∧ ww (i * 35 + 1) = o 41 i ∧ (∀ j, j < 32 → ww (i * 35 + 2 + j) = o 43 (32 * i + j)) ∧ rl_mk (ww (i * 35 + 34)) (o 42 i)
/-- k have counted, n are noted -/
def rl_Nt (nn ww h : Nat → Int32) (o : m_I) (k n : Nat) : Prop := nn 2 = nI k ∧ h 4 = nI k ∧ h 17 = nI n ∧ ((k ≤ 60 ∧ n = k) ∨ (60 < k ∧ n = 60)) ∧ ∀ i, i < n → rl_n1 ww o i
section RLN
variable {f g h nn ww ww' : Nat → Int32} {o o' : m_I} {u x k n p c b b2 d j r : Nat} {y z kd made ck : Int32}
theorem rl_ins (hN : ∀ i, i < k → rl_n1 ww o i) (hp : p ≤ k) (wl : ∀ j, j < p * 35 → ww' j = ww j) (wh : ∀ j, p * 35 + 35 ≤ j → j < k * 35 + 35 → ww' j = ww (j - 35)) (ol : ∀ i, i < p → o' 40 i = o 40 i ∧ o' 41 i = o 41 i ∧ o' 42 i = o 42 i) (oh : ∀ i, p < i → i ≤ k → o' 40 i = o 40 (i - 1) ∧ o' 41 i = o 41 (i - 1) ∧ o' 42 i = o 42 (i - 1)) (rlo : ∀ j, j < 32 * p → o' 43 j = o 43 j) (rhi : ∀ j, 32 * p + 32 ≤ j → j < 32 * k + 32 → o' 43 j = o 43 (j - 32)) (new : rl_n1 ww' o' p) : ∀ i, i < k + 1 → rl_n1 ww' o' i := by
  intro i hi
  by_cases h1 : i < p
  · obtain ⟨a1, a2, a3, a4⟩ := hN i (by omega)
    obtain ⟨b1, b2, b3⟩ := ol i h1
    unfold rl_n1
    rw [wl (i * 35) (by omega), wl (i * 35 + 1) (by omega), wl (i * 35 + 34) (by omega), b1, b2, b3]
    refine ⟨a1, a2, fun j hj => ?_, a4⟩
    rw [wl (i * 35 + 2 + j) (by omega), rlo (32 * i + j) (by omega)]
    exact a3 j hj
  · by_cases h2 : i = p
    · subst h2; exact new
    · obtain ⟨q, rfl⟩ : ∃ q, i = q + 1 := ⟨i - 1, by omega⟩
      obtain ⟨a1, a2, a3, a4⟩ := hN q (by omega)
      obtain ⟨b1, b2, b3⟩ := oh (q + 1) (by omega) (by omega)
      rw [Nat.add_sub_cancel] at b1 b2 b3
      unfold rl_n1
      rw [wh ((q + 1) * 35) (by omega) (by omega), wh ((q + 1) * 35 + 1) (by omega) (by omega), wh ((q + 1) * 35 + 34) (by omega) (by omega), b1, b2, b3, show (q + 1) * 35 - 35 = q * 35 by omega, show (q + 1) * 35 + 1 - 35 = q * 35 + 1 by omega, show (q + 1) * 35 + 34 - 35 = q * 35 + 34 by omega]
      refine ⟨a1, a2, fun j hj => ?_, a4⟩
      rw [wh ((q + 1) * 35 + 2 + j) (by omega) (by omega), rhi (32 * (q + 1) + j) (by omega) (by omega), show (q + 1) * 35 + 2 + j - 35 = q * 35 + 2 + j by omega, show 32 * (q + 1) + j - 32 = 32 * q + j by omega]
      exact a3 j hj
theorem c_ins_o (h : j < p * 35 ∨ p * 35 + 35 ≤ j) : c_ins f ww u k p made j = va_cpy ww ww (p * 35) (p * 35 + 35) ((k - p) * 35) j := by
  unfold c_ins
  rw [m_sc_ne (by omega), pk_cpy_out (by omega), pk_cpy_out (by omega), m_sc_ne (by omega), m_sc_ne (by omega)]
theorem c_ins_0 : c_ins f ww u k p made (p * 35) = nI u ∧ c_ins f ww u k p made (p * 35 + 1) = f (15 + u) ∧ c_ins f ww u k p made (p * 35 + 34) = made := by
  unfold c_ins
  refine ⟨?_, ?_, ?_⟩
  · rw [m_sc_ne (by omega), pk_cpy_out (by omega), pk_cpy_out (by omega), m_sc_ne (by omega), m_sc_self]
  · rw [m_sc_ne (by omega), pk_cpy_out (by omega), pk_cpy_out (by omega), m_sc_self]
  · rw [m_sc_self]
theorem c_ins_r (hr : r < 16) : c_ins f ww u k p made (p * 35 + 2 + r) = f (160 + 47 * u + r) ∧ c_ins f ww u k p made (p * 35 + 18 + r) = f (176 + 47 * u + r) := by
  unfold c_ins
  refine ⟨?_, ?_⟩
  · rw [m_sc_ne (by omega), pk_cpy_out (by omega), va_x hr]
  · rw [m_sc_ne (by omega), va_x hr]
/-- the model's row at a place -/
theorem d_nr_x {s zz : Nat → Int32} {b5 b6 : Nat} (hx : x < 8) : s_loop (d_nr1 s p b5 b6) 0 8 zz (32 * p + x) = s (b5 + 2 * x) ∧ s_loop (d_nr1 s p b5 b6) 0 8 zz (32 * p + 8 + x) = s (b5 + 2 * x + 1) ∧ s_loop (d_nr1 s p b5 b6) 0 8 zz (32 * p + 16 + x) = s (b6 + 2 * x) ∧ s_loop (d_nr1 s p b5 b6) 0 8 zz (32 * p + 24 + x) = s (b6 + 2 * x + 1) := by
  refine ⟨?_, ?_, ?_, ?_⟩
  · exact s_at (F := fun _ => s (b5 + 2 * x)) (y := x) 8 0 zz (by omega) (by omega) (fun g => by unfold d_nr1; rw [m_sc_ne (by omega), m_sc_ne (by omega), m_sc_ne (by omega), m_sc_self]) (fun _ _ _ _ => rfl) (fun q q1 q2 g => by unfold d_nr1; rw [m_sc_ne (by omega), m_sc_ne (by omega), m_sc_ne (by omega), m_sc_ne (by omega)])
  · exact s_at (F := fun _ => s (b5 + 2 * x + 1)) (y := x) 8 0 zz (by omega) (by omega) (fun g => by unfold d_nr1; rw [m_sc_ne (by omega), m_sc_ne (by omega), m_sc_self]) (fun _ _ _ _ => rfl) (fun q q1 q2 g => by unfold d_nr1; rw [m_sc_ne (by omega), m_sc_ne (by omega), m_sc_ne (by omega), m_sc_ne (by omega)])
  · exact s_at (F := fun _ => s (b6 + 2 * x)) (y := x) 8 0 zz (by omega) (by omega) (fun g => by unfold d_nr1; rw [m_sc_ne (by omega), m_sc_self]) (fun _ _ _ _ => rfl) (fun q q1 q2 g => by unfold d_nr1; rw [m_sc_ne (by omega), m_sc_ne (by omega), m_sc_ne (by omega), m_sc_ne (by omega)])
  · exact s_at (F := fun _ => s (b6 + 2 * x + 1)) (y := x) 8 0 zz (by omega) (by omega) (fun g => by unfold d_nr1; rw [m_sc_self]) (fun _ _ _ _ => rfl) (fun q q1 q2 g => by unfold d_nr1; rw [m_sc_ne (by omega), m_sc_ne (by omega), m_sc_ne (by omega), m_sc_ne (by omega)])
theorem d_nr_o {s zz : Nat → Int32} {b5 b6 : Nat} (h : j < 32 * p ∨ 32 * p + 32 ≤ j) : s_loop (d_nr1 s p b5 b6) 0 8 zz j = zz j :=
  s_lo 8 0 zz (fun y h1 h2 g => by unfold d_nr1; rw [m_sc_ne (by omega), m_sc_ne (by omega), m_sc_ne (by omega), m_sc_ne (by omega)])
theorem rl_ins2 {s : Nat → Int32} {b5 b6 : Nat} (hN : ∀ i, i < k → rl_n1 ww o i) (hp : p ≤ k) (wl : ∀ j, j < p * 35 → ww' j = ww j) (wh : ∀ j, p * 35 + 35 ≤ j → j < k * 35 + 35 → ww' j = ww (j - 35)) (e0 : ww' (p * 35) = nI u) (e1 : ww' (p * 35 + 1) = kd) (e2 : rl_mk (ww' (p * 35 + 34)) ck) (er : ∀ x, x < 8 → ww' (p * 35 + 2 + x) = s (b5 + 2 * x) ∧ ww' (p * 35 + 10 + x) = s (b5 + 2 * x + 1) ∧ ww' (p * 35 + 18 + x) = s (b6 + 2 * x) ∧ ww' (p * 35 + 26 + x) = s (b6 + 2 * x + 1)) : ∀ i, i < k + 1 → rl_n1 ww' (d_nto o s u kd ck k p b5 b6) i := by
  have q40 : d_nto o s u kd ck k p b5 b6 40 = m_sc (d_sf (o 40) (p + 1) (k + 1) 1) p (nI u) := rfl
  have q41 : d_nto o s u kd ck k p b5 b6 41 = m_sc (d_sf (o 41) (p + 1) (k + 1) 1) p kd := rfl
  have q42 : d_nto o s u kd ck k p b5 b6 42 = m_sc (d_sf (o 42) (p + 1) (k + 1) 1) p ck := rfl
  have q43 : d_nto o s u kd ck k p b5 b6 43 = s_loop (d_nr1 s p b5 b6) 0 8 (d_sf (o 43) (32 * (p + 1)) (32 * (k + 1)) 32) := rfl
  refine rl_ins hN hp wl wh (fun i hi => ?_) (fun i hi hi2 => ?_) (fun j hj => ?_) (fun j hj hj2 => ?_) ?_
  · rw [q40, q41, q42, m_sc_ne (by omega), m_sc_ne (by omega), m_sc_ne (by omega)]
    exact ⟨if_neg (by omega), if_neg (by omega), if_neg (by omega)⟩
  · rw [q40, q41, q42, m_sc_ne (by omega), m_sc_ne (by omega), m_sc_ne (by omega)]
    exact ⟨if_pos (by omega), if_pos (by omega), if_pos (by omega)⟩
  · rw [q43, d_nr_o (by omega)]
    exact if_neg (by omega)
  · rw [q43, d_nr_o (by omega)]
    exact if_pos (by omega)
  · unfold rl_n1
    rw [q40, q41, q42, q43, m_sc_self, m_sc_self, m_sc_self]
    refine ⟨e0, e1, fun j hj => ?_, e2⟩
    by_cases h1 : j < 8
    · rw [(er j h1).1, (d_nr_x h1).1]
    · by_cases h2 : j < 16
      · obtain ⟨i, rfl⟩ : ∃ i, j = 8 + i := ⟨j - 8, by omega⟩
        rw [show p * 35 + 2 + (8 + i) = p * 35 + 10 + i by omega, (er i (by omega)).2.1, show 32 * p + (8 + i) = 32 * p + 8 + i by omega, (d_nr_x (by omega)).2.1]
      · by_cases h3 : j < 24
        · obtain ⟨i, rfl⟩ : ∃ i, j = 16 + i := ⟨j - 16, by omega⟩
          rw [show p * 35 + 2 + (16 + i) = p * 35 + 18 + i by omega, (er i (by omega)).2.2.1, show 32 * p + (16 + i) = 32 * p + 16 + i by omega, (d_nr_x (by omega)).2.2.1]
        · obtain ⟨i, rfl⟩ : ∃ i, j = 24 + i := ⟨j - 24, by omega⟩
          rw [show p * 35 + 2 + (24 + i) = p * 35 + 26 + i by omega, (er i (by omega)).2.2.2, show 32 * p + (24 + i) = 32 * p + 24 + i by omega, (d_nr_x (by omega)).2.2.2]
theorem s_find_cg {p q : Nat → Bool} : ∀ (k x : Nat), (∀ j, x ≤ j → j < x + k → p j = q j) → s_find p x k = s_find q x k := by
  intro k
  induction k with
  | zero => intro x _; rfl
  | succ k ih =>
    intro x h
    rw [s_find, s_find, h x (Nat.le_refl _) (by omega), ih (x + 1) (fun j j1 j2 => h j (by omega) (by omega))]
theorem n_ge0 {s : Nat} (hs : s < 2147483648) {v : Int32} (hv : v = nI 0 ∨ v = -1) : ¬ nI s < v := by
  rw [Int32.lt_iff_toInt_lt, nI_toInt hs]
  rcases hv with rfl | rfl
  · rw [nI_toInt (by decide)]; omega
  · rw [show (-1 : Int32).toInt = -1 by decide]; omega
theorem rl_plc2 {s : Nat} (hs : s < 2147483648) (hN : ∀ i, i < k → rl_n1 ww o i) : c_plc ww (nI s) k = s_find (fun i => decide (nI s < o 42 i)) 0 k := by
  refine s_find_cg k 0 (fun j _ hj => ?_)
  obtain ⟨a1, a2, a3, a4⟩ := hN j (by omega)
  rcases a4 with e | ⟨e1, e2⟩
  · rw [e]
  · rw [e1, e2, decide_eq_false (n_ge0 hs (Or.inl rfl)), decide_eq_false (n_ge0 hs (Or.inr rfl))]
/-- the transaction of a thread comes to the order -/
theorem rl_note {s : Nat} (hN : rl_Nt nn ww h o k n) (h3 : nn 3 = nI 0) (hk : k < 1000000) (hkd : f (15 + u) = kd) (hW : rl_W f g u) (hS : f (145 + 47 * u) = nI s) (hS2 : g (150 + 154 * u + 103) = nI s) (hs : s < 2147483648) (hw : f 564 = h 1) (hm : rl_mk made ck) : ∃ n', rl_Nt (c_note f nn ww u k made).1 (c_note f nn ww u k made).2 (d_note g h o g u kd ck n (150 + 154 * u + 119) (150 + 154 * u + 135)).1 (d_note g h o g u kd ck n (150 + 154 * u + 119) (150 + 154 * u + 135)).2 (k + 1) n' := by
  obtain ⟨n1, n2, n3, n4, n5⟩ := hN
  unfold c_note d_note
  rw [if_neg (fun q => q h3)]
  by_cases h59 : k ≤ 59
  · obtain rfl : n = k := by omega
    have hn60 : ¬ n = 60 := by omega
    rw [if_pos h59, if_neg hn60]
    have hpl : (if c_isp f u then c_plc ww (f (145 + 47 * u)) n else n) = d_ntp g h o u kd n := by
      unfold c_isp d_ntp
      rw [hkd, hw, Bool.and_comm, hS, hS2, rl_plc2 hs n5]
    have hle : d_ntp g h o u kd n ≤ n := by
      unfold d_ntp
      split
      · have := s_find_le (p := fun i => decide (g (150 + 154 * u + 103) < o 42 i)) (k := n) (x := 0); omega
      · exact Nat.le_refl _
    rw [hpl]
    refine ⟨n + 1, ?_⟩
    unfold rl_Nt
    dsimp only
    refine ⟨m_sc_self, ?_, m_sc_self, by omega, ?_⟩
    · skip
      rw [m_sc_ne (by omega), m_sc_self, n2, nI_add]
    · skip
      refine rl_ins2 n5 hle (fun j hj => ?_) (fun j j1 j2 => ?_) c_ins_0.1 (c_ins_0.2.1.trans hkd) (by rw [c_ins_0.2.2]; exact hm) (fun x hx => ?_)
      · rw [c_ins_o (by omega), pk_cpy_out (by omega)]
      · rw [c_ins_o (by omega), pk_cpy_in (by omega) (by omega)]
        congr 1; omega
      · obtain ⟨a1, a2, a3, a4, a5, a6⟩ := hW x hx
        refine ⟨?_, ?_, ?_, ?_⟩
        · rw [(c_ins_r (by omega)).1]; exact a2
        · rw [show d_ntp g h o u kd n * 35 + 10 + x = d_ntp g h o u kd n * 35 + 2 + (8 + x) by omega, (c_ins_r (by omega)).1, show 160 + 47 * u + (8 + x) = 168 + 47 * u + x by omega, show 150 + 154 * u + 119 + 2 * x + 1 = 150 + 154 * u + 120 + 2 * x by omega]; exact a3
        · rw [(c_ins_r (by omega)).2]; exact a4
        · rw [show d_ntp g h o u kd n * 35 + 26 + x = d_ntp g h o u kd n * 35 + 18 + (8 + x) by omega, (c_ins_r (by omega)).2, show 176 + 47 * u + (8 + x) = 184 + 47 * u + x by omega, show 150 + 154 * u + 135 + 2 * x + 1 = 150 + 154 * u + 136 + 2 * x by omega]; exact a5
  · obtain rfl : n = 60 := by omega
    rw [if_neg h59, if_pos rfl]
    refine ⟨60, ?_⟩
    unfold rl_Nt
    dsimp only
    refine ⟨m_sc_self, ?_, ?_, by omega, n5⟩
    · skip
      rw [m_sc_self, n2, nI_add]
    · skip
      rw [m_sc_ne (by omega)]; exact n3
theorem d_sng_e {z0 : Nat → Int32} (hx : x < 8) (hj : j < 16) : d_sng z0 x y z (2 * j) = (if j = 8 + x then y else -1) ∧ d_sng z0 x y z (2 * j + 1) = if j = 8 + x then z else nI 0 := by
  have e1 : s_loop d_sg1 0 16 z0 (2 * j) = -1 := s_at (F := fun _ => -1) (y := j) 16 0 z0 (by omega) (by omega) (fun g => by unfold d_sg1; rw [m_sc_ne (by omega), m_sc_self]) (fun _ _ _ _ => rfl) (fun q q1 q2 g => by unfold d_sg1; rw [m_sc_ne (by omega), m_sc_ne (by omega)])
  have e2 : s_loop d_sg1 0 16 z0 (2 * j + 1) = nI 0 := s_at (F := fun _ => nI 0) (y := j) 16 0 z0 (by omega) (by omega) (fun g => by unfold d_sg1; rw [m_sc_self]) (fun _ _ _ _ => rfl) (fun q q1 q2 g => by unfold d_sg1; rw [m_sc_ne (by omega), m_sc_ne (by omega)])
  unfold d_sng
  by_cases h : j = 8 + x
  · subst h
    rw [if_pos rfl, if_pos rfl]
    refine ⟨?_, ?_⟩
    · rw [m_sc_ne (by omega)]; exact scE (by omega)
    · exact scE (by omega)
  · rw [if_neg h, if_neg h]
    refine ⟨?_, ?_⟩
    · rw [m_sc_ne (by omega), m_sc_ne (by omega), e1]
    · rw [m_sc_ne (by omega), m_sc_ne (by omega), e2]
theorem c_nw_o (hx : x < 8) (h : j < k * 35) : c_nw ww f u x k j = ww j := by
  unfold c_nw
  rw [m_sc_ne (by omega), m_sc_ne (by omega), m_sc_ne (by omega), c_fill_o (by omega), c_fill_o (by omega), c_fill_o (by omega), c_fill_o (by omega), m_sc_ne (by omega), m_sc_ne (by omega)]
theorem c_nw_0 (hx : x < 8) : c_nw ww f u x k (k * 35) = nI u ∧ c_nw ww f u x k (k * 35 + 1) = nI 0 ∧ c_nw ww f u x k (k * 35 + 34) = f 0 := by
  unfold c_nw
  refine ⟨?_, ?_, ?_⟩
  · rw [m_sc_ne (by omega), m_sc_ne (by omega), m_sc_ne (by omega), c_fill_o (by omega), c_fill_o (by omega), c_fill_o (by omega), c_fill_o (by omega), m_sc_ne (by omega), m_sc_self]
  · rw [m_sc_ne (by omega), m_sc_ne (by omega), m_sc_ne (by omega), c_fill_o (by omega), c_fill_o (by omega), c_fill_o (by omega), c_fill_o (by omega), m_sc_self]
  · rw [m_sc_self]
theorem c_nw_x (hx : x < 8) {i : Nat} (hi : i < 8) : c_nw ww f u x k (k * 35 + 2 + i) = -1 ∧ c_nw ww f u x k (k * 35 + 10 + i) = nI 0 ∧ c_nw ww f u x k (k * 35 + 18 + i) = (if i = x then f (49 + x) else -1) ∧ c_nw ww f u x k (k * 35 + 26 + i) = if i = x then f (57 + x) else nI 0 := by
  unfold c_nw
  refine ⟨?_, ?_, ?_, ?_⟩
  · rw [m_sc_ne (by omega), m_sc_ne (by omega), m_sc_ne (by omega), c_fill_o (by omega), c_fill_o (by omega), c_fill_o (by omega), c_fill_in (by omega)]
  · rw [m_sc_ne (by omega), m_sc_ne (by omega), m_sc_ne (by omega), c_fill_o (by omega), c_fill_o (by omega), c_fill_in (by omega)]
  · rw [m_sc_ne (by omega), m_sc_ne (by omega)]
    by_cases h : i = x
    · subst h; rw [m_sc_self, if_pos rfl]
    · rw [m_sc_ne (by omega), if_neg h, c_fill_o (by omega), c_fill_in (by omega)]
  · rw [m_sc_ne (by omega)]
    by_cases h : i = x
    · subst h; rw [if_pos rfl]; exact scE (by omega)
    · rw [m_sc_ne (by omega), m_sc_ne (by omega), if_neg h, c_fill_in (by omega)]
/-- a writing outside comes to the order -/
theorem rl_noteW (hN : rl_Nt nn ww h o k n) (h3 : nn 3 = nI 0) (h5 : h 5 = nI 0) (hk : k < 1000000) (hx : x < 8) (ey : f (49 + x) = y) (ez : f (57 + x) = z) (e0 : f 0 = g 144) : ∃ n', rl_Nt (c_noteW f nn ww u x k).1 (c_noteW f nn ww u x k).2 (d_aln g h o u x y z n).1 (d_aln g h o u x y z n).2 (k + 1) n' := by
  obtain ⟨n1, n2, n3, n4, n5⟩ := hN
  unfold c_noteW d_aln d_note
  rw [if_neg (fun q => q h3), if_pos h5]
  have n5' : ∀ i, i < n → rl_n1 ww (m_sc o 44 (d_sng (o 44) x y z)) i := fun i hi => n5 i hi
  by_cases h59 : k ≤ 59
  · obtain rfl : n = k := by omega
    have hn60 : ¬ n = 60 := by omega
    rw [if_pos h59, if_neg hn60]
    have hpl : d_ntp g (m_sc h 2 (h 2 + nI 1)) (m_sc o 44 (d_sng (o 44) x y z)) u (nI 0) n = n := by
      unfold d_ntp
      exact if_neg (by rw [show decide (nI 0 = nI 1) = false by decide]; simp)
    rw [hpl]
    refine ⟨n + 1, ?_⟩
    unfold rl_Nt
    dsimp only
    refine ⟨m_sc_self, ?_, m_sc_self, by omega, ?_⟩
    · skip
      rw [m_sc_ne (by omega), m_sc_self, m_sc_ne (by omega), n2, nI_add]
    · skip
      obtain ⟨a1, a2, a3⟩ := c_nw_0 (ww := ww) (f := f) (u := u) (k := n) hx
      refine rl_ins2 n5' (Nat.le_refl _) (fun j hj => c_nw_o hx hj) (fun j j1 j2 => by omega) a1 a2 (Or.inl (a3.trans e0)) (fun i hi => ?_)
      obtain ⟨b1, b3, b4, b5⟩ := c_nw_x (ww := ww) (f := f) (u := u) (k := n) hx hi
      obtain ⟨s1, s2⟩ := d_sng_e (z0 := o 44) (y := y) (z := z) hx (show i < 16 by omega)
      obtain ⟨s3, s4⟩ := d_sng_e (z0 := o 44) (y := y) (z := z) hx (show 8 + i < 16 by omega)
      rw [if_neg (by omega)] at s1 s2
      rw [b1, b3, b4, b5, show 0 + 2 * i = 2 * i by omega, s1, s2, show 16 + 2 * i = 2 * (8 + i) by omega, s3, s4, ey, ez]
      refine ⟨rfl, rfl, ?_, ?_⟩
      · by_cases h : i = x
        · rw [if_pos h, if_pos (by omega)]
        · rw [if_neg h, if_neg (by omega)]
      · by_cases h : i = x
        · rw [if_pos h, if_pos (by omega)]
        · rw [if_neg h, if_neg (by omega)]
  · obtain rfl : n = 60 := by omega
    rw [if_neg h59, if_pos rfl]
    refine ⟨60, ?_⟩
    unfold rl_Nt
    dsimp only
    refine ⟨m_sc_self, ?_, ?_, by omega, n5'⟩
    · skip
      rw [m_sc_self, m_sc_ne (by omega), n2, nI_add]
    · skip
      rw [m_sc_ne (by omega), m_sc_ne (by omega)]; exact n3
end RLN
