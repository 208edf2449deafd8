/-! class and model alike: begin, sleep, wake, end; values change -/
section LK4
variable {f g h : Nat → Int32} {u v x k r c b b2 d o n p j : Nat} {y z : Int32}
theorem c_beg_o (h0 : j ≠ 1 ∧ j ≠ 2) (h1 : j ≠ 15 + u ∧ j ≠ 18 + u ∧ j ≠ 559) (h2 : j < 145 + 47 * u ∨ 152 + 47 * u ≤ j) : c_beg f u k j = f j := by
  unfold c_beg
  rw [pk_cpy_out (by omega), m_sc_ne (by omega), m_sc_ne (by omega), m_sc_ne (by omega), m_sc_ne (by omega), m_sc_ne (by omega), m_sc_ne (by omega)]
  split
  · rw [m_sc_ne (by omega)]
    split
    · rw [m_sc_ne (by omega)]
    · rfl
  · split
    · rw [m_sc_ne (by omega)]
    · rfl
theorem c_beg_f2 (h0 : j ≠ 1 ∧ j ≠ 2) : (if k = 3 then m_sc (if f 564 = nI 3 then m_sc f 1 (nI u) else f) 2 (nI u) else if f 564 = nI 3 then m_sc f 1 (nI u) else f) j = f j := by
  split
  · rw [m_sc_ne (by omega)]
    split
    · rw [m_sc_ne (by omega)]
    · rfl
  · split
    · rw [m_sc_ne (by omega)]
    · rfl
theorem c_beg_1 (hu : u < 3) : c_beg f u k 1 = if f 564 = nI 3 then nI u else f 1 := by
  unfold c_beg
  rw [pk_cpy_out (by omega), m_sc_ne (by omega), m_sc_ne (by omega), m_sc_ne (by omega), m_sc_ne (by omega), m_sc_ne (by omega), m_sc_ne (by omega)]
  split
  · rw [m_sc_ne (by omega)]
    split
    · rw [m_sc_self]
    · rfl
  · split
    · rw [m_sc_self]
    · rfl
theorem c_beg_2 (hu : u < 3) : c_beg f u k 2 = if k = 3 then nI u else f 2 := by
  unfold c_beg
  rw [pk_cpy_out (by omega), m_sc_ne (by omega), m_sc_ne (by omega), m_sc_ne (by omega), m_sc_ne (by omega), m_sc_ne (by omega), m_sc_ne (by omega)]
  split
  · rw [m_sc_self]
  · split
    · rw [m_sc_ne (by omega)]
    · rfl
theorem c_beg_k (hu : u < 3) : c_beg f u k (15 + u) = nI k := by
  unfold c_beg
  rw [pk_cpy_out (by omega), m_sc_ne (by omega), m_sc_ne (by omega), m_sc_ne (by omega), m_sc_ne (by omega), m_sc_ne (by omega), m_sc_self]
theorem c_beg_b (hu : u < 3) : c_beg f u k 559 = f 559 + nI 1 := by
  unfold c_beg
  rw [pk_cpy_out (by omega), m_sc_ne (by omega), m_sc_ne (by omega), m_sc_ne (by omega), m_sc_ne (by omega), m_sc_self, c_beg_f2 (by omega)]
theorem c_beg_a (hu : u < 3) : c_beg f u k (18 + u) = f 559 := by
  unfold c_beg
  rw [pk_cpy_out (by omega), m_sc_ne (by omega), m_sc_ne (by omega), m_sc_ne (by omega), m_sc_self, c_beg_f2 (by omega)]
theorem c_beg_s (hu : u < 3) : c_beg f u k (145 + 47 * u) = f 0 := by
  unfold c_beg
  rw [pk_cpy_out (by omega), m_sc_ne (by omega), m_sc_ne (by omega), m_sc_self, c_beg_f2 (by omega)]
theorem c_beg_p (hu : u < 3) : c_beg f u k (146 + 47 * u) = f (6 + u) + nI 1 := by
  unfold c_beg
  rw [pk_cpy_out (by omega), m_sc_ne (by omega), m_sc_self, c_beg_f2 (by omega)]
theorem c_beg_d (hu : u < 3) : c_beg f u k (147 + 47 * u) = f (12 + u) := by
  unfold c_beg
  rw [pk_cpy_out (by omega), m_sc_self, c_beg_f2 (by omega)]
theorem c_beg_r (hu : u < 3) (hr : r < 4) : c_beg f u k (148 + 47 * u + r) = f (21 + 4 * u + r) := by
  unfold c_beg
  rw [va_x hr, m_sc_ne (by omega), m_sc_ne (by omega), m_sc_ne (by omega), m_sc_ne (by omega), m_sc_ne (by omega), m_sc_ne (by omega), c_beg_f2 (by omega)]
theorem d_bgn_g (h0 : j ≠ 145 ∧ j ≠ 146) : (if v = 3 then m_sc (if h 1 = nI 3 then m_sc g 145 (nI u) else g) 146 (nI u) else if h 1 = nI 3 then m_sc g 145 (nI u) else g) j = g j := by
  split
  · rw [m_sc_ne (by omega)]
    split
    · rw [m_sc_ne (by omega)]
    · rfl
  · split
    · rw [m_sc_ne (by omega)]
    · rfl
theorem d_bgn_c (h0 : j ≠ 145 ∧ j ≠ 146) (h1 : j < 150 + 154 * u + 101 ∨ 150 + 154 * u + 151 ≤ j) : d_clear (if v = 3 then m_sc (if h 1 = nI 3 then m_sc g 145 (nI u) else g) 146 (nI u) else if h 1 = nI 3 then m_sc g 145 (nI u) else g) u j = g j := by
  rw [d_clear_o h1, d_bgn_g h0]
theorem d_bgn_o (h0 : j ≠ 145 ∧ j ≠ 146) (h1 : j < 150 + 154 * u + 101 ∨ 150 + 154 * u + 151 ≤ j) (h2 : j ≠ 150 + 154 * u + 1) : d_bgn g h u v j = g j := by
  unfold d_bgn
  rw [m_sc_ne (by omega), d_cp_o (by omega), m_sc_ne (by omega), m_sc_ne (by omega), m_sc_ne (by omega), m_sc_ne (by omega), m_sc_ne (by omega), m_sc_ne (by omega), d_bgn_c h0 h1]
theorem d_bgn_145 : d_bgn g h u v 145 = if h 1 = nI 3 then nI u else g 145 := by
  unfold d_bgn
  rw [m_sc_ne (by omega), d_cp_o (by omega), m_sc_ne (by omega), m_sc_ne (by omega), m_sc_ne (by omega), m_sc_ne (by omega), m_sc_ne (by omega), m_sc_ne (by omega), d_clear_o (by omega)]
  split
  · rw [m_sc_ne (by omega)]
    split
    · rw [m_sc_self]
    · rfl
  · split
    · rw [m_sc_self]
    · rfl
theorem d_bgn_146 : d_bgn g h u v 146 = if v = 3 then nI u else g 146 := by
  unfold d_bgn
  rw [m_sc_ne (by omega), d_cp_o (by omega), m_sc_ne (by omega), m_sc_ne (by omega), m_sc_ne (by omega), m_sc_ne (by omega), m_sc_ne (by omega), m_sc_ne (by omega), d_clear_o (by omega)]
  split
  · rw [m_sc_self]
  · split
    · rw [m_sc_ne (by omega)]
    · rfl
theorem d_bgn_p : d_bgn g h u v (150 + 154 * u + 1) = g (150 + 154 * u + 1) + nI 1 := by
  unfold d_bgn
  rw [m_sc_ne (by omega), d_cp_o (by omega), m_sc_ne (by omega), m_sc_self, d_bgn_c (by omega) (by omega)]
theorem d_bgn_i : d_bgn g h u v (150 + 154 * u + 101) = nI 1 := by
  unfold d_bgn
  rw [m_sc_ne (by omega), d_cp_o (by omega), m_sc_ne (by omega), m_sc_ne (by omega), m_sc_ne (by omega), m_sc_ne (by omega), m_sc_ne (by omega), m_sc_self]
theorem d_bgn_k : d_bgn g h u v (150 + 154 * u + 102) = nI v := by
  unfold d_bgn
  rw [m_sc_ne (by omega), d_cp_o (by omega), m_sc_ne (by omega), m_sc_ne (by omega), m_sc_ne (by omega), m_sc_ne (by omega), m_sc_self]
theorem d_bgn_s : d_bgn g h u v (150 + 154 * u + 103) = g 144 := by
  unfold d_bgn
  rw [m_sc_ne (by omega), d_cp_o (by omega), m_sc_ne (by omega), m_sc_ne (by omega), m_sc_ne (by omega), m_sc_self, d_bgn_c (by omega) (by omega)]
theorem d_bgn_a : d_bgn g h u v (150 + 154 * u + 104) = h 2 := by
  unfold d_bgn
  rw [m_sc_ne (by omega), d_cp_o (by omega), m_sc_ne (by omega), m_sc_ne (by omega), m_sc_self]
theorem d_bgn_b : d_bgn g h u v (150 + 154 * u + 105) = g (150 + 154 * u + 1) + nI 1 := by
  unfold d_bgn
  rw [m_sc_ne (by omega), d_cp_o (by omega), m_sc_self, d_bgn_c (by omega) (by omega)]
theorem d_bgn_r (hr : r < 4) : d_bgn g h u v (150 + 154 * u + 106 + r) = g (150 + 154 * u + 3 + r) := by
  unfold d_bgn
  rw [m_sc_ne (by omega), d_cp_x hr (by omega), m_sc_ne (by omega), m_sc_ne (by omega), m_sc_ne (by omega), m_sc_ne (by omega), m_sc_ne (by omega), m_sc_ne (by omega), d_bgn_c (by omega) (by omega)]
theorem d_bgn_d : d_bgn g h u v (150 + 154 * u + 110) = g (150 + 154 * u + 8) := by
  unfold d_bgn
  rw [m_sc_self, d_bgn_c (by omega) (by omega)]
theorem d_bgn_w (h1 : 150 + 154 * u + 111 ≤ j) {y : Int32} (hv : ∀ g, d_clear g u j = y) : d_bgn g h u v j = y := by
  unfold d_bgn
  rw [m_sc_ne (by omega), d_cp_o (by omega), m_sc_ne (by omega), m_sc_ne (by omega), m_sc_ne (by omega), m_sc_ne (by omega), m_sc_ne (by omega), m_sc_ne (by omega), hv]
end LK4
section RLQ
variable {f g h f' g' h' : Nat → Int32} {u v w x k r c b b2 d o n p : Nat} {y z : Int32}
theorem n_lts {a c : Nat} {w : Int32} (h : w < nI a) (hc : a ≤ c) (hb : c < 2147483648) : w < nI c := by
  rw [Int32.lt_iff_toInt_lt] at h ⊢
  rw [nI_toInt (by omega)] at h
  rw [nI_toInt hb]
  omega
theorem rl_begin (hL : rl_L f g h c b b2) (ht : rl_tb f g u c d o) (hu : u < 3) (hi : f (15 + u) = -1) (hst : ¬ f (3 + u) = nI 0) (hk : k < 4) (hp : f (6 + u) = nI p) (hp2 : p < 40) (hb : b < 1000000000) (hb2 : b2 < 1000000000) (hlk : f 564 = nI 3 → f 1 = -1 ∨ f 1 = nI u) : rl_L (m_sc (c_beg f u k) (6 + u) (c_beg f u k (6 + u) + nI 1)) (d_bgn g h u k) (m_sc h 2 (h 2 + nI 1)) c (b + 1) (b2 + 1) := by
  obtain ⟨h1, h2, h3, h4, h5, h6⟩ := hL
  obtain ⟨t1, t2, t3, t4, t5, t6, t7, t8, t9, t10, t11⟩ := id ht
  obtain ⟨d1, d2, d3, d4, d5, d6⟩ := id t4
  have F : ∀ j, j ≠ 6 + u → (j ≠ 1 ∧ j ≠ 2) → (j ≠ 15 + u ∧ j ≠ 18 + u ∧ j ≠ 559) → (j < 145 + 47 * u ∨ 152 + 47 * u ≤ j) → m_sc (c_beg f u k) (6 + u) (c_beg f u k (6 + u) + nI 1) j = f j := fun j j0 j1 j2 j3 => by rw [m_sc_ne j0, c_beg_o j1 j2 j3]
  have F1 : ∀ j, j ≠ 6 + u → m_sc (c_beg f u k) (6 + u) (c_beg f u k (6 + u) + nI 1) j = c_beg f u k j := fun j j0 => m_sc_ne j0
  have G : ∀ j, (j ≠ 145 ∧ j ≠ 146) → (j < 150 + 154 * u + 101 ∨ 150 + 154 * u + 151 ≤ j) → j ≠ 150 + 154 * u + 1 → d_bgn g h u k j = g j := fun j j1 j2 j3 => d_bgn_o j1 j2 j3
  obtain ⟨f', hf'⟩ : ∃ f', f' = m_sc (c_beg f u k) (6 + u) (c_beg f u k (6 + u) + nI 1) := ⟨_, rfl⟩
  have e6 : f' (6 + u) = f (6 + u) + nI 1 := by rw [hf', m_sc_self, c_beg_o (by omega) (by omega) (by omega)]
  rw [← hf'] at F F1 ⊢
  have k15 : f' (15 + u) = nI k := by rw [F1 _ (by omega), c_beg_k hu]
  have kin : ¬ f' (15 + u) = -1 := by rw [k15]; exact n_ne1' (by omega)
  have q15 : ∀ v, v < 3 → v ≠ u → f' (15 + v) = f (15 + v) := fun v hv hvu => F _ (by omega) (by omega) (by omega) (by omega)
  have q3 : ∀ v, v < 3 → f' (3 + v) = f (3 + v) := fun v hv => F _ (by omega) (by omega) (by omega) (by omega)
  have pl1 : rl_pl (f' (6 + u)) := by
    rw [e6, hp, nI_add]; exact ⟨p + 1, by omega, rfl⟩
  have cl := t9 hi
  have new : rl_tb f' (d_bgn g h u k) u c d d := by
    refine ⟨⟨?_, ?_, ?_, ?_⟩, rl_G_fr t2 (fun j j1 j2 => F j (by omega) (by omega) (by omega) (by omega)) (fun j j1 j2 => G j (by omega) (by omega) (by omega)), Or.inr ⟨k, hk, k15, d_bgn_i, d_bgn_k⟩, ⟨?_, ?_, d3, Nat.le_refl _, ?_, ?_⟩, ⟨fun q => absurd q kin, fun _ => ⟨?_, ?_, fun r hr => ?_⟩⟩, fun x hx => ?_, fun i hi2 => ⟨fun k1 => ?_, fun k1 q hq => ?_⟩, ⟨pl1, ?_, fun _ => ?_⟩, fun q => absurd q kin, rl_N_of (by rw [q3 u hu]; exact hst), fun _ => ⟨c, Nat.le_refl _, ?_⟩⟩
    · rw [q3 u hu, G _ (by omega) (by omega) (by omega)]; exact t1.1
    · rw [e6, d_bgn_p, t1.2.1]
    · rw [F (9 + u) (by omega) (by omega) (by omega) (by omega), G _ (by omega) (by omega) (by omega)]; exact t1.2.2.1
    · rw [F (561 + u) (by omega) (by omega) (by omega) (by omega), G _ (by omega) (by omega) (by omega)]; exact t1.2.2.2
    · rw [F (12 + u) (by omega) (by omega) (by omega) (by omega)]; exact d1
    · rw [G _ (by omega) (by omega) (by omega)]; exact d2
    · unfold c_outer; rw [if_neg kin, F1 _ (by omega), c_beg_d hu]; exact d1
    · rw [d_bgn_d]; exact d2
    · rw [F1 _ (by omega), c_beg_s hu, d_bgn_s]; exact h1.1.trans h1.2.1.symm
    · rw [F1 _ (by omega), c_beg_p hu, d_bgn_b, t1.2.1]
    · rw [F1 _ (by omega), c_beg_r hu hr, d_bgn_r hr]; exact t2 r hr
    · obtain ⟨w1, w2, w3, w4, w5⟩ := cl x hx
      rw [F (152 + 47 * u + x) (by omega) (by omega) (by omega) (by omega), F (160 + 47 * u + x) (by omega) (by omega) (by omega) (by omega), F (168 + 47 * u + x) (by omega) (by omega) (by omega) (by omega), F (176 + 47 * u + x) (by omega) (by omega) (by omega) (by omega), F (184 + 47 * u + x) (by omega) (by omega) (by omega) (by omega), w1, w2, w3, w4, w5, d_bgn_w (by omega) (fun g => d_clear_1 hx), d_bgn_w (by omega) (fun g => d_clear_2 hx), d_bgn_w (by omega) (fun g => d_clear_3 hx), d_bgn_w (by omega) (fun g => d_clear_4 hx), d_bgn_w (by omega) (fun g => d_clear_5 hx)]
      exact ⟨rfl, rfl, rfl, rfl, rfl, rl_lv1⟩
    · have e := c_sc_def u i
      obtain ⟨s1, s2, s3, s4, s5, s6, s7⟩ := (t7 i hi2).1 k1
      unfold rl_sk
      rw [F (286 + c_sc u i) (by omega) (by omega) (by omega) (by omega), F (287 + c_sc u i) (by omega) (by omega) (by omega) (by omega), G (150 + 154 * u + 9 + 23 * i) (by omega) (by omega) (by omega), G (150 + 154 * u + 9 + 23 * i + 1) (by omega) (by omega) (by omega), G (150 + 154 * u + 9 + 23 * i + 2) (by omega) (by omega) (by omega)]
      refine ⟨s1, s2, s3, ?_, fun r hr => ?_, fun x hx => ?_, s7.elim (fun q => absurd hi q.2) Or.inr⟩
      · rw [s4, if_neg (fun q => q.2 hi), if_neg (fun q => by omega)]
      · rw [F (288 + c_sc u i + r) (by omega) (by omega) (by omega) (by omega), G _ (by omega) (by omega) (by omega)]; exact s5 r hr
      · rw [F (292 + c_sc u i + x) (by omega) (by omega) (by omega) (by omega), F (300 + c_sc u i + x) (by omega) (by omega) (by omega) (by omega), G (150 + 154 * u + 9 + 23 * i + 7 + 2 * x) (by omega) (by omega) (by omega), G (150 + 154 * u + 9 + 23 * i + 7 + 2 * x + 1) (by omega) (by omega) (by omega)]; exact s6 x hx
    · rw [G _ (by omega) (by omega) (by omega)]; exact (t7 i hi2).2 k1 q hq
    · rw [F (561 + u) (by omega) (by omega) (by omega) (by omega)]; exact t8.2.1
    · rw [F1 _ (by omega), c_beg_p hu, hp, nI_add]; exact ⟨p + 1, by omega, rfl⟩
    · rw [F1 _ (by omega), c_beg_s hu]; exact h1.1
  obtain ⟨l0, l1, l2, l3, l4, l5, l6, l7⟩ := h1
  refine ⟨⟨?_, ?_, ?_, ?_, ?_, ?_, ?_, ?_⟩, fun v hv => ?_, fun x hx => ?_, fun x hx => ?_, fun q v hv z1 z2 => ?_, ⟨?_, ?_, fun v hv z1 => ?_⟩⟩
  · rw [F _ (by omega) (by omega) (by omega) (by omega)]; exact l0
  · rw [G _ (by omega) (by omega) (by omega)]; exact l1
  · rw [F1 _ (by omega), c_beg_1 hu, d_bgn_145, l2, l4]
  · rw [F1 _ (by omega), c_beg_2 hu, d_bgn_146, l3]
  · rw [F _ (by omega) (by omega) (by omega) (by omega), m_sc_ne (by omega)]; exact l4
  · rw [G _ (by omega) (by omega) (by omega)]; exact l5
  · rw [G _ (by omega) (by omega) (by omega)]; exact l6
  · rw [G _ (by omega) (by omega) (by omega)]; exact l7
  · by_cases hvu : v = u
    · subst hvu; exact ⟨d, d, new⟩
    · exact rl_th_fr (h2 v hv) (fun j hj => by unfold rl_ci at hj; exact F j (by omega) (by omega) (by omega) (by omega)) (fun j j1 j2 => G j (by omega) (by omega) (by omega))
  · exact rl_cl_fr hx (h3 x hx) (fun j j1 j2 => F j (by omega) (by omega) (by omega) (by omega)) (fun j j1 j2 => G j (by omega) (by omega) (by omega))
  · rw [F (33 + x) (by omega) (by omega) (by omega) (by omega)]
    rcases h4 x hx with q | ⟨w, w1, w2, w3⟩
    · exact Or.inl q
    · refine Or.inr ⟨w, w1, w2, ?_⟩
      by_cases hwu : w = u
      · rw [hwu]; exact kin
      · rw [q15 w w1 hwu]; exact w3
  · rw [F 564 (by omega) (by omega) (by omega) (by omega)] at q
    have e1 : f' 1 = nI u := by rw [F1 _ (by omega), c_beg_1 hu, if_pos q]
    by_cases hvu : v = u
    · subst hvu
      refine ⟨e1, fun x hx => Or.inl ?_⟩
      rw [F (152 + 47 * v + x) (by omega) (by omega) (by omega) (by omega)]
      exact (cl x hx).1
    · rw [q15 v hv hvu] at z1
      rw [q3 v hv] at z2
      obtain ⟨b1, b3⟩ := h5 q v hv z1 z2
      rcases hlk q with hq | hq
      · rw [hq] at b1; exact absurd b1.symm (n_ne1' (by omega))
      · rw [hq] at b1; exact absurd (nI_u hv hu b1.symm) hvu
  · rw [F1 _ (by omega), c_beg_b hu, h6.1, nI_add]
  · rw [m_sc_self, h6.2.1, nI_add]
  · by_cases hvu : v = u
    · subst hvu
      rw [F1 (18 + v) (by omega), c_beg_a hv, d_bgn_a, h6.1, h6.2.1]
      refine ⟨⟨by rw [n_le (by omega) (by omega)]; omega, by rw [n_lt (by omega) (by omega)]; omega⟩, by rw [n_lt (by omega) (by omega)]; omega, fun w hw z2 => ?_⟩
      by_cases hwu : w = v
      · subst hwu
        rw [F1 (18 + w) (by omega), c_beg_a hv, d_bgn_a, h6.1, h6.2.1]
        exact ⟨⟨fun q => (Int32.lt_irrefl q).elim, fun q => (Int32.lt_irrefl q).elim⟩, fun q => absurd rfl q⟩
      · rw [q15 w hw hwu] at z2
        obtain ⟨⟨a0, a1⟩, a2, a3⟩ := h6.2.2 w hw z2
        rw [F (18 + w) (by omega) (by omega) (by omega) (by omega), G (150 + 154 * w + 104) (by omega) (by omega) (by omega)]
        refine ⟨⟨fun q => (Int32.lt_irrefl (Int32.lt_trans q a1)).elim, fun q => (Int32.lt_irrefl (Int32.lt_trans q a2)).elim⟩, fun _ q => ?_⟩
        rw [← q] at a1
        exact (Int32.lt_irrefl a1).elim
    · rw [q15 v hv hvu] at z1
      obtain ⟨⟨a0, a1⟩, a2, a3⟩ := h6.2.2 v hv z1
      rw [F (18 + v) (by omega) (by omega) (by omega) (by omega), G (150 + 154 * v + 104) (by omega) (by omega) (by omega)]
      refine ⟨⟨a0, n_lts a1 (by omega) (by omega)⟩, n_lts a2 (by omega) (by omega), fun w hw z2 => ?_⟩
      by_cases hwu : w = u
      · subst hwu
        rw [F1 (18 + w) (by omega), c_beg_a hu, d_bgn_a, h6.1, h6.2.1]
        refine ⟨⟨fun _ => a2, fun _ => a1⟩, fun _ q => ?_⟩
        rw [q] at a1
        exact (Int32.lt_irrefl a1).elim
      · rw [q15 w hw hwu] at z2
        rw [F (18 + w) (by omega) (by omega) (by omega) (by omega), G (150 + 154 * w + 104) (by omega) (by omega) (by omega)]
        exact a3 w hw z2
/-- to sleep -/
def c_slp (f : Nat → Int32) (u : Nat) : Nat → Int32 := m_sc (c_unlock (c_rel (c_fill (c_fill f (176 + 47 * u) (176 + 47 * u + 8) (-1)) (176 + 47 * u + 8) (176 + 47 * u + 16) (nI 0)) 33 u) u) (3 + u) (nI 4)
theorem rl_sleep (hL : rl_L f g h c b b2) (ht : rl_tb f g u c d o) (hu : u < 3) (hi : ¬ f (15 + u) = -1) : rl_L (c_slp f u) (d_slp g u) h c b b2 := by
  obtain ⟨h1, h2, h3, h4, h5, h6⟩ := hL
  obtain ⟨t1, t2, t3, t4, t5, t6, t7, t8, t9, t10, t11⟩ := id ht
  have F : ∀ j, j ≠ 3 + u → j ≠ 1 → (j < 33 ∨ 41 ≤ j) → (j < 176 + 47 * u ∨ 192 + 47 * u ≤ j) → c_slp f u j = f j := fun j j0 j1 j2 j3 => by
    unfold c_slp
    rw [m_sc_ne j0, c_unlock_o j1, c_rel_o (by omega), c_fill_o (by omega), c_fill_o (by omega)]
  have G : ∀ j, j ≠ 150 + 154 * u → j ≠ 145 → (∀ x, x < 8 → j ≠ 18 * x + 16) → (j < 150 + 154 * u + 135 ∨ 150 + 154 * u + 151 ≤ j) → d_slp g u j = g j := fun j j0 j1 j2 j3 => by
    unfold d_slp
    rw [m_sc_ne j0, d_unlock_o j1, d_dis_o j2, d_el_o j3]
  have e3 : c_slp f u (3 + u) = nI 4 := m_sc_self
  have e3g : d_slp g u (150 + 154 * u) = nI 4 := m_sc_self
  have e1 : c_slp f u 1 = if f 1 = nI u then -1 else f 1 := by
    unfold c_slp
    rw [m_sc_ne (by omega), c_unlock_1, c_rel_o (by omega), c_fill_o (by omega), c_fill_o (by omega)]
  have e1g : d_slp g u 145 = if g 145 = nI u then -1 else g 145 := by
    unfold d_slp d_unlock
    rw [m_sc_ne (by omega), m_sc_self, d_dis_o (by omega), d_el_o (by omega)]
  have ew : ∀ x, x < 8 → c_slp f u (33 + x) = if f (33 + x) = nI u then -1 else f (33 + x) := fun x hx => by
    unfold c_slp
    rw [m_sc_ne (by omega), c_unlock_o (by omega), c_rel_x hx, c_fill_o (by omega), c_fill_o (by omega)]
  have ewg : ∀ x, x < 8 → d_slp g u (18 * x + 16) = if g (18 * x + 16) = nI u then -1 else g (18 * x + 16) := fun x hx => by
    unfold d_slp
    rw [m_sc_ne (by omega), d_unlock_o (by omega), d_dis_x hx, d_el_o (by omega)]
  have el : ∀ x, x < 8 → c_slp f u (176 + 47 * u + x) = -1 ∧ c_slp f u (184 + 47 * u + x) = nI 0 ∧ d_slp g u (150 + 154 * u + 135 + 2 * x) = -1 ∧ d_slp g u (150 + 154 * u + 136 + 2 * x) = nI 0 := fun x hx => by
    unfold c_slp d_slp
    refine ⟨?_, ?_, ?_, ?_⟩
    · rw [m_sc_ne (by omega), c_unlock_o (by omega), c_rel_o (by omega), c_fill_o (by omega), c_fill_in (by omega)]
    · rw [m_sc_ne (by omega), c_unlock_o (by omega), c_rel_o (by omega), c_fill_in (by omega)]
    · rw [m_sc_ne (by omega), d_unlock_o (by omega), d_dis_o (by omega), d_el_1 hx]
    · rw [m_sc_ne (by omega), d_unlock_o (by omega), d_dis_o (by omega), d_el_2 hx]
  have q15 : ∀ v, v < 3 → c_slp f u (15 + v) = f (15 + v) := fun v hv => F _ (by omega) (by omega) (by omega) (by omega)
  have new : rl_tb (c_slp f u) (d_slp g u) u c d o := by
    refine ⟨⟨e3.trans e3g.symm, ?_, ?_, ?_⟩, rl_G_fr t2 (fun j j1 j2 => F j (by omega) (by omega) (by omega) (by omega)) (fun j j1 j2 => G j (by omega) (by omega) (by omega) (by omega)), rl_K_fr t3 (q15 u hu) (G _ (by omega) (by omega) (by omega) (by omega)) (G _ (by omega) (by omega) (by omega) (by omega)), rl_D_fr t4 (F _ (by omega) (by omega) (by omega) (by omega)) (q15 u hu) (F _ (by omega) (by omega) (by omega) (by omega)) (G _ (by omega) (by omega) (by omega) (by omega)) (G _ (by omega) (by omega) (by omega) (by omega)), rl_X_fr t5 (q15 u hu) (fun j j1 j2 => F j (by omega) (by omega) (by omega) (by omega)) (fun j j1 j2 => G j (by omega) (by omega) (by omega) (by omega)), fun x hx => ?_, rl_S_fr t7 (q15 u hu) (fun j j1 j2 => F j (by omega) (by omega) (by omega) (by omega)) (fun j j1 j2 => G j (by omega) (by omega) (by omega) (by omega)), rl_P_fr t8 (F _ (by omega) (by omega) (by omega) (by omega)) (q15 u hu) (F _ (by omega) (by omega) (by omega) (by omega)) (F _ (by omega) (by omega) (by omega) (by omega)), fun q => absurd ((q15 u hu).symm.trans q) hi, rl_N_of (by rw [e3]; decide), rl_T_fr t11 (q15 u hu) (F _ (by omega) (by omega) (by omega) (by omega))⟩
    · rw [F (6 + u) (by omega) (by omega) (by omega) (by omega), G _ (by omega) (by omega) (by omega) (by omega)]; exact t1.2.1
    · rw [F (9 + u) (by omega) (by omega) (by omega) (by omega), G _ (by omega) (by omega) (by omega) (by omega)]; exact t1.2.2.1
    · rw [F (561 + u) (by omega) (by omega) (by omega) (by omega), G _ (by omega) (by omega) (by omega) (by omega)]; exact t1.2.2.2
    · obtain ⟨l1, l2, l3, l4⟩ := el x hx
      obtain ⟨a1, a2, a3, a4, a5, a6⟩ := t6 x hx
      rw [F (152 + 47 * u + x) (by omega) (by omega) (by omega) (by omega), F (160 + 47 * u + x) (by omega) (by omega) (by omega) (by omega), F (168 + 47 * u + x) (by omega) (by omega) (by omega) (by omega), G (150 + 154 * u + 111 + x) (by omega) (by omega) (by omega) (by omega), G (150 + 154 * u + 119 + 2 * x) (by omega) (by omega) (by omega) (by omega), G (150 + 154 * u + 120 + 2 * x) (by omega) (by omega) (by omega) (by omega), l1, l2, l3, l4]
      exact ⟨a1, a2, a3, rfl, rfl, rl_lv1⟩
  obtain ⟨l0, l1, l2, l3, l4, l5, l6, l7⟩ := h1
  refine ⟨⟨?_, ?_, ?_, ?_, ?_, ?_, ?_, ?_⟩, fun v hv => ?_, fun x hx => ?_, fun x hx => ?_, fun q v hv z1 z2 => ?_, rl_ag_fr h6 (F _ (by omega) (by omega) (by omega) (by omega)) rfl q15 (fun v hv => F _ (by omega) (by omega) (by omega) (by omega)) (fun v hv => G _ (by omega) (by omega) (by omega) (by omega))⟩
  · rw [F _ (by omega) (by omega) (by omega) (by omega)]; exact l0
  · rw [G _ (by omega) (by omega) (by omega) (by omega)]; exact l1
  · rw [e1, e1g, l2]
  · rw [F _ (by omega) (by omega) (by omega) (by omega), G _ (by omega) (by omega) (by omega) (by omega)]; exact l3
  · rw [F _ (by omega) (by omega) (by omega) (by omega)]; exact l4
  · rw [G _ (by omega) (by omega) (by omega) (by omega)]; exact l5
  · rw [G _ (by omega) (by omega) (by omega) (by omega)]; exact l6
  · rw [G _ (by omega) (by omega) (by omega) (by omega)]; exact l7
  · by_cases hvu : v = u
    · subst hvu; exact ⟨d, o, new⟩
    · exact rl_th_fr (h2 v hv) (fun j hj => by unfold rl_ci at hj; exact F j (by omega) (by omega) (by omega) (by omega)) (fun j j1 j2 => G j (by omega) (by omega) (by omega) (by omega))
  · obtain ⟨n, hn⟩ := h3 x hx
    refine ⟨n, rl_cb_rel hx hn (fun j j1 j2 => F j (by omega) (by omega) (by omega) (by omega)) (fun j j1 j2 => G j (by omega) (by omega) (by omega) (by omega)) ?_ ?_⟩
    · rw [ew x hx, ewg x hx, hn.2.2.2.1]
    · rw [F (41 + x) (by omega) (by omega) (by omega) (by omega), G _ (by omega) (by omega) (by omega) (by omega)]; exact hn.2.2.2.2.1
  · rw [ew x hx]
    split
    · exact Or.inl rfl
    · rcases h4 x hx with q | ⟨w, w1, w2, w3⟩
      · exact Or.inl q
      · exact Or.inr ⟨w, w1, w2, by rw [q15 w w1]; exact w3⟩
  · have hvu : v ≠ u := fun q => z2 (by rw [q]; exact e3)
    rw [F 564 (by omega) (by omega) (by omega) (by omega)] at q
    rw [q15 v hv] at z1
    rw [F (3 + v) (by omega) (by omega) (by omega) (by omega)] at z2
    obtain ⟨b1, b3⟩ := h5 q v hv z1 z2
    refine ⟨?_, fun x hx => ?_⟩
    · rw [e1, b1, if_neg (fun q => hvu (nI_u hv hu q))]
    · rw [F (152 + 47 * v + x) (by omega) (by omega) (by omega) (by omega), F (65 + x) (by omega) (by omega) (by omega) (by omega)]
      exact b3 x hx
/-- how a thread stands, and why it failed -/
theorem rl_tb_sta (ht : rl_tb f g u c d o) (hu : u < 3) (hf : ∀ j, j ≠ 1 → j ≠ 3 + u → j ≠ 9 + u → f' j = f j) (hg : ∀ j, j ≠ 145 → j ≠ 150 + 154 * u → j ≠ 150 + 154 * u + 2 → g' j = g j) (e1 : f' (3 + u) = g' (150 + 154 * u)) (e2 : f' (9 + u) = g' (150 + 154 * u + 2)) (e3 : ¬ f' (3 + u) = nI 0) : rl_tb f' g' u c d o := by
  obtain ⟨t1, t2, t3, t4, t5, t6, t7, t8, t9, t10, t11⟩ := ht
  have F : ∀ j, j ≠ 1 ∧ j ≠ 3 + u ∧ j ≠ 9 + u → f' j = f j := fun j hj => hf j hj.1 hj.2.1 hj.2.2
  have G : ∀ j, j ≠ 145 ∧ j ≠ 150 + 154 * u ∧ j ≠ 150 + 154 * u + 2 → g' j = g j := fun j hj => hg j hj.1 hj.2.1 hj.2.2
  have q15 := F (15 + u) (by omega)
  exact ⟨⟨e1, (F _ (by omega)).trans (t1.2.1.trans (G _ (by omega)).symm), e2, (F _ (by omega)).trans (t1.2.2.2.trans (G _ (by omega)).symm)⟩, rl_G_fr t2 (fun j j1 j2 => F j (by omega)) (fun j j1 j2 => G j (by omega)), rl_K_fr t3 q15 (G _ (by omega)) (G _ (by omega)), rl_D_fr t4 (F _ (by omega)) q15 (F _ (by omega)) (G _ (by omega)) (G _ (by omega)), rl_X_fr t5 q15 (fun j j1 j2 => F j (by omega)) (fun j j1 j2 => G j (by omega)), rl_W_fr t6 (fun j j1 j2 => F j (by omega)) (fun j j1 j2 => G j (by omega)), rl_S_fr t7 q15 (fun j j1 j2 => F j (by omega)) (fun j j1 j2 => G j (by omega)), rl_P_fr t8 (F _ (by omega)) q15 (F _ (by omega)) (F _ (by omega)), rl_C_fr t9 q15 (fun j j1 j2 => F j (by omega)), rl_N_of e3, rl_T_fr t11 q15 (F _ (by omega))⟩
theorem rl_stands (hL : rl_L f g h c b b2) (hu : u < 3) (hi : f (15 + u) = -1) (hf : ∀ j, j ≠ 3 + u → j ≠ 9 + u → f' j = f j) (hg : ∀ j, j ≠ 150 + 154 * u → j ≠ 150 + 154 * u + 2 → g' j = g j) (e1 : f' (3 + u) = g' (150 + 154 * u)) (e2 : f' (9 + u) = g' (150 + 154 * u + 2)) (e3 : ¬ f' (3 + u) = nI 0) : rl_L f' g' h c b b2 := by
  obtain ⟨h1, h2, h3, h4, h5, h6⟩ := hL
  have F : ∀ j, j ≠ 3 + u ∧ j ≠ 9 + u → f' j = f j := fun j hj => hf j hj.1 hj.2
  have G : ∀ j, j ≠ 150 + 154 * u ∧ j ≠ 150 + 154 * u + 2 → g' j = g j := fun j hj => hg j hj.1 hj.2
  refine ⟨rl_gl_fr h1 (F _ (by omega)) (F _ (by omega)) (F _ (by omega)) (F _ (by omega)) (fun j j1 j2 => G j (by omega)) rfl, fun v hv => ?_, fun x hx => rl_cl_fr hx (h3 x hx) (fun j j1 j2 => F j (by omega)) (fun j j1 j2 => G j (by omega)), rl_ow_fr h4 (fun j j1 j2 => F j (by omega)) (fun v hv => F _ (by omega)), fun q v hv z1 z2 => ?_, rl_ag_fr h6 (F _ (by omega)) rfl (fun v hv => F _ (by omega)) (fun v hv => F _ (by omega)) (fun v hv => G _ (by omega))⟩
  · by_cases hvu : v = u
    · subst hvu
      obtain ⟨d, o, ht⟩ := h2 v hv
      exact ⟨d, o, rl_tb_sta ht hv (fun j _ j1 j2 => F j ⟨j1, j2⟩) (fun j _ j1 j2 => G j ⟨j1, j2⟩) e1 e2 e3⟩
    · exact rl_th_fr (h2 v hv) (fun j hj => F j (by unfold rl_ci at hj; omega)) (fun j j1 j2 => G j (by omega))
  · rw [F 564 (by omega)] at q
    rw [F (15 + v) (by omega)] at z1
    have hvu : v ≠ u := fun q => z1 (by rw [q]; exact hi)
    rw [F (3 + v) (by omega)] at z2
    obtain ⟨b1, b3⟩ := h5 q v hv z1 z2
    refine ⟨by rw [F 1 (by omega)]; exact b1, fun x hx => ?_⟩
    rw [F (152 + 47 * v + x) (by omega), F (65 + x) (by omega)]
    exact b3 x hx
/-- waking, ahead of the beginning anew -/
def c_wak (f : Nat → Int32) (u : Nat) : Nat → Int32 := m_sc (if f 564 = nI 3 then m_sc f 1 (nI u) else f) (3 + u) (nI 1)
theorem rl_wake (hL : rl_L f g h c b b2) (ht : rl_tb f g u c d o) (hu : u < 3) (hi : ¬ f (15 + u) = -1) (hlk : f 564 = nI 3 → f 1 = -1 ∨ f 1 = nI u) : rl_M (c_wak f u) (d_wak g h u) h u c b b2 ∧ rl_tb (c_wak f u) (d_wak g h u) u c d o := by
  obtain ⟨h1, h2, h3, h4, h5, h6⟩ := hL
  have F : ∀ j, j ≠ 1 ∧ j ≠ 3 + u → c_wak f u j = f j := fun j hj => by
    unfold c_wak
    rw [m_sc_ne hj.2]
    split
    · rw [m_sc_ne hj.1]
    · rfl
  have G : ∀ j, j ≠ 145 ∧ j ≠ 150 + 154 * u → d_wak g h u j = g j := fun j hj => by
    unfold d_wak
    rw [m_sc_ne hj.2]
    split
    · rw [m_sc_ne hj.1]
    · rfl
  have e3 : c_wak f u (3 + u) = nI 1 := m_sc_self
  have e3g : d_wak g h u (150 + 154 * u) = nI 1 := m_sc_self
  have e1 : c_wak f u 1 = if f 564 = nI 3 then nI u else f 1 := by
    unfold c_wak
    rw [m_sc_ne (by omega)]
    split
    · rw [m_sc_self]
    · rfl
  have e1g : d_wak g h u 145 = if h 1 = nI 3 then nI u else g 145 := by
    unfold d_wak
    rw [m_sc_ne (by omega)]
    split
    · rw [m_sc_self]
    · rfl
  have new : rl_tb (c_wak f u) (d_wak g h u) u c d o := rl_tb_sta ht hu (fun j j1 j2 _ => F j ⟨j1, j2⟩) (fun j j1 j2 _ => G j ⟨j1, j2⟩) (e3.trans e3g.symm) (by rw [F _ (by omega), G _ (by omega)]; exact ht.1.2.2.1) (by rw [e3]; decide)
  obtain ⟨l0, l1, l2, l3, l4, l5, l6, l7⟩ := h1
  refine ⟨⟨⟨?_, ?_, ?_, ?_, ?_, ?_, ?_, ?_⟩, fun v hv => ?_, fun x hx => rl_cl_fr hx (h3 x hx) (fun j j1 j2 => F j (by omega)) (fun j j1 j2 => G j (by omega)), rl_ow_fr h4 (fun j j1 j2 => F j (by omega)) (fun v hv => F _ (by omega)), fun q v hv z1 z2 => ?_, rl_ag_fr h6 (F _ (by omega)) rfl (fun v hv => F _ (by omega)) (fun v hv => F _ (by omega)) (fun v hv => G _ (by omega))⟩, new⟩
  · rw [F _ (by omega)]; exact l0
  · rw [G _ (by omega)]; exact l1
  · rw [e1, e1g, l2, l4]
  · rw [F _ (by omega), G _ (by omega)]; exact l3
  · rw [F _ (by omega)]; exact l4
  · rw [G _ (by omega)]; exact l5
  · rw [G _ (by omega)]; exact l6
  · rw [G _ (by omega)]; exact l7
  · by_cases hvu : v = u
    · subst hvu; exact ⟨d, o, new⟩
    · exact rl_th_fr (h2 v hv) (fun j hj => F j (by unfold rl_ci at hj; omega)) (fun j j1 j2 => G j (by omega))
  · rw [F 564 (by omega)] at q
    rw [e1, if_pos q]
    by_cases hvu : v = u
    · subst hvu; exact ⟨rfl, fun q => absurd rfl q⟩
    · rw [F (15 + v) (by omega)] at z1
      rw [F (3 + v) (by omega)] at z2
      obtain ⟨b1, b3⟩ := h5 q v hv z1 z2
      rcases hlk q with hq | hq
      · rw [hq] at b1; exact absurd b1.symm (n_ne1' (by omega))
      · rw [hq] at b1; exact absurd (nI_u hv hu b1.symm) hvu
theorem rl_h2 (hL : rl_L f g h c b b2) {b3 : Nat} (e1 : h' 1 = h 1) (e2 : h' 2 = nI b3) (h3 : b2 ≤ b3) (h4 : b3 < 2147483648) : rl_L f g h' c b b3 := by
  obtain ⟨h1, a2, a3, a4, a5, h6⟩ := hL
  refine ⟨rl_gl_fr h1 rfl rfl rfl rfl (fun _ _ _ => rfl) e1, a2, a3, a4, a5, h6.1, e2, fun u hu z => ?_⟩
  obtain ⟨q1, q2, q3⟩ := h6.2.2 u hu z
  exact ⟨q1, n_lts q2 h3 h4, q3⟩
end RLQ
