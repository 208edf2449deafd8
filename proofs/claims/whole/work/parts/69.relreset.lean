/-! reset: alike -/
section RZN
variable {f g h f' g' : Nat → Int32} {u v j r x k c b b2 n : Nat}
theorem c_rs_z (h : j = 0 ∨ (3 ≤ j ∧ j < 15) ∨ (18 ≤ j ∧ j < 33) ∨ (65 ≤ j ∧ j < 73) ∨ (145 ≤ j ∧ j < 559)) : c_rs f j = nI 0 := by
  unfold c_rs
  rcases h with rfl | h | h | h | h
  all_goals repeat (first | rw [c_fill_o (by omega)] | rw [m_sc_ne (by omega)] | rw [c_fill_in (by omega)])
theorem c_rs_m (h : j = 1 ∨ j = 2 ∨ (15 ≤ j ∧ j < 18) ∨ (33 ≤ j ∧ j < 49) ∨ (73 ≤ j ∧ j < 145)) : c_rs f j = -1 := by
  unfold c_rs
  rcases h with rfl | rfl | h | h | h
  all_goals repeat (first | rw [c_fill_o (by omega)] | rw [m_sc_self] | rw [m_sc_ne (by omega)] | rw [c_fill_in (by omega)])
theorem c_rs_o (h : (49 ≤ j ∧ j < 65) ∨ 559 ≤ j) : c_rs f j = f j := by
  unfold c_rs
  rw [c_fill_o (by omega), c_fill_o (by omega), c_fill_o (by omega), c_fill_o (by omega), c_fill_o (by omega), m_sc_ne (by omega), m_sc_ne (by omega), c_fill_o (by omega)]
theorem c_rs3_o (h : ∀ u, u < 3 → j < 152 + 47 * u ∨ 192 + 47 * u ≤ j) : c_rs3 f j = c_rs f j := by
  have h0 := h 0 (by omega)
  have h1 := h 1 (by omega)
  have h2 := h 2 (by omega)
  unfold c_rs3
  rw [c_clear_o (by omega), c_clear_o (by omega), c_clear_o (by omega)]
theorem c_rs3_C (hu : u < 3) : rl_C (c_rs3 f) u := by
  intro _ x hx
  obtain rfl | rfl | rfl : u = 0 ∨ u = 1 ∨ u = 2 := by omega
  · have e : ∀ j, j < 192 → c_rs3 f j = c_clear (c_rs f) 0 j := fun j hj => by
      unfold c_rs3
      rw [c_clear_o (by omega), c_clear_o (by omega)]
    rw [e _ (by omega), e _ (by omega), e _ (by omega), e _ (by omega), e _ (by omega)]
    exact ⟨c_clear_1 hx, c_clear_2 hx, c_clear_3 hx, c_clear_4 hx, c_clear_5 hx⟩
  · have e : ∀ j, j < 239 → c_rs3 f j = c_clear (c_clear (c_rs f) 0) 1 j := fun j hj => by
      unfold c_rs3
      rw [c_clear_o (by omega)]
    rw [e _ (by omega), e _ (by omega), e _ (by omega), e _ (by omega), e _ (by omega)]
    exact ⟨c_clear_1 hx, c_clear_2 hx, c_clear_3 hx, c_clear_4 hx, c_clear_5 hx⟩
  · exact ⟨c_clear_1 hx, c_clear_2 hx, c_clear_3 hx, c_clear_4 hx, c_clear_5 hx⟩
theorem d_cc_o (h : j < 18 * x ∨ 18 * x + 18 ≤ j) : d_cc g x j = g j := by
  unfold d_cc
  rw [m_sc_ne (by omega), m_sc_ne (by omega), m_sc_ne (by omega), m_sc_ne (by omega), m_sc_ne (by omega), d_z_o (by omega), m_sc_ne (by omega)]
def d_ccv (g g' : Nat → Int32) (x : Nat) : Prop := g' (18 * x) = g (18 * x) ∧ g' (18 * x + 1) = g (18 * x + 1) ∧ g' (18 * x + 2) = nI 0 ∧ g' (18 * x + 3) = g (18 * x) ∧ g' (18 * x + 3 + 1) = g (18 * x + 1) ∧ (∀ i, 5 ≤ i → i < 15 → g' (18 * x + i) = nI 0) ∧ g' (18 * x + 15) = nI 1 ∧ g' (18 * x + 16) = -1 ∧ g' (18 * x + 17) = -1
theorem d_cc_v : d_ccv g (d_cc g x) x := by
  unfold d_ccv d_cc
  refine ⟨?_, ?_, ?_, ?_, ?_, fun i i1 i2 => ?_, ?_, ?_, m_sc_self⟩
  · rw [m_sc_ne (by omega), m_sc_ne (by omega), m_sc_ne (by omega), m_sc_ne (by omega), m_sc_ne (by omega), d_z_o (by omega), m_sc_ne (by omega)]
  · rw [m_sc_ne (by omega), m_sc_ne (by omega), m_sc_ne (by omega), m_sc_ne (by omega), m_sc_ne (by omega), d_z_o (by omega), m_sc_ne (by omega)]
  · rw [m_sc_ne (by omega), m_sc_ne (by omega), m_sc_ne (by omega), m_sc_ne (by omega), m_sc_ne (by omega), d_z_o (by omega), m_sc_self]
  · rw [m_sc_ne (by omega), m_sc_ne (by omega), m_sc_ne (by omega), m_sc_ne (by omega), m_sc_self]
  · rw [m_sc_ne (by omega), m_sc_ne (by omega), m_sc_ne (by omega), m_sc_self]
  · rw [m_sc_ne (by omega), m_sc_ne (by omega), m_sc_ne (by omega), m_sc_ne (by omega), m_sc_ne (by omega), d_z_i (by omega)]
  · rw [m_sc_ne (by omega), m_sc_ne (by omega), m_sc_self]
  · rw [m_sc_ne (by omega), m_sc_self]
theorem d_ccs_hi (h : 18 * n ≤ j) : d_ccs g n j = g j := by
  induction n with
  | zero => rfl
  | succ n ih =>
    show d_cc (d_ccs g n) n j = g j
    rw [d_cc_o (by omega), ih (by omega)]
theorem d_ccs_v (h : x < n) : d_ccv g (d_ccs g n) x := by
  induction n with
  | zero => exact absurd h (Nat.not_lt_zero _)
  | succ n ih =>
    by_cases hx : x = n
    · subst hx
      have q := d_cc_v (g := d_ccs g x) (x := x)
      unfold d_ccv at q
      rw [d_ccs_hi (j := 18 * x) (n := x) (by omega), d_ccs_hi (j := 18 * x + 1) (n := x) (by omega)] at q
      exact q
    · obtain ⟨q1, q2, q3, q4, q5, q6, q7, q8, q9⟩ := ih (by omega)
      have e : ∀ j, j < 18 * n → d_ccs g (n + 1) j = d_ccs g n j := fun j hj => d_cc_o (by omega)
      exact ⟨(e _ (by omega)).trans q1, (e _ (by omega)).trans q2, (e _ (by omega)).trans q3, (e _ (by omega)).trans q4, (e _ (by omega)).trans q5, fun i i1 i2 => (e _ (by omega)).trans (q6 i i1 i2), (e _ (by omega)).trans q7, (e _ (by omega)).trans q8, (e _ (by omega)).trans q9⟩
theorem d_rs_hi (h : 147 ≤ j) : d_rs g j = d_ct3 g j := by
  unfold d_rs
  rw [m_sc_ne (by omega), m_sc_ne (by omega), m_sc_ne (by omega), d_ccs_hi (by omega)]
theorem d_ct3_o (h : j < 150) : d_ct3 g j = g j := by
  unfold d_ct3
  rw [d_clt_o (by omega), d_clt_o (by omega), d_clt_o (by omega)]
theorem d_ct3_t (hu : u < 3) : ∃ g0 : Nat → Int32, g0 (150 + 154 * u + 7) = g (150 + 154 * u + 7) ∧ ∀ j, 150 + 154 * u ≤ j → j < 150 + 154 * u + 154 → d_ct3 g j = d_clt g0 u j := by
  obtain rfl | rfl | rfl : u = 0 ∨ u = 1 ∨ u = 2 := by omega
  · refine ⟨g, rfl, fun j j1 j2 => ?_⟩
    unfold d_ct3
    rw [d_clt_o (by omega), d_clt_o (by omega)]
  · refine ⟨d_clt g 0, d_clt_o (by omega), fun j j1 j2 => ?_⟩
    unfold d_ct3
    rw [d_clt_o (by omega)]
  · exact ⟨d_clt (d_clt g 0) 1, (d_clt_o (by omega)).trans (d_clt_o (by omega)), fun j j1 j2 => rfl⟩
theorem rl_reset {h' : Nat → Int32} (hL : rl_L f g h c b b2) (hO : rl_O f g h) (hf : ∀ j, j < 565 → f' j = c_rs3 f j) (hh : ∀ j, j ≠ 4 → j ≠ 17 → h' j = h j) : rl_L f' (d_rs g) h' 0 b b2 ∧ rl_O f' (d_rs g) h' := by
  obtain ⟨l1, l2, l3, l4, l5, l6⟩ := hL
  have Z : ∀ j, j = 0 ∨ (3 ≤ j ∧ j < 15) ∨ (18 ≤ j ∧ j < 33) ∨ (65 ≤ j ∧ j < 73) ∨ (145 ≤ j ∧ j < 152) ∨ (286 ≤ j ∧ j < 559) → f' j = nI 0 := fun j hj => (hf j (by omega)).trans ((c_rs3_o (fun u hu => by omega)).trans (c_rs_z (by omega)))
  have Y : ∀ j, j = 1 ∨ j = 2 ∨ (15 ≤ j ∧ j < 18) ∨ (33 ≤ j ∧ j < 49) ∨ (73 ≤ j ∧ j < 145) → f' j = -1 := fun j hj => (hf j (by omega)).trans ((c_rs3_o (fun u hu => by omega)).trans (c_rs_m hj))
  have K : ∀ j, (49 ≤ j ∧ j < 65) ∨ (559 ≤ j ∧ j < 565) → f' j = f j := fun j hj => (hf j (by omega)).trans ((c_rs3_o (fun u hu => by omega)).trans (c_rs_o (by omega)))
  have f15 : ∀ u, u < 3 → f' (15 + u) = -1 := fun u hu => Y _ (by omega)
  have th : ∀ u, u < 3 → rl_tb f' (d_rs g) u 0 0 0 := fun u hu => by
    obtain ⟨g0, g1, g2⟩ := d_ct3_t (g := g) hu
    obtain ⟨d, o, a1, a2, a3, a4, a5, a6, a7, a8, a9, a10, a11⟩ := l2 u hu
    have G : ∀ j, 150 + 154 * u ≤ j → j < 150 + 154 * u + 154 → d_rs g j = d_clt g0 u j := fun j j1 j2 => (d_rs_hi (by omega)).trans (g2 j j1 j2)
    have e561 : f' (561 + u) = f (561 + u) := K _ (by omega)
    have hC : rl_C f' u := rl_C_fr (f := c_rs3 f) (c_rs3_C hu) (hf _ (by omega)) (fun j j1 j2 => hf j (by omega))
    exact rl_tb_new (g := g0) hu ((Z _ (by omega)).trans ((G _ (by omega) (by omega)).trans (d_clt_0 (by omega) (by omega) (by omega))).symm) (Z _ (by omega)) (Z _ (by omega)) (Z _ (by omega)) (f15 u hu) (fun r hr => Z _ (by omega)) (by rw [e561]; exact a8.2.1) hC (fun j j1 j2 => G j (by omega) (by omega)) (e561.trans (a1.2.2.2.trans g1.symm))
  refine ⟨⟨⟨Z 0 (by omega), ?_, (Y 1 (by omega)).trans ?_, (Y 2 (by omega)).trans ?_, (K 564 (by omega)).trans (l1.2.2.2.2.1.trans (hh 1 (by omega) (by omega)).symm), ?_, ?_, ?_⟩, fun u hu => ⟨0, 0, th u hu⟩, fun x hx => ?_, fun x hx => Or.inl (Y _ (by omega)), (fun _ u hu q => absurd (f15 u hu) q), ⟨(K 559 (by omega)).trans l6.1, (hh 2 (by omega) (by omega)).trans l6.2.1, fun u hu q => absurd (f15 u hu) q⟩⟩, (K 560 (by omega)).trans (hO.1.trans (hh 3 (by omega) (by omega)).symm), fun u hu => ?_⟩
  · unfold d_rs; rw [m_sc_ne (by omega), m_sc_ne (by omega), m_sc_self]
  · unfold d_rs; rw [m_sc_ne (by omega), m_sc_self]
  · unfold d_rs; rw [m_sc_self]
  · rw [d_rs_hi (by omega), d_ct3_o (by omega)]; exact l1.2.2.2.2.2.1
  · rw [d_rs_hi (by omega), d_ct3_o (by omega)]; exact l1.2.2.2.2.2.2.1
  · rw [d_rs_hi (by omega), d_ct3_o (by omega)]; exact l1.2.2.2.2.2.2.2
  · obtain ⟨n, h1, h2, h3, h4, h5, h6, h7, h8, h9, h10⟩ := l3 x hx
    obtain ⟨q1, q2, q3, q4, q5, q6, q7, q8, q9⟩ := d_ccs_v (g := d_ct3 g) (x := x) (n := 8) hx
    rw [d_ct3_o (by omega)] at q1 q2 q4 q5
    have D : ∀ j, j < 144 → d_rs g j = d_ccs (d_ct3 g) 8 j := fun j hj => by
      unfold d_rs
      rw [m_sc_ne (by omega), m_sc_ne (by omega), m_sc_ne (by omega)]
    obtain ⟨p1, p2, p3, p4, p5⟩ := (h10 0 (by omega)).1 (by omega)
    refine ⟨1, by omega, by omega, (D _ (by omega)).trans q7, (Y _ (by omega)).trans ((D _ (by omega)).trans q8).symm, (Y _ (by omega)).trans ((D _ (by omega)).trans q9).symm, (K _ (by omega)).trans (h6.trans ((D _ (by omega)).trans q1).symm), (K _ (by omega)).trans (h7.trans ((D _ (by omega)).trans q2).symm), (Z _ (by omega)).trans ((D _ (by omega)).trans q3).symm, fun _ => rfl, fun k hk => ⟨fun hk1 => ?_, fun hk1 => ?_⟩⟩
    · obtain rfl : k = 0 := by omega
      have z5 : d_rs g (18 * x + 3 + 3 * 0 + 2) = nI 0 := (D _ (by omega)).trans (q6 5 (by omega) (by omega))
      refine ⟨(K _ (by omega)).trans ((show f (49 + 24 * 0 + x) = g (18 * x) from (by rw [show 49 + 24 * 0 + x = 49 + x by omega]; exact h6)).trans ((D _ (by omega)).trans q4).symm), (K _ (by omega)).trans ((show f (57 + 24 * 0 + x) = g (18 * x + 1) from (by rw [show 57 + 24 * 0 + x = 57 + x by omega]; exact h7)).trans ((D _ (by omega)).trans q5).symm), (Z _ (by omega)).trans z5.symm, ⟨0, by omega, Z _ (by omega)⟩, ?_⟩
      rw [K _ (by omega), K _ (by omega)]
      exact p5
    · have z : ∀ i, i < 3 → d_rs g (18 * x + 3 + 3 * k + i) = nI 0 := fun i hi => by
        rw [D _ (by omega), show 18 * x + 3 + 3 * k + i = 18 * x + (3 + 3 * k + i) by omega]
        exact q6 _ (by omega) (by omega)
      exact ⟨Y _ (by omega), Y _ (by omega), Y _ (by omega), z 0 (by omega), z 1 (by omega), z 2 (by omega)⟩
  · obtain ⟨g0, g1, g2⟩ := d_ct3_t (g := g) hu
    have G : ∀ i, 151 ≤ i → i < 154 → d_rs g (150 + 154 * u + i) = nI 0 := fun i i1 i2 => (d_rs_hi (by omega)).trans ((g2 _ (by omega) (by omega)).trans (d_clt_0 (by omega) (by omega) (by omega)))
    rw [Z _ (by omega), Z _ (by omega), Z _ (by omega), G _ (by omega) (by omega), G _ (by omega) (by omega), G _ (by omega) (by omega)]
    exact ⟨rfl, rfl, rfl, fun _ => ⟨rfl, rfl, rfl⟩⟩
end RZN
