/-! class and model alike: what one thread changes of its own -/
section RLO
variable {f g h f' g' h' : Nat → Int32} {u v x k r c b b2 d o n : Nat} {y z : Int32}
theorem rl_tb_G (ht : rl_tb f g u c d o) (hu : u < 3) (hf : ∀ j, j < 21 + 4 * u ∨ 25 + 4 * u ≤ j → f' j = f j) (hg : ∀ j, j < 150 + 154 * u + 3 ∨ 150 + 154 * u + 7 ≤ j → g' j = g j) (hst : ¬ f (3 + u) = nI 0) (hG : rl_G f' g' u) : rl_tb f' g' u c d o := by
  obtain ⟨h1, h2, h3, h4, h5, h6, h7, h8, h9, h10, h11⟩ := ht
  have q3 := hf (3 + u) (by omega)
  have q15 := hf (15 + u) (by omega)
  exact ⟨rl_A_fr h1 q3 (hf _ (by omega)) (hf _ (by omega)) (hf _ (by omega)) (hg _ (by omega)) (hg _ (by omega)) (hg _ (by omega)) (hg _ (by omega)), hG, rl_K_fr h3 q15 (hg _ (by omega)) (hg _ (by omega)), rl_D_fr h4 (hf _ (by omega)) q15 (hf _ (by omega)) (hg _ (by omega)) (hg _ (by omega)), rl_X_fr h5 q15 (fun j j1 j2 => hf j (by omega)) (fun j j1 j2 => hg j (by omega)), rl_W_fr h6 (fun j j1 j2 => hf j (by omega)) (fun j j1 j2 => hg j (by omega)), rl_S_fr h7 q15 (fun j j1 j2 => hf j (by omega)) (fun j j1 j2 => hg j (by omega)), rl_P_fr h8 (hf _ (by omega)) q15 (hf _ (by omega)) (hf _ (by omega)), rl_C_fr h9 q15 (fun j j1 j2 => hf j (by omega)), rl_N_of (by rw [q3]; exact hst), rl_T_fr h11 q15 (hf _ (by omega))⟩
theorem rl_tb_W (ht : rl_tb f g u c d o) (hu : u < 3) (hf : ∀ j, j < 152 + 47 * u ∨ 192 + 47 * u ≤ j → f' j = f j) (hg : ∀ j, j < 150 + 154 * u + 111 ∨ 150 + 154 * u + 151 ≤ j → g' j = g j) (hW : rl_W f' g' u) (hC : rl_C f' u) : rl_tb f' g' u c d o := by
  obtain ⟨h1, h2, h3, h4, h5, h6, h7, h8, h9, h10, h11⟩ := ht
  have q3 := hf (3 + u) (by omega)
  have q15 := hf (15 + u) (by omega)
  exact ⟨rl_A_fr h1 q3 (hf _ (by omega)) (hf _ (by omega)) (hf _ (by omega)) (hg _ (by omega)) (hg _ (by omega)) (hg _ (by omega)) (hg _ (by omega)), rl_G_fr h2 (fun j j1 j2 => hf j (by omega)) (fun j j1 j2 => hg j (by omega)), rl_K_fr h3 q15 (hg _ (by omega)) (hg _ (by omega)), rl_D_fr h4 (hf _ (by omega)) q15 (hf _ (by omega)) (hg _ (by omega)) (hg _ (by omega)), rl_X_fr h5 q15 (fun j j1 j2 => hf j (by omega)) (fun j j1 j2 => hg j (by omega)), hW, rl_S_fr h7 q15 (fun j j1 j2 => hf j (by omega)) (fun j j1 j2 => hg j (by omega)), rl_P_fr h8 (hf _ (by omega)) q15 (hf _ (by omega)) (hf _ (by omega)), hC, rl_N_fr h10 q3 (hf _ (by omega)) (hf _ (by omega)) (hf _ (by omega)) q15 (fun r hr => hf _ (by omega)), rl_T_fr h11 q15 (hf _ (by omega))⟩
theorem rl_tb_S {d2 : Nat} (ht : rl_tb f g u c d o) (hu : u < 3) (hf : ∀ j, j ≠ 12 + u → (j < 286 + 88 * u ∨ 374 + 88 * u ≤ j) → f' j = f j) (hg : ∀ j, j < 150 + 154 * u + 8 ∨ 150 + 154 * u + 101 ≤ j → g' j = g j) (hst : ¬ f (3 + u) = nI 0) (e1 : f' (12 + u) = nI d2) (e2 : g' (150 + 154 * u + 8) = nI d2) (h5d : d2 ≤ 4) (h6d : o ≤ d2) (hS : rl_S f' g' u d2 o) : rl_tb f' g' u c d2 o := by
  obtain ⟨h1, h2, h3, h4, h5, h6, h7, h8, h9, h10, h11⟩ := ht
  have q3 := hf (3 + u) (by omega) (by omega)
  have q15 := hf (15 + u) (by omega) (by omega)
  obtain ⟨d1, d2', d3, d4, d5, d6⟩ := h4
  exact ⟨rl_A_fr h1 q3 (hf _ (by omega) (by omega)) (hf _ (by omega) (by omega)) (hf _ (by omega) (by omega)) (hg _ (by omega)) (hg _ (by omega)) (hg _ (by omega)) (hg _ (by omega)), rl_G_fr h2 (fun j j1 j2 => hf j (by omega) (by omega)) (fun j j1 j2 => hg j (by omega)), rl_K_fr h3 q15 (hg _ (by omega)) (hg _ (by omega)), ⟨e1, e2, h5d, h6d, (c_outer_fr q15 (hf _ (by omega) (by omega))).trans d5, (hg _ (by omega)).trans d6⟩, rl_X_fr h5 q15 (fun j j1 j2 => hf j (by omega) (by omega)) (fun j j1 j2 => hg j (by omega)), rl_W_fr h6 (fun j j1 j2 => hf j (by omega) (by omega)) (fun j j1 j2 => hg j (by omega)), hS, rl_P_fr h8 (hf _ (by omega) (by omega)) q15 (hf _ (by omega) (by omega)) (hf _ (by omega) (by omega)), rl_C_fr h9 q15 (fun j j1 j2 => hf j (by omega) (by omega)), rl_N_of (by rw [q3]; exact hst), rl_T_fr h11 q15 (hf _ (by omega) (by omega))⟩
/-- a register -/
theorem rl_tb_reg (ht : rl_tb f g u c d o) (hu : u < 3) (hr : r < 4) (hst : ¬ f (3 + u) = nI 0) : rl_tb (m_sc f (21 + 4 * u + r) y) (m_sc g (150 + 154 * u + 3 + r) y) u c d o := by
  refine rl_tb_G ht hu (fun j hj => m_sc_ne (by omega)) (fun j hj => m_sc_ne (by omega)) hst (fun i hi => ?_)
  by_cases h1 : i = r
  · subst h1; rw [m_sc_self, m_sc_self]
  · rw [m_sc_ne (by omega), m_sc_ne (by omega)]; exact ht.2.1 i hi
theorem rl_reg (hL : rl_L f g h c b b2) (hu : u < 3) (hr : r < 4) (hst : ¬ f (3 + u) = nI 0) : rl_L (m_sc f (21 + 4 * u + r) y) (m_sc g (150 + 154 * u + 3 + r) y) h c b b2 := by
  refine rl_own hu hL (fun j hj => m_sc_ne (by unfold rl_pi at hj; omega)) (fun j hj => m_sc_ne (by omega)) ?_
  obtain ⟨d, o, ht⟩ := hL.2.1 u hu
  exact ⟨d, o, rl_tb_reg ht hu hr hst⟩
/-- the place -/
theorem rl_tb_plc (ht : rl_tb f g u c d o) (hu : u < 3) (hy : rl_pl y) (hst : ¬ f (3 + u) = nI 0) : rl_tb (m_sc f (6 + u) y) (m_sc g (150 + 154 * u + 1) y) u c d o := by
  obtain ⟨h1, h2, h3, h4, h5, h6, h7, h8, h9, h10, h11⟩ := ht
  have F : ∀ j, j ≠ 6 + u → m_sc f (6 + u) y j = f j := fun j hj => m_sc_ne hj
  have G : ∀ j, j ≠ 150 + 154 * u + 1 → m_sc g (150 + 154 * u + 1) y j = g j := fun j hj => m_sc_ne hj
  have q15 := F (15 + u) (by omega)
  refine ⟨⟨(F _ (by omega)).trans (h1.1.trans (G _ (by omega)).symm), by rw [m_sc_self, m_sc_self], (F _ (by omega)).trans (h1.2.2.1.trans (G _ (by omega)).symm), (F _ (by omega)).trans (h1.2.2.2.trans (G _ (by omega)).symm)⟩, rl_G_fr h2 (fun j j1 j2 => F j (by omega)) (fun j j1 j2 => G j (by omega)), rl_K_fr h3 q15 (G _ (by omega)) (G _ (by omega)), rl_D_fr h4 (F _ (by omega)) q15 (F _ (by omega)) (G _ (by omega)) (G _ (by omega)), rl_X_fr h5 q15 (fun j j1 j2 => F j (by omega)) (fun j j1 j2 => G j (by omega)), rl_W_fr h6 (fun j j1 j2 => F j (by omega)) (fun j j1 j2 => G j (by omega)), rl_S_fr h7 q15 (fun j j1 j2 => F j (by omega)) (fun j j1 j2 => G j (by omega)), ⟨by rw [m_sc_self]; exact hy, by rw [F (561 + u) (by omega)]; exact h8.2.1, by rw [q15, F (146 + 47 * u) (by omega)]; exact h8.2.2⟩, rl_C_fr h9 q15 (fun j j1 j2 => F j (by omega)), rl_N_of (by rw [F _ (by omega)]; exact hst), rl_T_fr h11 q15 (F _ (by omega))⟩
theorem rl_plc (hL : rl_L f g h c b b2) (hu : u < 3) (hy : rl_pl y) (hst : ¬ f (3 + u) = nI 0) : rl_L (m_sc f (6 + u) y) (m_sc g (150 + 154 * u + 1) y) h c b b2 := by
  refine rl_own hu hL (fun j hj => m_sc_ne (by unfold rl_pi at hj; omega)) (fun j hj => m_sc_ne (by omega)) ?_
  obtain ⟨d, o, ht⟩ := hL.2.1 u hu
  exact ⟨d, o, rl_tb_plc ht hu hy hst⟩
/-- the registers as at the begin -/
theorem rl_tb_old (ht : rl_tb f g u c d o) (hu : u < 3) (hi : ¬ f (15 + u) = -1) (hst : ¬ f (3 + u) = nI 0) : rl_tb (va_cpy f f (148 + 47 * u) (21 + 4 * u) 4) (d_cp g (150 + 154 * u + 106) (150 + 154 * u + 3) 4) u c d o := by
  refine rl_tb_G ht hu (fun j hj => pk_cpy_out (by omega)) (fun j hj => d_cp_o (by omega)) hst (fun i hi2 => ?_)
  rw [va_x hi2, d_cp_x hi2 (by omega)]
  exact (ht.2.2.2.2.1.2 hi).2.2 i hi2
theorem rl_old (hL : rl_L f g h c b b2) (hu : u < 3) (hi : ¬ f (15 + u) = -1) (hst : ¬ f (3 + u) = nI 0) : rl_L (va_cpy f f (148 + 47 * u) (21 + 4 * u) 4) (d_cp g (150 + 154 * u + 106) (150 + 154 * u + 3) 4) h c b b2 := by
  refine rl_own hu hL (fun j hj => pk_cpy_out (by unfold rl_pi at hj; omega)) (fun j hj => d_cp_o (by omega)) ?_
  obtain ⟨d, o, ht⟩ := hL.2.1 u hu
  exact ⟨d, o, rl_tb_old ht hu hi hst⟩
/-- a value comes to the log -/
theorem rl_log (hL : rl_L f g h c b b2) (hu : u < 3) (hx : x < 8) (hi : ¬ f (15 + u) = -1) (hv : rl_val y z) : rl_L (c_log f u x y z) (d_lg g u x y z) h c b b2 := by
  refine rl_own hu hL (fun j hj => ?_) (fun j hj => ?_) ?_
  · unfold rl_pi at hj; unfold c_log; rw [m_sc_ne (by omega), m_sc_ne (by omega)]
  · unfold d_lg; rw [m_sc_ne (by omega), m_sc_ne (by omega)]
  · obtain ⟨d, o, ht⟩ := hL.2.1 u hu
    have F : ∀ j, j ≠ 176 + 47 * u + x → j ≠ 184 + 47 * u + x → c_log f u x y z j = f j := fun j j1 j2 => by unfold c_log; rw [m_sc_ne (by omega), m_sc_ne (by omega)]
    have G : ∀ j, j ≠ 150 + 154 * u + 135 + 2 * x → j ≠ 150 + 154 * u + 136 + 2 * x → d_lg g u x y z j = g j := fun j j1 j2 => by unfold d_lg; rw [m_sc_ne (by omega), m_sc_ne (by omega)]
    refine ⟨d, o, rl_tb_W ht hu (fun j hj => F j (by omega) (by omega)) (fun j hj => G j (by omega) (by omega)) (fun i hi2 => ?_) (fun h15 => absurd ((F _ (by omega) (by omega)).symm.trans h15) hi)⟩
    obtain ⟨a1, a2, a3, a4, a5, a6⟩ := ht.2.2.2.2.2.1 i hi2
    rw [F (152 + 47 * u + i) (by omega) (by omega), F (160 + 47 * u + i) (by omega) (by omega), F (168 + 47 * u + i) (by omega) (by omega), G (150 + 154 * u + 111 + i) (by omega) (by omega), G (150 + 154 * u + 119 + 2 * i) (by omega) (by omega), G (150 + 154 * u + 120 + 2 * i) (by omega) (by omega)]
    by_cases h1 : i = x
    · subst h1
      have e1 : c_log f u i y z (176 + 47 * u + i) = y := by unfold c_log; rw [m_sc_ne (by omega), m_sc_self]
      have e2 : c_log f u i y z (184 + 47 * u + i) = z := by unfold c_log; exact scE (by omega)
      have e3 : d_lg g u i y z (150 + 154 * u + 135 + 2 * i) = y := by unfold d_lg; rw [m_sc_ne (by omega), m_sc_self]
      have e4 : d_lg g u i y z (150 + 154 * u + 136 + 2 * i) = z := by unfold d_lg; exact scE (by omega)
      rw [e1, e2, e3, e4]
      exact ⟨a1, a2, a3, rfl, rfl, Or.inr hv⟩
    · rw [F (176 + 47 * u + i) (by omega) (by omega), F (184 + 47 * u + i) (by omega) (by omega), G (150 + 154 * u + 135 + 2 * i) (by omega) (by omega), G (150 + 154 * u + 136 + 2 * i) (by omega) (by omega)]
      exact ⟨a1, a2, a3, a4, a5, a6⟩
/-- the first reading of a cell -/
theorem rl_see (hL : rl_L f g h c b b2) (hu : u < 3) (hx : x < 8) (hi : ¬ f (15 + u) = -1) {kk : Nat} (hy : f (49 + kk + x) = y) (hz : f (57 + kk + x) = z) : rl_L (c_see f u x kk) (d_seen g u x y z) h c b b2 := by
  obtain ⟨d, o, ht⟩ := hL.2.1 u hu
  have hw := ht.2.2.2.2.2.1 x hx
  unfold c_see d_seen
  rw [hw.2.1]
  by_cases h0 : g (150 + 154 * u + 119 + 2 * x) = -1
  · rw [if_pos h0, if_pos h0, hy, hz]
    refine rl_own hu hL (fun j hj => ?_) (fun j hj => ?_) ?_
    · unfold rl_pi at hj; rw [m_sc_ne (by omega), m_sc_ne (by omega)]
    · rw [m_sc_ne (by omega), m_sc_ne (by omega)]
    · have F : ∀ j, j ≠ 160 + 47 * u + x → j ≠ 168 + 47 * u + x → (m_sc (m_sc f (160 + 47 * u + x) y) (160 + 47 * u + x + 8) z) j = f j := fun j j1 j2 => by rw [m_sc_ne (by omega), m_sc_ne (by omega)]
      have G : ∀ j, j ≠ 150 + 154 * u + 119 + 2 * x → j ≠ 150 + 154 * u + 120 + 2 * x → (m_sc (m_sc g (150 + 154 * u + 119 + 2 * x) y) (150 + 154 * u + 119 + 2 * x + 1) z) j = g j := fun j j1 j2 => by rw [m_sc_ne (by omega), m_sc_ne (by omega)]
      refine ⟨d, o, rl_tb_W ht hu (fun j hj => F j (by omega) (by omega)) (fun j hj => G j (by omega) (by omega)) (fun i hi2 => ?_) (fun h15 => absurd ((F _ (by omega) (by omega)).symm.trans h15) hi)⟩
      obtain ⟨a1, a2, a3, a4, a5, a6⟩ := ht.2.2.2.2.2.1 i hi2
      rw [F (152 + 47 * u + i) (by omega) (by omega), F (176 + 47 * u + i) (by omega) (by omega), F (184 + 47 * u + i) (by omega) (by omega), G (150 + 154 * u + 111 + i) (by omega) (by omega), G (150 + 154 * u + 135 + 2 * i) (by omega) (by omega), G (150 + 154 * u + 136 + 2 * i) (by omega) (by omega)]
      by_cases h1 : i = x
      · subst h1
        rw [show m_sc (m_sc f (160 + 47 * u + i) y) (160 + 47 * u + i + 8) z (160 + 47 * u + i) = y by rw [m_sc_ne (by omega), m_sc_self], show m_sc (m_sc f (160 + 47 * u + i) y) (160 + 47 * u + i + 8) z (168 + 47 * u + i) = z from scE (by omega), show m_sc (m_sc g (150 + 154 * u + 119 + 2 * i) y) (150 + 154 * u + 119 + 2 * i + 1) z (150 + 154 * u + 119 + 2 * i) = y by rw [m_sc_ne (by omega), m_sc_self], show m_sc (m_sc g (150 + 154 * u + 119 + 2 * i) y) (150 + 154 * u + 119 + 2 * i + 1) z (150 + 154 * u + 120 + 2 * i) = z from scE (by omega)]
        exact ⟨a1, rfl, rfl, a4, a5, a6⟩
      · rw [F (160 + 47 * u + i) (by omega) (by omega), F (168 + 47 * u + i) (by omega) (by omega), G (150 + 154 * u + 119 + 2 * i) (by omega) (by omega), G (150 + 154 * u + 120 + 2 * i) (by omega) (by omega)]
        exact ⟨a1, a2, a3, a4, a5, a6⟩
  · rw [if_neg h0, if_neg h0]
    exact hL
/-- START becomes the clock -/
theorem rl_start (hL : rl_L f g h c b b2) (hu : u < 3) (hi : ¬ f (15 + u) = -1) : rl_L (m_sc f (145 + 47 * u) (f 0)) (m_sc g (150 + 154 * u + 103) (g 144)) h c b b2 := by
  refine rl_own hu hL (fun j hj => m_sc_ne (by unfold rl_pi at hj; omega)) (fun j hj => m_sc_ne (by omega)) ?_
  obtain ⟨d, o, h1, h2, h3, h4, h5, h6, h7, h8, h9, h10, h11⟩ := hL.2.1 u hu
  have F : ∀ j, j ≠ 145 + 47 * u → m_sc f (145 + 47 * u) (f 0) j = f j := fun j hj => m_sc_ne hj
  have G : ∀ j, j ≠ 150 + 154 * u + 103 → m_sc g (150 + 154 * u + 103) (g 144) j = g j := fun j hj => m_sc_ne hj
  have q15 := F (15 + u) (by omega)
  refine ⟨d, o, rl_A_fr h1 (F _ (by omega)) (F _ (by omega)) (F _ (by omega)) (F _ (by omega)) (G _ (by omega)) (G _ (by omega)) (G _ (by omega)) (G _ (by omega)), rl_G_fr h2 (fun j j1 j2 => F j (by omega)) (fun j j1 j2 => G j (by omega)), rl_K_fr h3 q15 (G _ (by omega)) (G _ (by omega)), rl_D_fr h4 (F _ (by omega)) q15 (F _ (by omega)) (G _ (by omega)) (G _ (by omega)), ⟨fun z => absurd (q15.symm.trans z) hi, fun _ => ⟨?_, ?_, fun r hr => ?_⟩⟩, rl_W_fr h6 (fun j j1 j2 => F j (by omega)) (fun j j1 j2 => G j (by omega)), rl_S_fr h7 q15 (fun j j1 j2 => F j (by omega)) (fun j j1 j2 => G j (by omega)), rl_P_fr h8 (F _ (by omega)) q15 (F _ (by omega)) (F _ (by omega)), rl_C_fr h9 q15 (fun j j1 j2 => F j (by omega)), rl_N_fr h10 (F _ (by omega)) (F _ (by omega)) (F _ (by omega)) (F _ (by omega)) q15 (fun r hr => F _ (by omega)), fun _ => ⟨c, Nat.le_refl _, ?_⟩⟩
  · rw [m_sc_self, m_sc_self]; exact hL.1.1.trans hL.1.2.1.symm
  · rw [F (146 + 47 * u) (by omega), G (150 + 154 * u + 105) (by omega)]; exact (h5.2 hi).2.1
  · rw [F (148 + 47 * u + r) (by omega), G (150 + 154 * u + 106 + r) (by omega)]; exact (h5.2 hi).2.2 r hr
  · rw [m_sc_self]; exact hL.1.1
/-- scopes go, down to k of them -/
theorem rl_tb_drop (ht : rl_tb f g u c d o) (hu : u < 3) (hk : k ≤ d) (ho : o ≤ k) (hst : ¬ f (3 + u) = nI 0) : rl_tb (m_sc f (12 + u) (nI k)) (d_drop g u d k) u c k o := by
  have hd := ht.2.2.2.1.2.2.1
  refine rl_tb_S ht hu (fun j j1 j2 => m_sc_ne j1) (fun j hj => d_drop_o hk hd hj) hst m_sc_self d_drop_8 (by omega) ho (fun i hi => ⟨fun h1 => ?_, fun h1 q hq => ?_⟩)
  · refine rl_sk_fr hi ((ht.2.2.2.2.2.2.1 i hi).1 (by omega)) (m_sc_ne (by omega)) (fun j j1 j2 => m_sc_ne (by omega)) (fun j j1 j2 => d_drop_k (by omega) hk)
  · by_cases h2 : i < d
    · exact d_drop_z h1 h2 hq
    · rw [d_drop_k (by omega) hk]
      exact (ht.2.2.2.2.2.2.1 i hi).2 (by omega) q hq
theorem rl_drop (hL : rl_L f g h c b b2) (ht : rl_tb f g u c d o) (hu : u < 3) (hk : k ≤ d) (ho : o ≤ k) (hst : ¬ f (3 + u) = nI 0) : rl_L (m_sc f (12 + u) (nI k)) (d_drop g u d k) h c b b2 ∧ rl_tb (m_sc f (12 + u) (nI k)) (d_drop g u d k) u c k o := by
  have h1 := rl_tb_drop ht hu hk ho hst
  exact ⟨rl_own hu hL (fun j hj => m_sc_ne (by unfold rl_pi at hj; omega)) (fun j hj => d_drop_o hk ht.2.2.2.1.2.2.1 (by omega)) ⟨k, o, h1⟩, h1⟩
/-- log and registers as at a scope -/
theorem rl_tb_load (ht : rl_tb f g u c d o) (hu : u < 3) (hk : k < d) (hi : ¬ f (15 + u) = -1) (hst : ¬ f (3 + u) = nI 0) : rl_tb (c_bring f u (c_sc u k)) (d_load g u k) u c d o := by
  have hd := ht.2.2.2.1.2.2.1
  have hsk := (ht.2.2.2.2.2.2.1 k (by omega)).1 hk
  obtain ⟨h1, h2, h3, h4, h5, h6, h7, h8, h9, h10, h11⟩ := ht
  have F : ∀ j, (j < 21 + 4 * u ∨ 25 + 4 * u ≤ j) → (j < 176 + 47 * u ∨ 192 + 47 * u ≤ j) → c_bring f u (c_sc u k) j = f j := fun j j1 j2 => c_bring_o j1 j2
  have G : ∀ j, (j < 150 + 154 * u + 3 ∨ 150 + 154 * u + 7 ≤ j) → (j < 150 + 154 * u + 135 ∨ 150 + 154 * u + 151 ≤ j) → d_load g u k j = g j := fun j j1 j2 => d_load_o j1 j2
  have q15 := F (15 + u) (by omega) (by omega)
  refine ⟨rl_A_fr h1 (F _ (by omega) (by omega)) (F _ (by omega) (by omega)) (F _ (by omega) (by omega)) (F _ (by omega) (by omega)) (G _ (by omega) (by omega)) (G _ (by omega) (by omega)) (G _ (by omega) (by omega)) (G _ (by omega) (by omega)), fun r hr => ?_, rl_K_fr h3 q15 (G _ (by omega) (by omega)) (G _ (by omega) (by omega)), rl_D_fr h4 (F _ (by omega) (by omega)) q15 (F _ (by omega) (by omega)) (G _ (by omega) (by omega)) (G _ (by omega) (by omega)), rl_X_fr h5 q15 (fun j j1 j2 => F j (by omega) (by omega)) (fun j j1 j2 => G j (by omega) (by omega)), fun x hx => ?_, rl_S_fr h7 q15 (fun j j1 j2 => F j (by omega) (by omega)) (fun j j1 j2 => G j (by omega) (by omega)), rl_P_fr h8 (F _ (by omega) (by omega)) q15 (F _ (by omega) (by omega)) (F _ (by omega) (by omega)), fun z => absurd (q15.symm.trans z) hi, rl_N_of (by rw [F _ (by omega) (by omega)]; exact hst), rl_T_fr h11 q15 (F _ (by omega) (by omega))⟩
  · rw [c_bring_r hu hr, d_load_r (by omega) hr]
    exact hsk.2.2.2.2.1 r hr
  · obtain ⟨a1, a2, a3, a4, a5, a6⟩ := h6 x hx
    obtain ⟨b1, b2, b3⟩ := hsk.2.2.2.2.2.1 x hx
    have e1 : d_load g u k (150 + 154 * u + 135 + 2 * x) = g (150 + 154 * u + 9 + 23 * k + 7 + 2 * x) := d_load_l (by omega) (by omega)
    have e2 : d_load g u k (150 + 154 * u + 136 + 2 * x) = g (150 + 154 * u + 9 + 23 * k + 7 + 2 * x + 1) := by
      rw [show 150 + 154 * u + 136 + 2 * x = 150 + 154 * u + 135 + (2 * x + 1) by omega]
      exact d_load_l (by omega) (by omega)
    rw [F (152 + 47 * u + x) (by omega) (by omega), F (160 + 47 * u + x) (by omega) (by omega), F (168 + 47 * u + x) (by omega) (by omega), G (150 + 154 * u + 111 + x) (by omega) (by omega), G (150 + 154 * u + 119 + 2 * x) (by omega) (by omega), G (150 + 154 * u + 120 + 2 * x) (by omega) (by omega), c_bring_l hu hx, c_bring_m hu hx, e1, e2]
    exact ⟨a1, a2, a3, b1, b2, b3⟩
theorem rl_load (hL : rl_L f g h c b b2) (ht : rl_tb f g u c d o) (hu : u < 3) (hk : k < d) (hi : ¬ f (15 + u) = -1) (hst : ¬ f (3 + u) = nI 0) : rl_L (c_bring f u (c_sc u k)) (d_load g u k) h c b b2 ∧ rl_tb (c_bring f u (c_sc u k)) (d_load g u k) u c d o := by
  have h1 := rl_tb_load ht hu hk hi hst
  exact ⟨rl_own hu hL (fun j hj => c_bring_o (by unfold rl_pi at hj; omega) (by unfold rl_pi at hj; omega)) (fun j hj => d_load_o (by omega) (by omega)) ⟨d, o, h1⟩, h1⟩
end RLO
