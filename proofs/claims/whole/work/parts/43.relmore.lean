/-! class and model alike: scopes begin; readings; marks on cells; begun anew; left -/
theorem c_opn_o {f : Nat → Int32} {u k p d j : Nat} (h1 : j ≠ 12 + u) (h2 : j < 286 + c_sc u d ∨ 308 + c_sc u d ≤ j) : c_opn f u k p d j = f j := by
  unfold c_opn
  split
  · rw [c_fill_o (by omega), m_sc_ne (by omega), m_sc_ne (by omega), m_sc_ne h1]
  · rw [pk_cpy_out (by omega), pk_cpy_out (by omega), c_fill_o (by omega), m_sc_ne (by omega), m_sc_ne (by omega), m_sc_ne h1]
theorem c_opn_d {f : Nat → Int32} {u k p d : Nat} (hu : u < 3) : c_opn f u k p d (12 + u) = nI (d + 1) := by
  unfold c_opn
  split
  · rw [c_fill_o (by omega), m_sc_ne (by omega), m_sc_ne (by omega), m_sc_self]
  · rw [pk_cpy_out (by omega), pk_cpy_out (by omega), c_fill_o (by omega), m_sc_ne (by omega), m_sc_ne (by omega), m_sc_self]
theorem c_opn_k {f : Nat → Int32} {u k p d : Nat} : c_opn f u k p d (286 + c_sc u d) = nI k := by
  unfold c_opn
  split
  · rw [c_fill_o (by omega), m_sc_ne (by omega), m_sc_self]
  · rw [pk_cpy_out (by omega), pk_cpy_out (by omega), c_fill_o (by omega), m_sc_ne (by omega), m_sc_self]
theorem c_opn_p {f : Nat → Int32} {u k p d : Nat} : c_opn f u k p d (287 + c_sc u d) = nI p := by
  unfold c_opn
  split
  · rw [c_fill_o (by omega), m_sc_self]
  · rw [pk_cpy_out (by omega), pk_cpy_out (by omega), c_fill_o (by omega), m_sc_self]
theorem c_opn_r {f : Nat → Int32} {u k p d r : Nat} (hu : u < 3) (hr : r < 4) : c_opn f u k p d (288 + c_sc u d + r) = if k = 18 then nI 0 else f (21 + 4 * u + r) := by
  unfold c_opn
  split
  · rw [c_fill_in (by omega)]
  · rw [pk_cpy_out (by omega), va_x hr, c_fill_o (by omega), m_sc_ne (by omega), m_sc_ne (by omega), m_sc_ne (by omega)]
theorem c_opn_l {f : Nat → Int32} {u k p d r : Nat} (hu : u < 3) (hd : d < 4) (hr : r < 16) : c_opn f u k p d (292 + c_sc u d + r) = if k = 18 then nI 0 else f (176 + 47 * u + r) := by
  have e := c_sc_def u d
  unfold c_opn
  split
  · rw [c_fill_in (by omega)]
  · rw [va_x hr, pk_cpy_out (by omega), c_fill_o (by omega), m_sc_ne (by omega), m_sc_ne (by omega), m_sc_ne (by omega)]
theorem d_psh_o {g : Nat → Int32} {u v p d j : Nat} (h1 : j ≠ 150 + 154 * u + 8) (h2 : j < 150 + 154 * u + 9 + 23 * d ∨ 150 + 154 * u + 32 + 23 * d ≤ j) : d_psh g u v p d j = g j := by
  unfold d_psh
  rw [m_sc_ne h1]
  split
  · rw [m_sc_ne (by omega), m_sc_ne (by omega), m_sc_ne (by omega)]
  · rw [d_cp_o (by omega), d_cp_o (by omega), m_sc_ne (by omega), m_sc_ne (by omega), m_sc_ne (by omega)]
theorem d_psh_8 {g : Nat → Int32} {u v p d : Nat} : d_psh g u v p d (150 + 154 * u + 8) = nI (d + 1) := m_sc_self
theorem d_psh_k {g : Nat → Int32} {u v p d : Nat} : d_psh g u v p d (150 + 154 * u + 9 + 23 * d) = nI v := by
  unfold d_psh
  rw [m_sc_ne (by omega)]
  split
  · rw [m_sc_ne (by omega), m_sc_ne (by omega), m_sc_self]
  · rw [d_cp_o (by omega), d_cp_o (by omega), m_sc_ne (by omega), m_sc_ne (by omega), m_sc_self]
theorem d_psh_p {g : Nat → Int32} {u v p d : Nat} : d_psh g u v p d (150 + 154 * u + 9 + 23 * d + 1) = nI p := by
  unfold d_psh
  rw [m_sc_ne (by omega)]
  split
  · rw [m_sc_ne (by omega), m_sc_self]
  · rw [d_cp_o (by omega), d_cp_o (by omega), m_sc_ne (by omega), m_sc_self]
theorem d_psh_i {g : Nat → Int32} {u v p d : Nat} : d_psh g u v p d (150 + 154 * u + 9 + 23 * d + 2) = g (150 + 154 * u + 101) := by
  unfold d_psh
  rw [m_sc_ne (by omega)]
  split
  · rw [m_sc_self]
  · rw [d_cp_o (by omega), d_cp_o (by omega), m_sc_self]
theorem d_psh_r {g : Nat → Int32} {u v p d r : Nat} (hr : r < 4) : d_psh g u v p d (150 + 154 * u + 9 + 23 * d + 3 + r) = if v = 2 then g (150 + 154 * u + 9 + 23 * d + 3 + r) else g (150 + 154 * u + 3 + r) := by
  unfold d_psh
  rw [m_sc_ne (by omega)]
  split
  · rw [m_sc_ne (by omega), m_sc_ne (by omega), m_sc_ne (by omega)]
  · rw [d_cp_o (by omega), d_cp_x hr (by omega), m_sc_ne (by omega), m_sc_ne (by omega), m_sc_ne (by omega)]
theorem d_psh_l {g : Nat → Int32} {u v p d r : Nat} (hd : d < 4) (hr : r < 16) : d_psh g u v p d (150 + 154 * u + 9 + 23 * d + 7 + r) = if v = 2 then g (150 + 154 * u + 9 + 23 * d + 7 + r) else g (150 + 154 * u + 135 + r) := by
  unfold d_psh
  rw [m_sc_ne (by omega)]
  split
  · rw [m_sc_ne (by omega), m_sc_ne (by omega), m_sc_ne (by omega)]
  · rw [d_cp_x hr (by omega), d_cp_o (by omega), m_sc_ne (by omega), m_sc_ne (by omega), m_sc_ne (by omega)]
/-- co, but for what u has read -/
def rl_cx (f : Nat → Int32) (w : Nat) : Prop := f 564 = nI 3 → ∀ u, u < 3 → ¬ f (15 + u) = -1 → ¬ f (3 + u) = nI 4 → f 1 = nI u ∧ (u ≠ w → ∀ x, x < 8 → f (152 + 47 * u + x) = -1 ∨ f (152 + 47 * u + x) = f (65 + x))
def rl_M (f g h : Nat → Int32) (w c b b2 : Nat) : Prop := rl_gl f g h c ∧ (∀ u, u < 3 → rl_th f g u c) ∧ (∀ x, x < 8 → rl_cl f g x c) ∧ rl_ow f ∧ rl_cx f w ∧ rl_ag f g h b b2
section RLP
variable {f g h f' g' h' : Nat → Int32} {u v w x k r c b b2 d o n p : Nat} {y z : Int32}
theorem rl_toM (hL : rl_L f g h c b b2) : rl_M f g h w c b b2 := by
  obtain ⟨h1, h2, h3, h4, h5, h6⟩ := hL
  exact ⟨h1, h2, h3, h4, fun q u hu z1 z2 => ⟨(h5 q u hu z1 z2).1, fun _ => (h5 q u hu z1 z2).2⟩, h6⟩
theorem rl_started (ht : rl_tb f g u c d o) (hi : ¬ f (15 + u) = -1) : ¬ f (3 + u) = nI 0 := fun q => hi ((ht.2.2.2.2.2.2.2.2.2.1 q).2.2.2.1)
theorem rl_outer (ht : rl_tb f g u c d o) (hi : ¬ f (15 + u) = -1) : f (147 + 47 * u) = nI o := by
  have h5 := ht.2.2.2.1.2.2.2.2.1
  unfold c_outer at h5
  rw [if_neg hi] at h5
  exact h5
theorem rl_push {kk : Nat} (hL : rl_L f g h c b b2) (ht : rl_tb f g u c d o) (hu : u < 3) (hd : d < 4) (hp : p ≤ 40) (hst : ¬ f (3 + u) = nI 0) (hs : rl_sort (nI kk) (nI v)) (hkv : kk = 18 ↔ v = 2) (hin : kk = 18 ∨ ¬ f (15 + u) = -1) : rl_L (c_opn f u kk p d) (d_psh g u v p d) h c b b2 ∧ rl_tb (c_opn f u kk p d) (d_psh g u v p d) u c (d + 1) o := by
  have e := c_sc_def u d
  have F : ∀ j, j ≠ 12 + u → (j < 286 + c_sc u d ∨ 308 + c_sc u d ≤ j) → c_opn f u kk p d j = f j := fun j j1 j2 => c_opn_o j1 j2
  have G : ∀ j, j ≠ 150 + 154 * u + 8 → (j < 150 + 154 * u + 9 + 23 * d ∨ 150 + 154 * u + 32 + 23 * d ≤ j) → d_psh g u v p d j = g j := fun j j1 j2 => d_psh_o j1 j2
  have q15 := F (15 + u) (by omega) (by omega)
  have hod := ht.2.2.2.1.2.2.2.1
  have hS := ht.2.2.2.2.2.2.1
  have hK := ht.2.2.1
  have new : rl_sk (c_opn f u kk p d) (d_psh g u v p d) u d o := by
    unfold rl_sk
    rw [c_opn_k, d_psh_k, c_opn_p, d_psh_p, d_psh_i, q15]
    refine ⟨hs, rfl, ⟨p, hp, rfl⟩, ?_, fun r hr => ?_, fun x hx => ?_, hin.elim (fun q => Or.inr (by rw [q])) (fun q => Or.inl ⟨hod, q⟩)⟩
    · rcases hK with ⟨k1, k2, k3⟩ | ⟨k, k1, k2, k3, k4⟩
      · rw [if_neg (fun q => q.2 k1), k2]
      · rw [if_pos ⟨hod, by rw [k2]; exact n_ne1' (by omega)⟩, k3]
    · rw [c_opn_r hu hr, d_psh_r hr]
      by_cases h1 : v = 2
      · rw [if_pos h1, if_pos (hkv.2 h1)]
        have := (hS d hd).2 (Nat.le_refl _) (3 + r) (by omega)
        rw [show 150 + 154 * u + 9 + 23 * d + 3 + r = 150 + 154 * u + 9 + 23 * d + (3 + r) by omega]
        exact this.symm
      · rw [if_neg h1, if_neg (fun q => h1 (hkv.1 q))]
        exact ht.2.1 r hr
    · have e1 := c_opn_l (f := f) (k := kk) (p := p) hu hd (show x < 16 by omega)
      have e2 := c_opn_l (f := f) (k := kk) (p := p) hu hd (show 8 + x < 16 by omega)
      rw [show 292 + c_sc u d + (8 + x) = 300 + c_sc u d + x by omega, show 176 + 47 * u + (8 + x) = 184 + 47 * u + x by omega] at e2
      have e3 := d_psh_l (g := g) (u := u) (v := v) (p := p) hd (show 2 * x < 16 by omega)
      have e4 := d_psh_l (g := g) (u := u) (v := v) (p := p) hd (show 2 * x + 1 < 16 by omega)
      rw [show 150 + 154 * u + 9 + 23 * d + 7 + (2 * x + 1) = 150 + 154 * u + 9 + 23 * d + 7 + 2 * x + 1 by omega, show 150 + 154 * u + 135 + (2 * x + 1) = 150 + 154 * u + 136 + 2 * x by omega] at e4
      rw [e1, e2, e3, e4]
      by_cases h1 : v = 2
      · rw [if_pos h1, if_pos h1, if_pos (hkv.2 h1), if_pos (hkv.2 h1)]
        have a1 := (hS d hd).2 (Nat.le_refl _) (7 + 2 * x) (by omega)
        have a2 := (hS d hd).2 (Nat.le_refl _) (7 + 2 * x + 1) (by omega)
        rw [show 150 + 154 * u + 9 + 23 * d + (7 + 2 * x) = 150 + 154 * u + 9 + 23 * d + 7 + 2 * x by omega] at a1
        rw [show 150 + 154 * u + 9 + 23 * d + (7 + 2 * x + 1) = 150 + 154 * u + 9 + 23 * d + 7 + 2 * x + 1 by omega] at a2
        exact ⟨a1.symm, a2.symm, Or.inr (Or.inl rfl)⟩
      · rw [if_neg h1, if_neg h1, if_neg (fun q => h1 (hkv.1 q)), if_neg (fun q => h1 (hkv.1 q))]
        obtain ⟨a1, a2, a3, a4, a5, a6⟩ := ht.2.2.2.2.2.1 x hx
        exact ⟨a4, a5, a6⟩
  have h1 : rl_tb (c_opn f u kk p d) (d_psh g u v p d) u c (d + 1) o := by
    refine rl_tb_S ht hu (fun j j1 j2 => F j j1 (by omega)) (fun j hj => G j (by omega) (by omega)) hst (c_opn_d hu) d_psh_8 (by omega) (by omega) (fun i hi => ⟨fun h1 => ?_, fun h1 q hq => ?_⟩)
    · by_cases h2 : i = d
      · subst h2; exact new
      · exact rl_sk_fr hi ((hS i hi).1 (by omega)) q15 (fun j j1 j2 => F j (by omega) (by omega)) (fun j j1 j2 => G j (by omega) (by omega))
    · rw [G _ (by omega) (by omega)]
      exact (hS i hi).2 (by omega) q hq
  exact ⟨rl_own hu hL (fun j hj => F j (by unfold rl_pi at hj; omega) (by unfold rl_pi at hj; omega)) (fun j hj => G j (by omega) (by omega)) ⟨d + 1, o, h1⟩, h1⟩
/-- a cell comes to what was read -/
theorem rl_come (hL : rl_L f g h c b b2) (hu : u < 3) (hx : x < 8) (hi : ¬ f (15 + u) = -1) : rl_L (m_sc f (152 + 47 * u + x) (f (65 + x))) (m_sc g (150 + 154 * u + 111 + x) (g (18 * x + 2))) h c b b2 := by
  obtain ⟨h1, h2, h3, h4, h5, h6⟩ := hL
  have F : ∀ j, j ≠ 152 + 47 * u + x → m_sc f (152 + 47 * u + x) (f (65 + x)) j = f j := fun j hj => m_sc_ne hj
  have G : ∀ j, j ≠ 150 + 154 * u + 111 + x → m_sc g (150 + 154 * u + 111 + x) (g (18 * x + 2)) j = g j := fun j hj => m_sc_ne hj
  have hver : f (65 + x) = g (18 * x + 2) := by
    obtain ⟨n, a1, a2, a3, a4, a5, a6, a7, a8, a9⟩ := h3 x hx
    exact a8
  refine ⟨rl_gl_fr h1 (F _ (by omega)) (F _ (by omega)) (F _ (by omega)) (F _ (by omega)) (fun j j1 j2 => G j (by omega)) rfl, fun v hv => ?_, fun y hy => rl_cl_fr hy (h3 y hy) (fun j j1 j2 => F j (by omega)) (fun j j1 j2 => G j (by omega)), rl_ow_fr h4 (fun j j1 j2 => F j (by omega)) (fun v hv => F _ (by omega)), ?_, rl_ag_fr h6 (F _ (by omega)) rfl (fun v hv => F _ (by omega)) (fun v hv => F _ (by omega)) (fun v hv => G _ (by omega))⟩
  · by_cases hvu : v = u
    · subst hvu
      obtain ⟨d, o, ht⟩ := h2 v hv
      refine ⟨d, o, rl_tb_W ht hv (fun j hj => F j (by omega)) (fun j hj => G j (by omega)) (fun i hi2 => ?_) (fun h15 => absurd ((F _ (by omega)).symm.trans h15) hi)⟩
      obtain ⟨a1, a2, a3, a4, a5, a6⟩ := ht.2.2.2.2.2.1 i hi2
      rw [F (160 + 47 * v + i) (by omega), F (168 + 47 * v + i) (by omega), F (176 + 47 * v + i) (by omega), F (184 + 47 * v + i) (by omega), G (150 + 154 * v + 119 + 2 * i) (by omega), G (150 + 154 * v + 120 + 2 * i) (by omega), G (150 + 154 * v + 135 + 2 * i) (by omega), G (150 + 154 * v + 136 + 2 * i) (by omega)]
      by_cases hix : i = x
      · subst hix
        rw [m_sc_self, m_sc_self]
        exact ⟨hver, a2, a3, a4, a5, a6⟩
      · rw [F (152 + 47 * v + i) (by omega), G (150 + 154 * v + 111 + i) (by omega)]
        exact ⟨a1, a2, a3, a4, a5, a6⟩
    · exact rl_th_fr (h2 v hv) (fun j hj => F j (by unfold rl_ci at hj; omega)) (fun j j1 j2 => G j (by omega))
  · intro q w hw z1 z2
    rw [F 564 (by omega)] at q
    rw [F (15 + w) (by omega)] at z1
    rw [F (3 + w) (by omega)] at z2
    obtain ⟨b1, b2⟩ := h5 q w hw z1 z2
    rw [F 1 (by omega)]
    refine ⟨b1, fun i hi2 => ?_⟩
    rw [F (65 + i) (by omega)]
    by_cases hix : 152 + 47 * w + i = 152 + 47 * u + x
    · right
      rw [hix, m_sc_self]
      congr 1
      omega
    · rw [F _ hix]
      exact b2 i hi2
/-- a mark that is held -/
theorem rl_hold (hL : rl_L f g h c b b2) (hx : x < 8) (hu : u < 3) : rl_L (m_sc f (41 + x) (nI u)) (m_sc g (18 * x + 17) (nI u)) h c b b2 := by
  obtain ⟨h1, h2, h3, h4, h5, h6⟩ := hL
  have F : ∀ j, j ≠ 41 + x → m_sc f (41 + x) (nI u) j = f j := fun j hj => m_sc_ne hj
  have G : ∀ j, j ≠ 18 * x + 17 → m_sc g (18 * x + 17) (nI u) j = g j := fun j hj => m_sc_ne hj
  refine ⟨rl_gl_fr h1 (F _ (by omega)) (F _ (by omega)) (F _ (by omega)) (F _ (by omega)) (fun j j1 j2 => G j (by omega)) rfl, fun v hv => rl_th_fr (h2 v hv) (fun j hj => F j (by unfold rl_ci at hj; omega)) (fun j j1 j2 => G j (by omega)), fun y hy => ?_, rl_ow_fr h4 (fun j j1 j2 => F j (by omega)) (fun v hv => F _ (by omega)), rl_co_fr h5 (F _ (by omega)) (F _ (by omega)) (fun v hv => F _ (by omega)) (fun v hv => F _ (by omega)) (fun v i hv hi => F _ (by omega)) (fun i hi => F _ (by omega)), rl_ag_fr h6 (F _ (by omega)) rfl (fun v hv => F _ (by omega)) (fun v hv => F _ (by omega)) (fun v hv => G _ (by omega))⟩
  obtain ⟨n, a1, a2, a3, a4, a5, a6, a7, a8, a9, a10⟩ := h3 y hy
  refine ⟨n, a1, a2, (G _ (by omega)).trans a3, (F _ (by omega)).trans (a4.trans (G _ (by omega)).symm), ?_, (F _ (by omega)).trans (a6.trans (G _ (by omega)).symm), (F _ (by omega)).trans (a7.trans (G _ (by omega)).symm), (F _ (by omega)).trans (a8.trans (G _ (by omega)).symm), a9, fun k hk => ?_⟩
  · by_cases hyx : y = x
    · subst hyx; rw [m_sc_self, m_sc_self]
    · rw [F _ (by omega), G _ (by omega)]; exact a5
  · rw [F (49 + 24 * k + y) (by omega), F (57 + 24 * k + y) (by omega), F (65 + 24 * k + y) (by omega), G (18 * y + 3 + 3 * k) (by omega), G (18 * y + 3 + 3 * k + 1) (by omega), G (18 * y + 3 + 3 * k + 2) (by omega)]
    exact a10 k hk
/-- a mark that is owned -/
theorem rl_ownx (hL : rl_L f g h c b b2) (hx : x < 8) (hu : u < 3) (hi : ¬ f (15 + u) = -1) : rl_L (m_sc f (33 + x) (nI u)) (m_sc g (18 * x + 16) (nI u)) h c b b2 := by
  obtain ⟨h1, h2, h3, h4, h5, h6⟩ := hL
  have F : ∀ j, j ≠ 33 + x → m_sc f (33 + x) (nI u) j = f j := fun j hj => m_sc_ne hj
  have G : ∀ j, j ≠ 18 * x + 16 → m_sc g (18 * x + 16) (nI u) j = g j := fun j hj => m_sc_ne hj
  refine ⟨rl_gl_fr h1 (F _ (by omega)) (F _ (by omega)) (F _ (by omega)) (F _ (by omega)) (fun j j1 j2 => G j (by omega)) rfl, fun v hv => rl_th_fr (h2 v hv) (fun j hj => F j (by unfold rl_ci at hj; omega)) (fun j j1 j2 => G j (by omega)), fun y hy => ?_, fun y hy => ?_, rl_co_fr h5 (F _ (by omega)) (F _ (by omega)) (fun v hv => F _ (by omega)) (fun v hv => F _ (by omega)) (fun v i hv hi => F _ (by omega)) (fun i hi => F _ (by omega)), rl_ag_fr h6 (F _ (by omega)) rfl (fun v hv => F _ (by omega)) (fun v hv => F _ (by omega)) (fun v hv => G _ (by omega))⟩
  · obtain ⟨n, a1, a2, a3, a4, a5, a6, a7, a8, a9, a10⟩ := h3 y hy
    refine ⟨n, a1, a2, (G _ (by omega)).trans a3, ?_, (F _ (by omega)).trans (a5.trans (G _ (by omega)).symm), (F _ (by omega)).trans (a6.trans (G _ (by omega)).symm), (F _ (by omega)).trans (a7.trans (G _ (by omega)).symm), (F _ (by omega)).trans (a8.trans (G _ (by omega)).symm), a9, fun k hk => ?_⟩
    · by_cases hyx : y = x
      · subst hyx; rw [m_sc_self, m_sc_self]
      · rw [F _ (by omega), G _ (by omega)]; exact a4
    · rw [F (49 + 24 * k + y) (by omega), F (57 + 24 * k + y) (by omega), F (65 + 24 * k + y) (by omega), G (18 * y + 3 + 3 * k) (by omega), G (18 * y + 3 + 3 * k + 1) (by omega), G (18 * y + 3 + 3 * k + 2) (by omega)]
      exact a10 k hk
  · by_cases hyx : y = x
    · subst hyx
      exact Or.inr ⟨u, hu, m_sc_self, by rw [F _ (by omega)]; exact hi⟩
    · rw [F _ (by omega)]
      rcases h4 y hy with q | ⟨w, w1, w2, w3⟩
      · exact Or.inl q
      · exact Or.inr ⟨w, w1, w2, by rw [F _ (by omega)]; exact w3⟩
/-- cells, where marks of u go on both sides -/
theorem rl_cb_rel (hx : x < 8) (h0 : rl_cb f g x c n) (hf : ∀ j, 49 ≤ j → j < 145 → f' j = f j) (hg : ∀ j, 18 * x ≤ j → j < 18 * x + 16 → g' j = g j) (e1 : f' (33 + x) = g' (18 * x + 16)) (e2 : f' (41 + x) = g' (18 * x + 17)) : rl_cb f' g' x c n := by
  obtain ⟨a1, a2, a3, a4, a5, a6, a7, a8, a9, a10⟩ := h0
  refine ⟨a1, a2, (hg _ (by omega) (by omega)).trans a3, e1, e2, (hf _ (by omega) (by omega)).trans (a6.trans (hg _ (by omega) (by omega)).symm), (hf _ (by omega) (by omega)).trans (a7.trans (hg _ (by omega) (by omega)).symm), (hf _ (by omega) (by omega)).trans (a8.trans (hg _ (by omega) (by omega)).symm), a9, fun k hk => ?_⟩
  rw [hf (49 + 24 * k + x) (by omega) (by omega), hf (57 + 24 * k + x) (by omega) (by omega), hf (65 + 24 * k + x) (by omega) (by omega), hg (18 * x + 3 + 3 * k) (by omega) (by omega), hg (18 * x + 3 + 3 * k + 1) (by omega) (by omega), hg (18 * x + 3 + 3 * k + 2) (by omega) (by omega)]
  exact a10 k hk
theorem nI_u {a b : Nat} (ha : a < 3) (hb : b < 3) (h : nI a = nI b) : a = b := by
  rw [n_eq (by omega) (by omega)] at h; exact h
theorem rl_lv1 : rl_lv (-1) (nI 0) := Or.inl rfl
theorem rl_anew (hM : rl_M f g h u c b b2) (ht : rl_tb f g u c d o) (hu : u < 3) (hi : ¬ f (15 + u) = -1) : rl_L (c_anew f u) (d_anew g u d o) (d_anh h) c b b2 ∧ rl_tb (c_anew f u) (d_anew g u d o) u c o o := by
  obtain ⟨h1, h2, h3, h4, h5, h6⟩ := hM
  have ho := rl_outer ht hi
  have hst := rl_started ht hi
  obtain ⟨t1, t2, t3, t4, t5, t6, t7, t8, t9, t10, t11⟩ := id ht
  obtain ⟨d1, d2, d3, d4, d5, d6⟩ := id t4
  have F : ∀ j, (j < 33 ∨ 41 ≤ j) → (j < 152 + 47 * u ∨ 192 + 47 * u ≤ j) → (j < 21 + 4 * u ∨ 25 + 4 * u ≤ j) → (j ≠ 145 + 47 * u ∧ j ≠ 12 + u ∧ j ≠ 6 + u ∧ j ≠ 560 ∧ j ≠ 550 + u) → c_anew f u j = f j := fun j j1 j2 j3 j4 => c_anew_o j1 j2 j3 j4
  have G : ∀ j, (j ≠ 150 + 154 * u + 1 ∧ j ≠ 150 + 154 * u + 151 ∧ j ≠ 150 + 154 * u + 103) → (j < 150 + 154 * u + 3 ∨ 150 + 154 * u + 7 ≤ j) → (j < 150 + 154 * u + 8 ∨ 150 + 154 * u + 9 + 23 * d ≤ j ∨ (150 + 154 * u + 9 ≤ j ∧ j < 150 + 154 * u + 9 + 23 * o)) → (j < 150 + 154 * u + 111 ∨ 150 + 154 * u + 151 ≤ j) → (∀ x, x < 8 → j ≠ 18 * x + 16) → d_anew g u d o j = g j := fun j j1 j2 j3 j4 j5 => d_anew_f d4 j1 j2 j3 j4 j5
  have q15 : ∀ v, v < 3 → c_anew f u (15 + v) = f (15 + v) := fun v hv => F _ (by omega) (by omega) (by omega) (by omega)
  have q3 : ∀ v, v < 3 → c_anew f u (3 + v) = f (3 + v) := fun v hv => F _ (by omega) (by omega) (by omega) (by omega)
  have q18 : ∀ v, v < 3 → c_anew f u (18 + v) = f (18 + v) := fun v hv => F _ (by omega) (by omega) (by omega) (by omega)
  have hW : ∀ x, x < 8 → c_anew f u (152 + 47 * u + x) = -1 ∧ c_anew f u (160 + 47 * u + x) = -1 ∧ c_anew f u (168 + 47 * u + x) = nI 0 ∧ c_anew f u (176 + 47 * u + x) = -1 ∧ c_anew f u (184 + 47 * u + x) = nI 0 := fun x hx => ⟨c_anew_e hu (by omega) (by omega) (c_clear_1 hx), c_anew_e hu (by omega) (by omega) (c_clear_2 hx), c_anew_e hu (by omega) (by omega) (c_clear_3 hx), c_anew_e hu (by omega) (by omega) (c_clear_4 hx), c_anew_e hu (by omega) (by omega) (c_clear_5 hx)⟩
  have new : rl_tb (c_anew f u) (d_anew g u d o) u c o o := by
    refine ⟨⟨?_, ?_, ?_, ?_⟩, fun r hr => ?_, rl_K_fr t3 (q15 u hu) (G _ (by omega) (by omega) (by omega) (by omega) (by omega)) (G _ (by omega) (by omega) (by omega) (by omega) (by omega)), ⟨by rw [c_anew_d hu, ho], d_anew_8, by omega, Nat.le_refl _, ?_, ?_⟩, ⟨fun q => absurd ((q15 u hu).symm.trans q) hi, fun _ => ⟨?_, ?_, fun r hr => ?_⟩⟩, fun x hx => ?_, fun k hk => ⟨fun k1 => ?_, fun k1 i hi2 => ?_⟩, ⟨?_, ?_, fun _ => ?_⟩, fun q => absurd ((q15 u hu).symm.trans q) hi, rl_N_of (by rw [q3 u hu]; exact hst), fun _ => ⟨c, Nat.le_refl _, by rw [c_anew_s hu]; exact h1.1⟩⟩
    · rw [q3 u hu, G _ (by omega) (by omega) (by omega) (by omega) (by omega)]; exact t1.1
    · rw [c_anew_p hu, d_anew_p d4 d3]; exact (t5.2 hi).2.1
    · rw [F (9 + u) (by omega) (by omega) (by omega) (by omega), G _ (by omega) (by omega) (by omega) (by omega) (by omega)]; exact t1.2.2.1
    · rw [F (561 + u) (by omega) (by omega) (by omega) (by omega), G _ (by omega) (by omega) (by omega) (by omega) (by omega)]; exact t1.2.2.2
    · rw [c_anew_r hu hr, d_anew_r d4 hr]; exact (t5.2 hi).2.2 r hr
    · exact (c_outer_fr (q15 u hu) (F _ (by omega) (by omega) (by omega) (by omega))).trans d5
    · rw [G _ (by omega) (by omega) (by omega) (by omega) (by omega)]; exact d6
    · rw [c_anew_s hu, d_anew_s d4 d3]; exact h1.1.trans h1.2.1.symm
    · rw [F (146 + 47 * u) (by omega) (by omega) (by omega) (by omega), G _ (by omega) (by omega) (by omega) (by omega) (by omega)]; exact (t5.2 hi).2.1
    · rw [F (148 + 47 * u + r) (by omega) (by omega) (by omega) (by omega), G _ (by omega) (by omega) (by omega) (by omega) (by omega)]; exact (t5.2 hi).2.2 r hr
    · obtain ⟨w1, w2, w3, w4, w5⟩ := hW x hx
      rw [w1, w2, w3, w4, w5, d_anew_e d4 d3 (by omega) (by omega) (by rw [d_el_o (by omega), d_er_1 hx] : d_el (d_er g u) u (150 + 154 * u + 111 + x) = -1), d_anew_e d4 d3 (by omega) (by omega) (by rw [d_el_o (by omega), d_er_2 hx] : d_el (d_er g u) u (150 + 154 * u + 119 + 2 * x) = -1), d_anew_e d4 d3 (by omega) (by omega) (by rw [d_el_o (by omega), d_er_3 hx] : d_el (d_er g u) u (150 + 154 * u + 120 + 2 * x) = nI 0), d_anew_e d4 d3 (by omega) (by omega) (d_el_1 hx : d_el (d_er g u) u (150 + 154 * u + 135 + 2 * x) = -1), d_anew_e d4 d3 (by omega) (by omega) (d_el_2 hx : d_el (d_er g u) u (150 + 154 * u + 136 + 2 * x) = nI 0)]
      exact ⟨rfl, rfl, rfl, rfl, rfl, rl_lv1⟩
    · have e := c_sc_def u k
      exact rl_sk_fr hk ((t7 k hk).1 (by omega)) (q15 u hu) (fun j j1 j2 => F j (by omega) (by omega) (by omega) (by omega)) (fun j j1 j2 => G j (by omega) (by omega) (by omega) (by omega) (by omega))
    · by_cases k2 : k < d
      · exact d_anew_z k1 k2 d3 hi2
      · rw [G _ (by omega) (by omega) (by omega) (by omega) (by omega)]
        exact (t7 k hk).2 (by omega) i hi2
    · rw [c_anew_p hu]; exact t8.2.2 hi
    · rw [F (561 + u) (by omega) (by omega) (by omega) (by omega)]; exact t8.2.1
    · rw [F (146 + 47 * u) (by omega) (by omega) (by omega) (by omega)]; exact t8.2.2 hi
  refine ⟨⟨rl_gl_fr h1 (F _ (by omega) (by omega) (by omega) (by omega)) (F _ (by omega) (by omega) (by omega) (by omega)) (F _ (by omega) (by omega) (by omega) (by omega)) (F _ (by omega) (by omega) (by omega) (by omega)) (fun j j1 j2 => G _ (by omega) (by omega) (by omega) (by omega) (by omega)) (m_sc_ne (by omega)), fun v hv => ?_, fun x hx => ?_, fun x hx => ?_, fun q v hv z1 z2 => ?_, rl_ag_fr h6 (F _ (by omega) (by omega) (by omega) (by omega)) (m_sc_ne (by omega)) q15 q18 (fun v hv => ?_)⟩, new⟩
  · by_cases hvu : v = u
    · subst hvu; exact ⟨o, o, new⟩
    · exact rl_th_fr (h2 v hv) (fun j hj => by unfold rl_ci at hj; exact F j (by omega) (by omega) (by omega) (by omega)) (fun j j1 j2 => G j (by omega) (by omega) (by omega) (by omega) (by omega))
  · obtain ⟨n, hn⟩ := h3 x hx
    refine ⟨n, rl_cb_rel hx hn (fun j j1 j2 => F j (by omega) (by omega) (by omega) (by omega)) (fun j j1 j2 => G j (by omega) (by omega) (by omega) (by omega) (by omega)) ?_ ?_⟩
    · rw [c_anew_w hu hx, d_anew_w d4 hx, hn.2.2.2.1]
    · rw [F (41 + x) (by omega) (by omega) (by omega) (by omega), G _ (by omega) (by omega) (by omega) (by omega) (by omega)]
      exact hn.2.2.2.2.1
  · rw [c_anew_w hu hx]
    split
    · exact Or.inl rfl
    · rcases h4 x hx with q | ⟨w, w1, w2, w3⟩
      · exact Or.inl q
      · exact Or.inr ⟨w, w1, w2, by rw [q15 w w1]; exact w3⟩
  · rw [F 564 (by omega) (by omega) (by omega) (by omega)] at q
    rw [q15 v hv] at z1
    rw [q3 v hv] at z2
    obtain ⟨b1, b3⟩ := h5 q v hv z1 z2
    rw [F 1 (by omega) (by omega) (by omega) (by omega)]
    refine ⟨b1, fun x hx => ?_⟩
    by_cases hvu : v = u
    · subst hvu; exact Or.inl (hW x hx).1
    · rw [F (152 + 47 * v + x) (by omega) (by omega) (by omega) (by omega), F (65 + x) (by omega) (by omega) (by omega) (by omega)]
      exact b3 hvu x hx
  · exact G _ (by omega) (by omega) (by omega) (by omega) (by omega)
theorem rl_leave (hM : rl_M f g h u c b b2) (ht : rl_tb f g u c d d) (hu : u < 3) (hi : ¬ f (15 + u) = -1) : rl_L (c_leave f u) (d_end g u) h c b b2 ∧ rl_tb (c_leave f u) (d_end g u) u c d 0 := by
  obtain ⟨h1, h2, h3, h4, h5, h6⟩ := hM
  have hst := rl_started ht hi
  obtain ⟨t1, t2, t3, t4, t5, t6, t7, t8, t9, t10, t11⟩ := id ht
  obtain ⟨d1, d2, d3, d4, d5, d6⟩ := id t4
  have F : ∀ j, 2 < j → (j < 33 ∨ 49 ≤ j) → j ≠ 15 + u → j ≠ 18 + u → (j < 152 + 47 * u ∨ 192 + 47 * u ≤ j) → c_leave f u j = f j := fun j j0 j1 j2 j3 j4 => c_leave_o j0 j1 j2 j3 j4
  have G : ∀ j, (j < 150 + 154 * u + 101 ∨ 150 + 154 * u + 151 ≤ j) → (j ≠ 145 ∧ j ≠ 146) → (∀ x, x < 8 → j ≠ 18 * x + 16) → (∀ x, x < 8 → j ≠ 18 * x + 17) → d_end g u j = g j := fun j j1 j2 j3 j4 => d_end_f j1 j2 j3 j4
  have G0 : ∀ j, 150 + 154 * u + 101 ≤ j → j < 150 + 154 * u + 111 → d_end g u j = nI 0 := fun j j1 j2 => d_end_e (fun g => d_clear_0 ⟨j1, j2⟩)
  have k15 : c_leave f u (15 + u) = -1 := c_leave_k hu
  have q15 : ∀ v, v < 3 → v ≠ u → c_leave f u (15 + v) = f (15 + v) := fun v hv hvu => F _ (by omega) (by omega) (by omega) (by omega) (by omega)
  have q3 : ∀ v, v < 3 → c_leave f u (3 + v) = f (3 + v) := fun v hv => F _ (by omega) (by omega) (by omega) (by omega) (by omega)
  have hW : ∀ x, x < 8 → c_leave f u (152 + 47 * u + x) = -1 ∧ c_leave f u (160 + 47 * u + x) = -1 ∧ c_leave f u (168 + 47 * u + x) = nI 0 ∧ c_leave f u (176 + 47 * u + x) = -1 ∧ c_leave f u (184 + 47 * u + x) = nI 0 := fun x hx => ⟨c_clear_1 hx, c_clear_2 hx, c_clear_3 hx, c_clear_4 hx, c_clear_5 hx⟩
  have new : rl_tb (c_leave f u) (d_end g u) u c d 0 := by
    refine ⟨rl_A_fr t1 (q3 u hu) (F _ (by omega) (by omega) (by omega) (by omega) (by omega)) (F _ (by omega) (by omega) (by omega) (by omega) (by omega)) (F _ (by omega) (by omega) (by omega) (by omega) (by omega)) (G _ (by omega) (by omega) (by omega) (by omega)) (G _ (by omega) (by omega) (by omega) (by omega)) (G _ (by omega) (by omega) (by omega) (by omega)) (G _ (by omega) (by omega) (by omega) (by omega)), rl_G_fr t2 (fun j j1 j2 => F j (by omega) (by omega) (by omega) (by omega) (by omega)) (fun j j1 j2 => G j (by omega) (by omega) (by omega) (by omega)), Or.inl ⟨k15, G0 _ (by omega) (by omega), G0 _ (by omega) (by omega)⟩, ⟨?_, ?_, d3, Nat.zero_le _, ?_, G0 _ (by omega) (by omega)⟩, ⟨fun _ => ⟨G0 _ (by omega) (by omega), G0 _ (by omega) (by omega), fun r hr => G0 _ (by omega) (by omega)⟩, fun q => absurd k15 q⟩, fun x hx => ?_, fun k hk => ⟨fun k1 => ?_, fun k1 i hi2 => ?_⟩, ⟨?_, ?_, fun q => absurd k15 q⟩, fun _ x hx => hW x hx, rl_N_of (by rw [q3 u hu]; exact hst), fun q => absurd k15 q⟩
    · rw [F _ (by omega) (by omega) (by omega) (by omega) (by omega)]; exact d1
    · rw [G _ (by omega) (by omega) (by omega) (by omega)]; exact d2
    · unfold c_outer; rw [if_pos k15]
    · obtain ⟨w1, w2, w3, w4, w5⟩ := hW x hx
      rw [w1, w2, w3, w4, w5, d_end_e (fun g => d_clear_1 hx), d_end_e (fun g => d_clear_2 hx), d_end_e (fun g => d_clear_3 hx), d_end_e (fun g => d_clear_4 hx), d_end_e (fun g => d_clear_5 hx)]
      exact ⟨rfl, rfl, rfl, rfl, rfl, rl_lv1⟩
    · have e := c_sc_def u k
      obtain ⟨s1, s2, s3, s4, s5, s6, s7⟩ := (t7 k hk).1 k1
      unfold rl_sk
      rw [F (286 + c_sc u k) (by omega) (by omega) (by omega) (by omega) (by omega), F (287 + c_sc u k) (by omega) (by omega) (by omega) (by omega) (by omega), G (150 + 154 * u + 9 + 23 * k) (by omega) (by omega) (by omega) (by omega), G (150 + 154 * u + 9 + 23 * k + 1) (by omega) (by omega) (by omega) (by omega), G (150 + 154 * u + 9 + 23 * k + 2) (by omega) (by omega) (by omega) (by omega)]
      refine ⟨s1, s2, s3, ?_, fun r hr => ?_, fun x hx => ?_, s7.elim (fun q => by omega) Or.inr⟩
      · rw [s4, if_neg (fun q => by omega), if_neg (fun q => q.2 k15)]
      · rw [F (288 + c_sc u k + r) (by omega) (by omega) (by omega) (by omega) (by omega), G _ (by omega) (by omega) (by omega) (by omega)]; exact s5 r hr
      · rw [F (292 + c_sc u k + x) (by omega) (by omega) (by omega) (by omega) (by omega), F (300 + c_sc u k + x) (by omega) (by omega) (by omega) (by omega) (by omega), G (150 + 154 * u + 9 + 23 * k + 7 + 2 * x) (by omega) (by omega) (by omega) (by omega), G (150 + 154 * u + 9 + 23 * k + 7 + 2 * x + 1) (by omega) (by omega) (by omega) (by omega)]; exact s6 x hx
    · rw [G _ (by omega) (by omega) (by omega) (by omega)]; exact (t7 k hk).2 k1 i hi2
    · rw [F _ (by omega) (by omega) (by omega) (by omega) (by omega)]; exact t8.1
    · rw [F (561 + u) (by omega) (by omega) (by omega) (by omega) (by omega)]; exact t8.2.1
  obtain ⟨l0, l1, l2, l3, l4, l5, l6, l7⟩ := h1
  refine ⟨⟨⟨?_, ?_, ?_, ?_, ?_, ?_, ?_, ?_⟩, fun v hv => ?_, fun x hx => ?_, fun x hx => ?_, fun q v hv z1 z2 => ?_, ⟨?_, h6.2.1, fun v hv z1 => ?_⟩⟩, new⟩
  · unfold c_leave
    rw [c_clear_o (by omega), m_sc_ne (by omega), m_sc_ne (by omega), c_leave2_o (by omega), c_leave1_o (by omega) (by omega)]; exact l0
  · rw [G _ (by omega) (by omega) (by omega) (by omega)]; exact l1
  · rw [c_leave_1 hu, d_end_1, l2]
  · rw [c_leave_2 hu, d_end_2, l3]
  · rw [F _ (by omega) (by omega) (by omega) (by omega) (by omega)]; exact l4
  · rw [G _ (by omega) (by omega) (by omega) (by omega)]; exact l5
  · rw [G _ (by omega) (by omega) (by omega) (by omega)]; exact l6
  · rw [G _ (by omega) (by omega) (by omega) (by omega)]; exact l7
  · by_cases hvu : v = u
    · subst hvu; exact ⟨d, 0, new⟩
    · exact rl_th_fr (h2 v hv) (fun j hj => by unfold rl_ci at hj; exact F j (by omega) (by omega) (by omega) (by omega) (by omega)) (fun j j1 j2 => G j (by omega) (by omega) (by omega) (by omega))
  · obtain ⟨n, hn⟩ := h3 x hx
    refine ⟨n, rl_cb_rel hx hn (fun j j1 j2 => F j (by omega) (by omega) (by omega) (by omega) (by omega)) (fun j j1 j2 => G j (by omega) (by omega) (by omega) (by omega)) ?_ ?_⟩
    · rw [c_leave_w hu hx, d_end_w hx, hn.2.2.2.1]
    · rw [c_leave_h hu hx, d_end_h hx, hn.2.2.2.2.1]
  · rw [c_leave_w hu hx]
    split
    · exact Or.inl rfl
    · rename_i hne
      rcases h4 x hx with q | ⟨w, w1, w2, w3⟩
      · exact Or.inl q
      · have hwu : w ≠ u := fun q => hne (by rw [w2, q])
        exact Or.inr ⟨w, w1, w2, by rw [q15 w w1 hwu]; exact w3⟩
  · have hvu : v ≠ u := fun q => z1 (by rw [q]; exact k15)
    rw [F 564 (by omega) (by omega) (by omega) (by omega) (by omega)] at q
    rw [q15 v hv hvu] at z1
    rw [q3 v hv] at z2
    obtain ⟨b1, b3⟩ := h5 q v hv z1 z2
    refine ⟨?_, fun x hx => ?_⟩
    · rw [c_leave_1 hu, b1, if_neg (fun q => hvu (nI_u hv hu q))]
    · rw [F (152 + 47 * v + x) (by omega) (by omega) (by omega) (by omega) (by omega), F (65 + x) (by omega) (by omega) (by omega) (by omega) (by omega)]
      exact b3 hvu x hx
  · rw [F _ (by omega) (by omega) (by omega) (by omega) (by omega)]; exact h6.1
  · have hvu : v ≠ u := fun q => z1 (by rw [q]; exact k15)
    rw [q15 v hv hvu] at z1
    obtain ⟨a1, a2, a3⟩ := h6.2.2 v hv z1
    rw [F (18 + v) (by omega) (by omega) (by omega) (by omega) (by omega), G (150 + 154 * v + 104) (by omega) (by omega) (by omega) (by omega)]
    refine ⟨a1, a2, fun w hw z2 => ?_⟩
    have hwu : w ≠ u := fun q => z2 (by rw [q]; exact k15)
    rw [q15 w hw hwu] at z2
    rw [F (18 + w) (by omega) (by omega) (by omega) (by omega) (by omega), G (150 + 154 * w + 104) (by omega) (by omega) (by omega) (by omega)]
    exact a3 w hw z2
end RLP
