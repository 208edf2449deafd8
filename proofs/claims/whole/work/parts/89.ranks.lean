/-! explore: ages become ranks -/
section RBA
variable {f g h f' g' h' : Nat → Int32} {u v w c b b2 d o : Nat}
/-- 1: v's transaction is elder than u's -/
def z_z (f : Nat → Int32) (v u : Nat) : Nat := if ¬ f (15 + v) = -1 ∧ f (18 + v) < f (18 + u) then 1 else 0
def z_rk (f : Nat → Int32) (u : Nat) : Nat := if f (15 + u) = -1 then 0 else z_z f 0 u + z_z f 1 u + z_z f 2 u
def z_ags (f : Nat → Int32) : Nat → Int32 := m_sc (m_sc (m_sc f 18 (nI (z_rk f 0))) 19 (nI (z_rk f 1))) 20 (nI (z_rk f 2))
def d_elr (g : Nat → Int32) (v u : Nat) : Nat := if g (150 + 154 * v + 101) = nI 1 ∧ g (150 + 154 * v + 104) < g (150 + 154 * u + 104) then 1 else 0
def d_rk (g : Nat → Int32) (u : Nat) : Nat := if g (150 + 154 * u + 101) = nI 1 then d_elr g 0 u + d_elr g 1 u + d_elr g 2 u else 0
def d_ags (g : Nat → Int32) : Nat → Int32 := m_sc (m_sc (m_sc g 254 (nI (d_rk g 0))) 408 (nI (d_rk g 1))) 562 (nI (d_rk g 2))
theorem z_ags_o {j : Nat} (h : j < 18 ∨ 21 ≤ j) : z_ags f j = f j := by
  unfold z_ags
  rw [m_sc_ne (by omega), m_sc_ne (by omega), m_sc_ne (by omega)]
theorem z_ags_i (hu : u < 3) : z_ags f (18 + u) = nI (z_rk f u) := by
  unfold z_ags
  obtain rfl | rfl | rfl : u = 0 ∨ u = 1 ∨ u = 2 := by omega
  · rw [m_sc_ne (by omega), m_sc_ne (by omega), m_sc_self]
  · rw [m_sc_ne (by omega), m_sc_self]
  · rw [m_sc_self]
theorem d_ags_o {j : Nat} (h : j ≠ 254 ∧ j ≠ 408 ∧ j ≠ 562) : d_ags g j = g j := by
  unfold d_ags
  rw [m_sc_ne h.2.2, m_sc_ne h.2.1, m_sc_ne h.1]
theorem d_ags_i (hu : u < 3) : d_ags g (150 + 154 * u + 104) = nI (d_rk g u) := by
  unfold d_ags
  obtain rfl | rfl | rfl : u = 0 ∨ u = 1 ∨ u = 2 := by omega
  · rw [m_sc_ne (by omega), m_sc_ne (by omega), m_sc_self]
  · rw [m_sc_ne (by omega), m_sc_self]
  · rw [m_sc_self]
theorem z_z_2 : z_z f v u ≤ 1 := by unfold z_z; split <;> omega
theorem z_rk_2 : z_rk f u ≤ 3 := by
  have h0 := z_z_2 (f := f) (v := 0) (u := u)
  have h1 := z_z_2 (f := f) (v := 1) (u := u)
  have h2 := z_z_2 (f := f) (v := 2) (u := u)
  unfold z_rk
  split <;> omega
theorem z_z_s : z_z f u u = 0 := if_neg (fun q => Int32.lt_irrefl q.2)
theorem z_rk_3 (hu : u < 3) : z_rk f u ≤ 2 := by
  have h0 := z_z_2 (f := f) (v := 0) (u := u)
  have h1 := z_z_2 (f := f) (v := 1) (u := u)
  have h2 := z_z_2 (f := f) (v := 2) (u := u)
  have h3 := z_z_s (f := f) (u := u)
  unfold z_rk
  obtain rfl | rfl | rfl : u = 0 ∨ u = 1 ∨ u = 2 := by omega
  all_goals (split <;> omega)
/-- the elder's rank is less -/
theorem z_mono (hu : u < 3) (iu : ¬ f (15 + u) = -1) (iv : ¬ f (15 + v) = -1) (hl : f (18 + u) < f (18 + v)) : z_rk f u < z_rk f v := by
  have m : ∀ w, z_z f w u ≤ z_z f w v := fun w => by
    unfold z_z
    by_cases q : ¬ f (15 + w) = -1 ∧ f (18 + w) < f (18 + u)
    · rw [if_pos q, if_pos ⟨q.1, Int32.lt_trans q.2 hl⟩]; exact Nat.le_refl _
    · rw [if_neg q]; exact Nat.zero_le _
  have s0 := z_z_s (f := f) (u := u)
  have s1 : z_z f u v = 1 := if_pos ⟨iu, hl⟩
  have m0 := m 0
  have m1 := m 1
  have m2 := m 2
  unfold z_rk
  rw [if_neg iu, if_neg iv]
  obtain rfl | rfl | rfl : u = 0 ∨ u = 1 ∨ u = 2 := by omega
  all_goals omega
/-- a rank isn't above the age -/
theorem z_le (hu : u < 3) (iu : ¬ f (15 + u) = -1) (hn : ∀ v, v < 3 → ¬ f (15 + v) = -1 → nI 0 ≤ f (18 + v)) (hd : ∀ v w, v < 3 → w < 3 → ¬ f (15 + v) = -1 → ¬ f (15 + w) = -1 → ¬ v = w → ¬ f (18 + v) = f (18 + w)) : (z_rk f u : Int) ≤ (f (18 + u)).toInt := by
  have nn : ∀ v, v < 3 → ¬ f (15 + v) = -1 → 0 ≤ (f (18 + v)).toInt := fun v hv iv => by
    have := hn v hv iv
    rw [Int32.le_iff_toInt_le, nI_toInt (by decide)] at this
    omega
  have dd : ∀ v w, v < 3 → w < 3 → ¬ f (15 + v) = -1 → ¬ f (15 + w) = -1 → ¬ v = w → ¬ (f (18 + v)).toInt = (f (18 + w)).toInt := fun v w hv hw iv iw hvw q => hd v w hv hw iv iw hvw (Int32.toInt_inj.mp q)
  have hz : ∀ w, w < 3 → z_z f w u = 0 ∨ (z_z f w u = 1 ∧ ¬ f (15 + w) = -1 ∧ 0 ≤ (f (18 + w)).toInt ∧ (f (18 + w)).toInt < (f (18 + u)).toInt) := fun w hw => by
    unfold z_z
    by_cases q : ¬ f (15 + w) = -1 ∧ f (18 + w) < f (18 + u)
    · rw [if_pos q]; exact Or.inr ⟨rfl, q.1, nn w hw q.1, Int32.lt_iff_toInt_lt.mp q.2⟩
    · rw [if_neg q]; exact Or.inl rfl
  have s0 := z_z_s (f := f) (u := u)
  have nu := nn u hu iu
  unfold z_rk
  rw [if_neg iu]
  rcases hz 0 (by omega) with a0 | ⟨a0, i0, p0, q0⟩ <;> rcases hz 1 (by omega) with a1 | ⟨a1, i1, p1, q1⟩ <;> rcases hz 2 (by omega) with a2 | ⟨a2, i2, p2, q2⟩
  · omega
  · omega
  · omega
  · have := dd 1 2 (by omega) (by omega) i1 i2 (by omega); omega
  · omega
  · have := dd 0 2 (by omega) (by omega) i0 i2 (by omega); omega
  · have := dd 0 1 (by omega) (by omega) i0 i1 (by omega); omega
  · obtain rfl | rfl | rfl : u = 0 ∨ u = 1 ∨ u = 2 := by omega
    all_goals omega
/-- ages are ranks -/
def z_RK (f : Nat → Int32) : Prop := ∀ u, u < 3 → f (18 + u) = nI (z_rk f u)
theorem n_tri {x y : Int32} (h1 : ¬ x = y) (h2 : ¬ x < y) : y < x := by
  rw [Int32.lt_iff_toInt_lt] at h2 ⊢
  have : ¬ x.toInt = y.toInt := fun q => h1 (Int32.toInt_inj.mp q)
  omega
theorem z_ord (hd : ∀ v w, v < 3 → w < 3 → ¬ f (15 + v) = -1 → ¬ f (15 + w) = -1 → ¬ v = w → ¬ f (18 + v) = f (18 + w)) (hu : u < 3) (hv : v < 3) (iu : ¬ f (15 + u) = -1) (iv : ¬ f (15 + v) = -1) : (nI (z_rk f u) < nI (z_rk f v)) = (f (18 + u) < f (18 + v)) := by
  have r1 := z_rk_3 (f := f) hu
  have r2 := z_rk_3 (f := f) hv
  rw [n_lt (by omega) (by omega)]
  apply propext
  refine ⟨fun q => ?_, fun q => z_mono hu iu iv q⟩
  by_cases e1 : u = v
  · subst e1; omega
  · by_cases e2 : f (18 + u) < f (18 + v)
    · exact e2
    · have := z_mono hv iv iu (n_tri (hd u v hu hv iu iv e1) e2)
      omega
theorem z_RK_ags (hd : ∀ v w, v < 3 → w < 3 → ¬ f (15 + v) = -1 → ¬ f (15 + w) = -1 → ¬ v = w → ¬ f (18 + v) = f (18 + w)) : z_RK (z_ags f) := by
  intro u hu
  rw [z_ags_i hu]
  have e15 : ∀ v, v < 3 → z_ags f (15 + v) = f (15 + v) := fun v hv => z_ags_o (by omega)
  unfold z_rk
  rw [e15 u hu]
  by_cases iu : f (15 + u) = -1
  · rw [if_pos iu, if_pos iu]
  · rw [if_neg iu, if_neg iu]
    have z : ∀ v, v < 3 → z_z (z_ags f) v u = z_z f v u := fun v hv => by
      unfold z_z
      rw [e15 v hv, z_ags_i hv, z_ags_i hu]
      by_cases iv : f (15 + v) = -1
      · rw [if_neg (fun q => q.1 iv), if_neg (fun q => q.1 iv)]
      · by_cases q : f (18 + v) < f (18 + u)
        · rw [if_pos ⟨iv, (z_ord hd hv hu iv iu).mpr q⟩, if_pos ⟨iv, q⟩]
        · rw [if_neg (fun z => q ((z_ord hd hv hu iv iu).mp z.2)), if_neg (fun z => q z.2)]
    rw [z 0 (by omega), z 1 (by omega), z 2 (by omega)]
theorem rl_in (hL : rl_L f g h c b b2) (hu : u < 3) : g (150 + 154 * u + 101) = nI 1 ↔ ¬ f (15 + u) = -1 := by
  obtain ⟨d, o, ht⟩ := hL.2.1 u hu
  have n01 : ¬ nI 0 = nI 1 := by decide
  rcases rl_g101 ht with ⟨q1, q2⟩ | ⟨q1, q2, _⟩
  · rw [q2]; exact ⟨fun z => absurd z n01, fun z => absurd q1 z⟩
  · exact ⟨fun _ => q1, fun _ => q2⟩
theorem rl_dist (hL : rl_L f g h c b b2) : ∀ v w, v < 3 → w < 3 → ¬ f (15 + v) = -1 → ¬ f (15 + w) = -1 → ¬ v = w → ¬ f (18 + v) = f (18 + w) := fun v w hv hw iv iw hvw => ((hL.2.2.2.2.2.2.2 v hv iv).2.2 w hw iw).2 hvw
theorem z_d_z (hL : rl_L f g h c b b2) (hu : u < 3) (hv : v < 3) (iu : ¬ f (15 + u) = -1) : d_elr g v u = z_z f v u := by
  unfold d_elr z_z
  by_cases iv : f (15 + v) = -1
  · rw [if_neg (fun q => (rl_in hL hv).mp q.1 iv), if_neg (fun q => q.1 iv)]
  · have e := ((hL.2.2.2.2.2.2.2 v hv iv).2.2 u hu iu).1
    have i1 := (rl_in hL hv).mpr iv
    by_cases q : f (18 + v) < f (18 + u)
    · rw [if_pos ⟨i1, e.mp q⟩, if_pos ⟨iv, q⟩]
    · rw [if_neg (fun z => q (e.mpr z.2)), if_neg (fun z => q z.2)]
theorem z_d_rk (hL : rl_L f g h c b b2) (hu : u < 3) : d_rk g u = z_rk f u := by
  unfold d_rk z_rk
  by_cases iu : f (15 + u) = -1
  · rw [if_pos iu, if_neg (fun q => (rl_in hL hu).mp q iu)]
  · rw [if_neg iu, if_pos ((rl_in hL hu).mpr iu), z_d_z hL hu (by omega) iu, z_d_z hL hu (by omega) iu, z_d_z hL hu (by omega) iu]
theorem rl_X_ag (h : rl_X f g u) (h15 : f' (15 + u) = f (15 + u)) (hf : ∀ j, 145 + 47 * u ≤ j → j < 152 + 47 * u → f' j = f j) (hg : ∀ j, 150 + 154 * u + 103 ≤ j → j < 150 + 154 * u + 110 → j ≠ 150 + 154 * u + 104 → g' j = g j) : rl_X f' g' u := by
  unfold rl_X
  rw [h15, hf (145 + 47 * u) (by omega) (by omega), hf (146 + 47 * u) (by omega) (by omega), hg (150 + 154 * u + 103) (by omega) (by omega) (by omega), hg (150 + 154 * u + 105) (by omega) (by omega) (by omega)]
  refine ⟨fun h1 => ⟨(h.1 h1).1, (h.1 h1).2.1, fun r hr => ?_⟩, fun h1 => ⟨(h.2 h1).1, (h.2 h1).2.1, fun r hr => ?_⟩⟩
  · rw [hg (150 + 154 * u + 106 + r) (by omega) (by omega) (by omega)]; exact (h.1 h1).2.2 r hr
  · rw [hf (148 + 47 * u + r) (by omega) (by omega), hg (150 + 154 * u + 106 + r) (by omega) (by omega) (by omega)]; exact (h.2 h1).2.2 r hr
theorem rl_tb_ag (h : rl_tb f g u c d o) (hf : ∀ j, rl_ci u j → f' j = f j) (hg : ∀ j, 150 + 154 * u ≤ j → j < 150 + 154 * u + 151 → j ≠ 150 + 154 * u + 104 → g' j = g j) : rl_tb f' g' u c d o := by
  obtain ⟨h1, h2, h3, h4, h5, h6, h7, h8, h9, h10, h11⟩ := h
  have q3 : f' (3 + u) = f (3 + u) := hf _ (by unfold rl_ci; omega)
  have q6 : f' (6 + u) = f (6 + u) := hf _ (by unfold rl_ci; omega)
  have q9 : f' (9 + u) = f (9 + u) := hf _ (by unfold rl_ci; omega)
  have q12 : f' (12 + u) = f (12 + u) := hf _ (by unfold rl_ci; omega)
  have q15 : f' (15 + u) = f (15 + u) := hf _ (by unfold rl_ci; omega)
  have q561 : f' (561 + u) = f (561 + u) := hf _ (by unfold rl_ci; omega)
  have qr : ∀ j, 21 + 4 * u ≤ j → j < 25 + 4 * u → f' j = f j := fun j j1 j2 => hf _ (by unfold rl_ci; omega)
  have qt : ∀ j, 145 + 47 * u ≤ j → j < 192 + 47 * u → f' j = f j := fun j j1 j2 => hf _ (by unfold rl_ci; omega)
  have qs : ∀ j, 286 + 88 * u ≤ j → j < 374 + 88 * u → f' j = f j := fun j j1 j2 => hf _ (by unfold rl_ci; omega)
  refine ⟨rl_A_fr h1 q3 q6 q9 q561 (hg _ (by omega) (by omega) (by omega)) (hg _ (by omega) (by omega) (by omega)) (hg _ (by omega) (by omega) (by omega)) (hg _ (by omega) (by omega) (by omega)), rl_G_fr h2 qr (fun j j1 j2 => hg j (by omega) (by omega) (by omega)), rl_K_fr h3 q15 (hg _ (by omega) (by omega) (by omega)) (hg _ (by omega) (by omega) (by omega)), rl_D_fr h4 q12 q15 (qt _ (by omega) (by omega)) (hg _ (by omega) (by omega) (by omega)) (hg _ (by omega) (by omega) (by omega)), rl_X_ag h5 q15 (fun j j1 j2 => qt j (by omega) (by omega)) (fun j j1 j2 j3 => hg j (by omega) (by omega) (by omega)), rl_W_fr h6 (fun j j1 j2 => qt j (by omega) (by omega)) (fun j j1 j2 => hg j (by omega) (by omega) (by omega)), rl_S_fr h7 q15 qs (fun j j1 j2 => hg j (by omega) (by omega) (by omega)), rl_P_fr h8 q6 q15 (qt _ (by omega) (by omega)) q561, rl_C_fr h9 q15 (fun j j1 j2 => qt j (by omega) (by omega)), rl_N_fr h10 q3 q6 q9 q12 q15 (fun r hr => qr _ (by omega) (by omega)), rl_T_fr h11 q15 (qt _ (by omega) (by omega))⟩
/-- all but ages is alike: the house of both, other ages -/
theorem rl_L_ag {b' b2' : Nat} (hL : rl_L f g h c b b2) (hf : ∀ j, j < 18 ∨ 21 ≤ j → f' j = f j) (hg : ∀ j, j ≠ 254 → j ≠ 408 → j ≠ 562 → g' j = g j) (e1 : h' 1 = h 1) (ha : rl_ag f' g' h' b' b2') : rl_L f' g' h' c b' b2' := by
  obtain ⟨h1, h2, h3, h4, h5, h6⟩ := hL
  refine ⟨rl_gl_fr h1 (hf _ (by omega)) (hf _ (by omega)) (hf _ (by omega)) (hf _ (by omega)) (fun j j1 j2 => hg j (by omega) (by omega) (by omega)) e1, fun u hu => ?_, fun x hx => rl_cl_fr hx (h3 x hx) (fun j j1 j2 => hf j (by omega)) (fun j j1 j2 => hg j (by omega) (by omega) (by omega)), rl_ow_fr h4 (fun j j1 j2 => hf j (by omega)) (fun u hu => hf _ (by omega)), rl_co_fr h5 (hf _ (by omega)) (hf _ (by omega)) (fun u hu => hf _ (by omega)) (fun u hu => hf _ (by omega)) (fun u x hu hx => hf _ (by omega)) (fun x hx => hf _ (by omega)), ha⟩
  obtain ⟨d, o, ht⟩ := h2 u hu
  exact ⟨d, o, rl_tb_ag ht (fun j hj => hf j (by unfold rl_ci at hj; omega)) (fun j j1 j2 j3 => hg j (by omega) (by omega) (by omega))⟩
theorem rl_ags (hL : rl_L f g h c b b2) (hb : b < 2147483648) (hb2 : b2 < 2147483648) (hb3 : 3 ≤ b2) : rl_L (z_ags f) (d_ags g) h c b b2 := by
  have hd := rl_dist hL
  have A := hL.2.2.2.2.2
  refine rl_L_ag hL (fun j hj => z_ags_o hj) (fun j j1 j2 j3 => d_ags_o ⟨j1, j2, j3⟩) rfl ⟨(z_ags_o (by omega)).trans A.1, A.2.1, fun u hu iu => ?_⟩
  rw [z_ags_o (by omega)] at iu
  have r1 := z_rk_3 (f := f) hu
  have hle := z_le hu iu (fun v hv iv => (A.2.2 v hv iv).1.1) hd
  have hlt := (A.2.2 u hu iu).1.2
  rw [Int32.lt_iff_toInt_lt, nI_toInt hb] at hlt
  rw [z_ags_i hu, d_ags_i hu, z_d_rk hL hu]
  refine ⟨⟨by rw [n_le (by omega) (by omega)]; omega, by rw [n_lt (by omega) hb]; omega⟩, by rw [n_lt (by omega) hb2]; omega, fun v hv iv => ?_⟩
  rw [z_ags_o (by omega)] at iv
  rw [z_ags_i hv, d_ags_i hv, z_d_rk hL hv]
  refine ⟨Iff.rfl, fun huv q => ?_⟩
  by_cases e2 : f (18 + u) < f (18 + v)
  · have := (z_ord hd hu hv iu iv).mpr e2
    rw [q] at this
    exact (Int32.lt_irrefl this).elim
  · have := (z_ord hd hv hu iv iu).mpr (n_tri (hd u v hu hv iu iv huv) e2)
    rw [q] at this
    exact (Int32.lt_irrefl this).elim
end RBA
