/-! what stands where, behind the steps' changes -/
theorem s_at {f : Nat → (Nat → Int32) → Nat → Int32} {j y : Nat} {F : (Nat → Int32) → Int32} : ∀ (c x : Nat) (g : Nat → Int32), x ≤ y → y < x + c → (∀ g, f y g j = F g) → (∀ z, x ≤ z → z < y → ∀ g, F (f z g) = F g) → (∀ z, y < z → z < x + c → ∀ g, f z g j = g j) → s_loop f x c g j = F g := by
  intro c
  induction c with
  | zero => intro x g h1 h2; omega
  | succ c ih =>
    intro x g h1 h2 h3 h4 h5
    rw [s_loop]
    by_cases hx : x = y
    · subst hx
      rw [s_lo c (x + 1) _ (fun z z1 z2 g => h5 z (by omega) (by omega) g), h3]
    · rw [ih (x + 1) (f x g) (by omega) (by omega) h3 (fun z z1 z2 g => h4 z (by omega) z2 g) (fun z z1 z2 g => h5 z z1 (by omega) g)]
      exact h4 x (Nat.le_refl _) (by omega) g
section LK
variable {f g : Nat → Int32} {u x r k d j : Nat}
theorem d_er_1 (hx : x < 8) : d_er g u (150 + 154 * u + 111 + x) = -1 :=
  s_at (F := fun _ => -1) (y := x) 8 0 g (by omega) (by omega) (fun g => by unfold d_er1; rw [m_sc_ne (by omega), m_sc_ne (by omega), m_sc_self]) (fun _ _ _ _ => rfl) (fun z z1 z2 g => by unfold d_er1; rw [m_sc_ne (by omega), m_sc_ne (by omega), m_sc_ne (by omega)])
theorem d_er_2 (hx : x < 8) : d_er g u (150 + 154 * u + 119 + 2 * x) = -1 :=
  s_at (F := fun _ => -1) (y := x) 8 0 g (by omega) (by omega) (fun g => by unfold d_er1; rw [m_sc_ne (by omega), m_sc_self]) (fun _ _ _ _ => rfl) (fun z z1 z2 g => by unfold d_er1; rw [m_sc_ne (by omega), m_sc_ne (by omega), m_sc_ne (by omega)])
theorem d_er_3 (hx : x < 8) : d_er g u (150 + 154 * u + 120 + 2 * x) = nI 0 :=
  s_at (F := fun _ => nI 0) (y := x) 8 0 g (by omega) (by omega) (fun g => by unfold d_er1; exact scE (by omega)) (fun _ _ _ _ => rfl) (fun z z1 z2 g => by unfold d_er1; rw [m_sc_ne (by omega), m_sc_ne (by omega), m_sc_ne (by omega)])
theorem d_el_1 (hx : x < 8) : d_el g u (150 + 154 * u + 135 + 2 * x) = -1 :=
  s_at (F := fun _ => -1) (y := x) 8 0 g (by omega) (by omega) (fun g => by unfold d_el1; rw [m_sc_ne (by omega), m_sc_self]) (fun _ _ _ _ => rfl) (fun z z1 z2 g => by unfold d_el1; rw [m_sc_ne (by omega), m_sc_ne (by omega)])
theorem d_el_2 (hx : x < 8) : d_el g u (150 + 154 * u + 136 + 2 * x) = nI 0 :=
  s_at (F := fun _ => nI 0) (y := x) 8 0 g (by omega) (by omega) (fun g => by unfold d_el1; exact scE (by omega)) (fun _ _ _ _ => rfl) (fun z z1 z2 g => by unfold d_el1; rw [m_sc_ne (by omega), m_sc_ne (by omega)])
theorem d_dis_x (hx : x < 8) : d_dis g u (18 * x + 16) = if g (18 * x + 16) = nI u then -1 else g (18 * x + 16) :=
  s_at (F := fun g => if g (18 * x + 16) = nI u then -1 else g (18 * x + 16)) (y := x) 8 0 g (by omega) (by omega) (fun g => by unfold d_dis1; rw [m_sc_self]) (fun z z1 z2 g => by unfold d_dis1; rw [m_sc_ne (by omega)]) (fun z z1 z2 g => by unfold d_dis1; rw [m_sc_ne (by omega)])
theorem d_endx_x (hx : x < 8) : s_loop (d_endx u) 0 8 g (18 * x + 17) = if g (18 * x + 17) = nI u then -1 else g (18 * x + 17) :=
  s_at (F := fun g => if g (18 * x + 17) = nI u then -1 else g (18 * x + 17)) (y := x) 8 0 g (by omega) (by omega) (fun g => by unfold d_endx; rw [m_sc_self]) (fun z z1 z2 g => by unfold d_endx; rw [m_sc_ne (by omega)]) (fun z z1 z2 g => by unfold d_endx; rw [m_sc_ne (by omega)])
theorem d_endx_o (h : ∀ x, x < 8 → j ≠ 18 * x + 17) : s_loop (d_endx u) 0 8 g j = g j := s_lo 8 0 g (fun y h1 h2 g => by unfold d_endx; rw [m_sc_ne (h y (by omega))])
theorem d_cp_x {lo hi n : Nat} (hr : r < n) (h : lo + n ≤ hi ∨ hi + n ≤ lo) : d_cp g lo hi n (hi + r) = g (lo + r) :=
  s_at (F := fun g => g (lo + r)) (y := r) n 0 g (by omega) (by omega) (fun g => by unfold d_cp1; rw [m_sc_self]) (fun z z1 z2 g => by unfold d_cp1; rw [m_sc_ne (by omega)]) (fun z z1 z2 g => by unfold d_cp1; rw [m_sc_ne (by omega)])
theorem d_z_i {lo n : Nat} (h : lo ≤ j ∧ j < lo + n) : d_z lo n g j = nI 0 := if_pos h
theorem c_rel_x {lo : Nat} (hx : x < 8) : c_rel f lo u (lo + x) = if f (lo + x) = nI u then -1 else f (lo + x) := by
  unfold c_rel c_relx
  by_cases h : f (lo + x) = nI u
  · rw [if_pos h, if_pos ⟨by omega, by omega, h⟩]
  · rw [if_neg h, if_neg (fun z => h z.2.2)]
theorem c_rel_o {lo : Nat} (h : j < lo ∨ lo + 8 ≤ j) : c_rel f lo u j = f j := c_relx_12 h
theorem va_x {α : Type} {f g : Nat → α} {sp dp n : Nat} (hr : r < n) : va_cpy f g sp dp n (dp + r) = f (sp + r) := by
  rw [pk_cpy_in (by omega) (by omega)]
  congr 1; omega
/-! the class -/
theorem c_clear_1 (hx : x < 8) : c_clear f u (152 + 47 * u + x) = -1 := by
  unfold c_clear
  rw [c_fill_o (by omega), c_fill_o (by omega), c_fill_o (by omega), c_fill_o (by omega), c_fill_in (by omega)]
theorem c_clear_2 (hx : x < 8) : c_clear f u (160 + 47 * u + x) = -1 := by
  unfold c_clear
  rw [c_fill_o (by omega), c_fill_o (by omega), c_fill_o (by omega), c_fill_in (by omega)]
theorem c_clear_3 (hx : x < 8) : c_clear f u (168 + 47 * u + x) = nI 0 := by
  unfold c_clear
  rw [c_fill_o (by omega), c_fill_o (by omega), c_fill_in (by omega)]
theorem c_clear_4 (hx : x < 8) : c_clear f u (176 + 47 * u + x) = -1 := by
  unfold c_clear
  rw [c_fill_o (by omega), c_fill_in (by omega)]
theorem c_clear_5 (hx : x < 8) : c_clear f u (184 + 47 * u + x) = nI 0 := by
  unfold c_clear
  rw [c_fill_in (by omega)]
theorem c_unlock_1 : c_unlock f u 1 = if f 1 = nI u then -1 else f 1 := by
  unfold c_unlock
  split
  · rw [m_sc_self]
  · rfl
theorem c_leave1_o (h0 : j ≠ 1) (h1 : j < 33 ∨ 49 ≤ j) : c_leave1 f u j = f j := by
  unfold c_leave1
  rw [c_unlock_o h0, c_rel_o (by omega), c_rel_o (by omega)]
theorem c_leave2_o (h : j ≠ 2) : c_leave2 f u j = f j := by
  unfold c_leave2
  split
  · rw [m_sc_ne h]
  · rfl
theorem c_leave_t (hu : u < 3) (h2 : j ≠ 15 + u) (h3 : j ≠ 18 + u) (h4 : j < 152 + 47 * u) (h5 : j ≠ 2) : c_leave f u j = c_leave1 f u j := by
  unfold c_leave
  rw [c_clear_o (by omega), m_sc_ne h3, m_sc_ne h2, c_leave2_o h5]
theorem c_leave_1 (hu : u < 3) : c_leave f u 1 = if f 1 = nI u then -1 else f 1 := by
  rw [c_leave_t hu (by omega) (by omega) (by omega) (by omega)]
  unfold c_leave1
  rw [c_unlock_1, c_rel_o (by omega), c_rel_o (by omega)]
theorem c_leave_2 (hu : u < 3) : c_leave f u 2 = if f 2 = nI u then -1 else f 2 := by
  unfold c_leave
  rw [c_clear_o (by omega), m_sc_ne (by omega), m_sc_ne (by omega)]
  unfold c_leave2
  rw [c_leave1_o (by omega) (by omega)]
  split
  · rw [m_sc_self]
  · rw [c_leave1_o (by omega) (by omega)]
theorem c_leave_w (hu : u < 3) (hx : x < 8) : c_leave f u (33 + x) = if f (33 + x) = nI u then -1 else f (33 + x) := by
  rw [c_leave_t hu (by omega) (by omega) (by omega) (by omega)]
  unfold c_leave1
  rw [c_unlock_o (by omega), c_rel_o (by omega), c_rel_x hx]
theorem c_leave_h (hu : u < 3) (hx : x < 8) : c_leave f u (41 + x) = if f (41 + x) = nI u then -1 else f (41 + x) := by
  rw [c_leave_t hu (by omega) (by omega) (by omega) (by omega)]
  unfold c_leave1
  rw [c_unlock_o (by omega), c_rel_x hx, c_rel_o (by omega)]
theorem c_leave_k (hu : u < 3) : c_leave f u (15 + u) = -1 := by
  unfold c_leave
  rw [c_clear_o (by omega), m_sc_ne (by omega), m_sc_self]
theorem c_leave_e (hu : u < 3) {x : Nat} {v : Int32} (h : ∀ f : Nat → Int32, c_clear f u j = v) : c_leave f u j = v := h _
theorem c_anew_o (h : j < 33 ∨ 41 ≤ j) (h1 : j < 152 + 47 * u ∨ 192 + 47 * u ≤ j) (h2 : j < 21 + 4 * u ∨ 25 + 4 * u ≤ j) (h3 : j ≠ 145 + 47 * u ∧ j ≠ 12 + u ∧ j ≠ 6 + u ∧ j ≠ 560 ∧ j ≠ 550 + u) : c_anew f u j = f j := by
  unfold c_anew c_anew2
  rw [m_sc_ne h3.2.2.2.2, m_sc_ne h3.2.2.2.1, m_sc_ne h3.2.2.1, m_sc_ne h3.2.1, m_sc_ne h3.1]
  unfold c_anew1
  rw [pk_cpy_out (by omega), c_rel_o (by omega), c_clear_o h1]
theorem c_anew1_o (h : j < 33 ∨ 41 ≤ j) (h1 : j < 152 + 47 * u ∨ 192 + 47 * u ≤ j) (h2 : j < 21 + 4 * u ∨ 25 + 4 * u ≤ j) : c_anew1 f u j = f j := by
  unfold c_anew1
  rw [pk_cpy_out (by omega), c_rel_o (by omega), c_clear_o h1]
theorem c_anew_t (hu : u < 3) (h1 : 18 ≤ j) (h2 : j ≠ 145 + 47 * u) (h3 : j < 192 + 47 * u) : c_anew f u j = c_anew1 f u j := by
  unfold c_anew c_anew2
  rw [m_sc_ne (by omega), m_sc_ne (by omega), m_sc_ne (by omega), m_sc_ne (by omega), m_sc_ne (by omega)]
theorem c_anew_r (hu : u < 3) (hr : r < 4) : c_anew f u (21 + 4 * u + r) = f (148 + 47 * u + r) := by
  rw [c_anew_t hu (by omega) (by omega) (by omega)]
  unfold c_anew1
  rw [va_x hr, c_rel_o (by omega), c_clear_o (by omega)]
theorem c_anew_w (hu : u < 3) (hx : x < 8) : c_anew f u (33 + x) = if f (33 + x) = nI u then -1 else f (33 + x) := by
  rw [c_anew_t hu (by omega) (by omega) (by omega)]
  unfold c_anew1
  rw [pk_cpy_out (by omega), c_rel_x hx, c_clear_o (by omega)]
theorem c_anew_e (hu : u < 3) {v : Int32} (h1 : 152 + 47 * u ≤ j) (h2 : j < 192 + 47 * u) (h : c_clear f u j = v) : c_anew f u j = v := by
  rw [c_anew_t hu (by omega) (by omega) (by omega)]
  unfold c_anew1
  rw [pk_cpy_out (by omega), c_rel_o (by omega), h]
theorem c_anew_s (hu : u < 3) : c_anew f u (145 + 47 * u) = f 0 := by
  unfold c_anew c_anew2
  rw [m_sc_ne (by omega), m_sc_ne (by omega), m_sc_ne (by omega), m_sc_ne (by omega), m_sc_self, c_anew1_o (by omega) (by omega) (by omega)]
theorem c_anew_d (hu : u < 3) : c_anew f u (12 + u) = f (147 + 47 * u) := by
  unfold c_anew c_anew2
  rw [m_sc_ne (by omega), m_sc_ne (by omega), m_sc_ne (by omega), m_sc_self, c_anew1_o (by omega) (by omega) (by omega)]
theorem c_anew_p (hu : u < 3) : c_anew f u (6 + u) = f (146 + 47 * u) := by
  unfold c_anew c_anew2
  rw [m_sc_ne (by omega), m_sc_ne (by omega), m_sc_self, c_anew1_o (by omega) (by omega) (by omega)]
theorem c_anew_n (hu : u < 3) : c_anew f u 560 = f 560 + nI 1 := by
  unfold c_anew c_anew2
  rw [m_sc_ne (by omega), m_sc_self, c_anew1_o (by omega) (by omega) (by omega)]
theorem c_anew_c (hu : u < 3) : c_anew f u (550 + u) = f (550 + u) + nI 1 := by
  unfold c_anew c_anew2
  rw [m_sc_self, c_anew1_o (by omega) (by omega) (by omega)]
theorem c_bring_o {s : Nat} (h2 : j < 21 + 4 * u ∨ 25 + 4 * u ≤ j) (h : j < 176 + 47 * u ∨ 192 + 47 * u ≤ j) : c_bring f u s j = f j := by
  unfold c_bring
  rw [pk_cpy_out (by omega), pk_cpy_out (by omega)]
theorem c_bring_r {s : Nat} (hu : u < 3) (hr : r < 4) : c_bring f u s (21 + 4 * u + r) = f (288 + s + r) := by
  unfold c_bring
  rw [pk_cpy_out (by omega), va_x hr]
theorem c_bring_l {s : Nat} (hu : u < 3) (hx : x < 8) : c_bring f u s (176 + 47 * u + x) = f (292 + s + x) := by
  unfold c_bring
  rw [va_x (by omega), pk_cpy_out (by omega)]
theorem c_bring_m {s : Nat} (hu : u < 3) (hx : x < 8) : c_bring f u s (184 + 47 * u + x) = f (300 + s + x) := by
  unfold c_bring
  rw [pk_cpy_in (by omega) (by omega), pk_cpy_out (by omega)]
  congr 1; omega
/-! the model -/
theorem d_clear_t (h : j < 150 + 154 * u + 111 ∨ 150 + 154 * u + 151 ≤ j) : d_clear g u j = d_z (150 + 154 * u + 101) 50 g j := by
  unfold d_clear
  rw [d_el_o (by omega), d_er_o (by omega)]
theorem d_clear_0 (h : 150 + 154 * u + 101 ≤ j ∧ j < 150 + 154 * u + 111) : d_clear g u j = nI 0 := by
  rw [d_clear_t (by omega)]
  exact d_z_i (by omega)
theorem d_clear_1 (hx : x < 8) : d_clear g u (150 + 154 * u + 111 + x) = -1 := by
  unfold d_clear
  rw [d_el_o (by omega), d_er_1 hx]
theorem d_clear_2 (hx : x < 8) : d_clear g u (150 + 154 * u + 119 + 2 * x) = -1 := by
  unfold d_clear
  rw [d_el_o (by omega), d_er_2 hx]
theorem d_clear_3 (hx : x < 8) : d_clear g u (150 + 154 * u + 120 + 2 * x) = nI 0 := by
  unfold d_clear
  rw [d_el_o (by omega), d_er_3 hx]
theorem d_clear_4 (hx : x < 8) : d_clear g u (150 + 154 * u + 135 + 2 * x) = -1 := d_el_1 hx
theorem d_clear_5 (hx : x < 8) : d_clear g u (150 + 154 * u + 136 + 2 * x) = nI 0 := d_el_2 hx
theorem d_end1_t (h : j ≠ 145) : d_end1 g u j = s_loop (d_endx u) 0 8 (d_dis g u) j := by
  unfold d_end1
  rw [d_unlock_o h]
theorem d_end1_o (h : j ≠ 145) (h1 : ∀ x, x < 8 → j ≠ 18 * x + 16) (h2 : ∀ x, x < 8 → j ≠ 18 * x + 17) : d_end1 g u j = g j := by
  rw [d_end1_t h, d_endx_o h2, d_dis_o h1]
theorem d_end_t (h : j ≠ 146) (h2 : j < 150 + 154 * u + 101 ∨ 150 + 154 * u + 151 ≤ j) : d_end g u j = d_end1 g u j := by
  unfold d_end
  rw [d_clear_o h2, m_sc_ne h]
theorem d_end_f (h : j < 150 + 154 * u + 101 ∨ 150 + 154 * u + 151 ≤ j) (h0 : j ≠ 145 ∧ j ≠ 146) (h1 : ∀ x, x < 8 → j ≠ 18 * x + 16) (h2 : ∀ x, x < 8 → j ≠ 18 * x + 17) : d_end g u j = g j := by
  rw [d_end_t h0.2 h, d_end1_o h0.1 h1 h2]
theorem d_end_1 : d_end g u 145 = if g 145 = nI u then -1 else g 145 := by
  rw [d_end_t (by omega) (by omega)]
  unfold d_end1 d_unlock
  rw [m_sc_self, d_endx_o (by omega), d_dis_o (by omega)]
theorem d_end_2 : d_end g u 146 = if g 146 = nI u then -1 else g 146 := by
  unfold d_end
  rw [d_clear_o (by omega), m_sc_self, d_end1_o (by omega) (by omega) (by omega)]
theorem d_end_w (hx : x < 8) : d_end g u (18 * x + 16) = if g (18 * x + 16) = nI u then -1 else g (18 * x + 16) := by
  rw [d_end_t (by omega) (by omega), d_end1_t (by omega), d_endx_o (by omega), d_dis_x hx]
theorem d_end_h (hx : x < 8) : d_end g u (18 * x + 17) = if g (18 * x + 17) = nI u then -1 else g (18 * x + 17) := by
  rw [d_end_t (by omega) (by omega), d_end1_t (by omega), d_endx_x hx, d_dis_o (by omega)]
theorem d_end_e {v : Int32} (h : ∀ g : Nat → Int32, d_clear g u j = v) : d_end g u j = v := h _
theorem d_beg1_o (h1 : j < 150 + 154 * u + 111 ∨ 150 + 154 * u + 151 ≤ j) (h2 : j ≠ 150 + 154 * u + 103) (h3 : ∀ x, x < 8 → j ≠ 18 * x + 16) : d_beg1 g u j = g j := by
  unfold d_beg1
  rw [m_sc_ne h2, d_dis_o h3, d_el_o (by omega), d_er_o (by omega)]
theorem d_beg1_e {v : Int32} (h : 150 + 154 * u + 111 ≤ j) (hv : d_el (d_er g u) u j = v) : d_beg1 g u j = v := by
  unfold d_beg1
  rw [m_sc_ne (by omega), d_dis_o (by omega), hv]
theorem d_beg1_w (hx : x < 8) : d_beg1 g u (18 * x + 16) = if g (18 * x + 16) = nI u then -1 else g (18 * x + 16) := by
  unfold d_beg1
  rw [m_sc_ne (by omega), d_dis_x hx, d_el_o (by omega), d_er_o (by omega)]
theorem d_beg1_s : d_beg1 g u (150 + 154 * u + 103) = g 144 := by
  unfold d_beg1
  rw [m_sc_self, d_dis_o (by omega), d_el_o (by omega), d_er_o (by omega)]
theorem d_drop_8 : d_drop g u d k (150 + 154 * u + 8) = nI k := m_sc_self
theorem d_drop_z {i : Nat} (h1 : k ≤ j) (h2 : j < d) (hi : i < 23) : d_drop g u d k (150 + 154 * u + 9 + 23 * j + i) = nI 0 := by
  unfold d_drop
  rw [m_sc_ne (by omega)]
  exact d_z_i (by omega)
theorem d_drop_k (h : j < 150 + 154 * u + 8 ∨ 150 + 154 * u + 9 + 23 * d ≤ j ∨ (150 + 154 * u + 9 ≤ j ∧ j < 150 + 154 * u + 9 + 23 * k)) (hk : k ≤ d) : d_drop g u d k j = g j := by
  unfold d_drop
  rw [m_sc_ne (by omega), d_z_o (by omega)]
theorem d_anew_t (h1 : j ≠ 150 + 154 * u + 1) (h2 : j ≠ 150 + 154 * u + 151) : d_anew g u d k j = d_beg2 g u d k j := by
  unfold d_anew
  rw [m_sc_ne h2, m_sc_ne h1]
theorem d_anew_f (hk : k ≤ d) (h1 : j ≠ 150 + 154 * u + 1 ∧ j ≠ 150 + 154 * u + 151 ∧ j ≠ 150 + 154 * u + 103) (h2 : j < 150 + 154 * u + 3 ∨ 150 + 154 * u + 7 ≤ j) (h3 : j < 150 + 154 * u + 8 ∨ 150 + 154 * u + 9 + 23 * d ≤ j ∨ (150 + 154 * u + 9 ≤ j ∧ j < 150 + 154 * u + 9 + 23 * k)) (h4 : j < 150 + 154 * u + 111 ∨ 150 + 154 * u + 151 ≤ j) (h5 : ∀ x, x < 8 → j ≠ 18 * x + 16) : d_anew g u d k j = g j := by
  rw [d_anew_t h1.1 h1.2.1]
  unfold d_beg2
  rw [d_drop_k h3 hk, d_cp_o h2, d_beg1_o h4 h1.2.2 h5]
theorem d_anew_r (hk : k ≤ d) (hr : r < 4) : d_anew g u d k (150 + 154 * u + 3 + r) = g (150 + 154 * u + 106 + r) := by
  rw [d_anew_t (by omega) (by omega)]
  unfold d_beg2
  rw [d_drop_k (by omega) hk, d_cp_x hr (by omega), d_beg1_o (by omega) (by omega) (by omega)]
theorem d_anew_8 : d_anew g u d k (150 + 154 * u + 8) = nI k := by
  rw [d_anew_t (by omega) (by omega)]
  exact d_drop_8
theorem d_anew_z {i : Nat} (h1 : k ≤ j) (h2 : j < d) (hd : d ≤ 4) (hi : i < 23) : d_anew g u d k (150 + 154 * u + 9 + 23 * j + i) = nI 0 := by
  rw [d_anew_t (by omega) (by omega)]
  exact d_drop_z h1 h2 hi
theorem d_anew_s (hk : k ≤ d) (hd : d ≤ 4) : d_anew g u d k (150 + 154 * u + 103) = g 144 := by
  rw [d_anew_t (by omega) (by omega)]
  unfold d_beg2
  rw [d_drop_k (by omega) hk, d_cp_o (by omega), d_beg1_s]
theorem d_anew_w (hk : k ≤ d) (hx : x < 8) : d_anew g u d k (18 * x + 16) = if g (18 * x + 16) = nI u then -1 else g (18 * x + 16) := by
  rw [d_anew_t (by omega) (by omega)]
  unfold d_beg2
  rw [d_drop_k (by omega) hk, d_cp_o (by omega), d_beg1_w hx]
theorem d_anew_e (hk : k ≤ d) (hd : d ≤ 4) {v : Int32} (h1 : 150 + 154 * u + 111 ≤ j) (h2 : j < 150 + 154 * u + 151) (hv : d_el (d_er g u) u j = v) : d_anew g u d k j = v := by
  rw [d_anew_t (by omega) (by omega)]
  unfold d_beg2
  rw [d_drop_k (by omega) hk, d_cp_o (by omega), d_beg1_e h1 hv]
theorem d_anew_p (hk : k ≤ d) (hd : d ≤ 4) : d_anew g u d k (150 + 154 * u + 1) = g (150 + 154 * u + 105) := by
  unfold d_anew
  rw [m_sc_ne (by omega), m_sc_self]
  unfold d_beg2
  rw [d_drop_k (by omega) hk, d_cp_o (by omega), d_beg1_o (by omega) (by omega) (by omega)]
theorem d_anew_c (hk : k ≤ d) (hd : d ≤ 4) : d_anew g u d k (150 + 154 * u + 151) = g (150 + 154 * u + 151) + nI 1 := by
  unfold d_anew
  rw [m_sc_self, m_sc_ne (by omega)]
  unfold d_beg2
  rw [d_drop_k (by omega) hk, d_cp_o (by omega), d_beg1_o (by omega) (by omega) (by omega)]
theorem d_load_r (hd : d < 4) (hr : r < 4) : d_load g u d (150 + 154 * u + 3 + r) = g (150 + 154 * u + 9 + 23 * d + 3 + r) := by
  unfold d_load
  rw [d_cp_o (by omega), d_cp_x hr (by omega)]
theorem d_load_l (hd : d < 4) (hr : r < 16) : d_load g u d (150 + 154 * u + 135 + r) = g (150 + 154 * u + 9 + 23 * d + 7 + r) := by
  unfold d_load
  rw [d_cp_x hr (by omega), d_cp_o (by omega)]
end LK
