/-! explore: both, one thread's step at a house that was met -/
section RBJ
variable {V : m_V} {t m n : Nat} {ls st : List Value} {IB IC IC' I : m_I} {L : m_L} {e : Option Nat} {Q : Option Value → Nat → m_I → m_L → m_R → Prop} {f g h f' g' h' hB hu hu' fe ag FE0 : Nat → Int32} {u k c b b2 i y N NN own s : Nat} {hv : Int32}
def h_row (hu : Nat → Int32) (i : Nat) : Nat → Int32 := fun j => hu (612 * i + j)
def x_HR (IB : m_I) (hB : Nat → Int32) (NN own i : Nat) (f g : Nat → Int32) : Prop := (∃ c b, c ≤ NN + i ∧ b ≤ NN + i ∧ rl_L f g (m_sc hB 2 (nI (own + 10))) c b (own + 10)) ∧ z_RK f ∧ ∀ u, u < 3 → f (561 + u) = IB 2 (561 + u)
def x_I (IB : m_I) (hB FE0 : Nat → Int32) (NN own N : Nat) (IC : m_I) (h hu fe : Nat → Int32) (y i : Nat) : Prop :=
  (∀ k, k ≠ 2 → k ≠ 26 → k ≠ 55 → k ≠ 57 → k ≠ 58 → k ≠ 59 → k ≠ 60 → IC k = IB k) ∧ (∀ j, j ≠ 8 → IC 55 j = IB 55 j) ∧ z_HT IC y ∧ y ≤ N ∧ (∀ i', i' < y → x_HR IB hB NN own i' (z_row (IC 57) i') (h_row hu i')) ∧ (∀ j, j ≠ 2 → j ≠ 22 → j ≠ 23 → j ≠ 27 → j ≠ 32 → h j = hB j) ∧ h 27 = nI y ∧ h 32 = nI (e_f FE0 (d_erw hu) (z_S (IC 59)) i).1 ∧ fe = (e_f FE0 (d_erw hu) (z_S (IC 59)) i).2
def st_eq2 (J1 IB : m_I) : Prop := st_eq J1 IB ∧ ∀ k, 40 ≤ k → k ≤ 44 → J1 k = IB k
/-- what holds of the house that is explored -/
def x_B (L : m_L) (IB : m_I) (hB : Nat → Int32) (NN own N : Nat) : Prop := rl_ro IB L ∧ rl_cd IB ∧ (∃ k, k < 1000000 ∧ IB 10 2 = nI k) ∧ ¬ IB 10 3 = nI 0 ∧ (∃ n, n ≤ 60 ∧ hB 17 = nI n) ∧ ¬ hB 5 = nI 0 ∧ NN < 900000 ∧ own ≤ NN ∧ N ≤ 400
theorem x_HR_cg (hH : x_HR IB hB NN own i f g) (hf : ∀ j, j < 581 → f' j = f j) (hg : ∀ j, j < 612 → g' j = g j) : x_HR IB hB NN own i f' g' := by
  obtain ⟨⟨c, b, c1, b1, hL⟩, r, q⟩ := hH
  refine ⟨⟨c, b, c1, b1, rl_L_cg hL hf hg rfl rfl⟩, fun u hu => ?_, fun u hu => (hf _ (by omega)).trans (q u hu)⟩
  have z : ∀ v, v < 3 → z_z f' v u = z_z f v u := fun v hv => by
    unfold z_z
    rw [hf (15 + v) (by omega), hf (18 + v) (by omega), hf (18 + u) (by omega)]
  rw [hf _ (by omega), r u hu]
  unfold z_rk
  rw [hf _ (by omega), z 0 (by omega), z 1 (by omega), z 2 (by omega)]
theorem z_HT_cg (hH : z_HT I y) (h55 : IC 55 8 = I 55 8) (h57 : IC 57 = I 57) (h58 : IC 58 = I 58) (h60 : IC 60 = I 60) : z_HT IC y := by
  unfold z_HT
  rw [h55, h57, h58, h60]
  exact hH
theorem x_I_k (hX : x_I IB hB FE0 NN own N IC h hu fe y i) (hI : ∀ k, k ≠ 2 → k ≠ 26 → IC' k = IC k) (hh : ∀ j, j ≠ 2 → j ≠ 22 → j ≠ 23 → h' j = h j) : x_I IB hB FE0 NN own N IC' h' hu fe y i := by
  obtain ⟨a1, a2, a3, a4, a5, a6, a7, a8, a9⟩ := hX
  unfold x_I
  rw [hI 55 (by omega) (by omega), hI 57 (by omega) (by omega), hI 59 (by omega) (by omega), hh 27 (by omega) (by omega) (by omega), hh 32 (by omega) (by omega) (by omega)]
  refine ⟨fun k k1 k2 k3 k4 k5 k6 k7 => (hI k k1 k2).trans (a1 k k1 k2 k3 k4 k5 k6 k7), a2, z_HT_cg a3 (by rw [hI 55 (by omega) (by omega)]) (hI 57 (by omega) (by omega)) (hI 58 (by omega) (by omega)) (hI 60 (by omega) (by omega)), a4, a5, fun j j1 j2 j3 j4 j5 => (hh j j1 j2 j3).trans (a6 j j1 j2 j3 j4 j5), a7, a8, a9⟩
theorem x_I_s (hX : x_I IB hB FE0 NN own N IC h hu fe y i) {X : Nat → Int32} (hs : ∀ j, j < i → X j = IC 59 j) : x_I IB hB FE0 NN own N (m_sc IC 59 X) h hu fe y i := by
  obtain ⟨a1, a2, a3, a4, a5, a6, a7, a8, a9⟩ := hX
  have o : ∀ k, k ≠ 59 → m_sc IC 59 X k = IC k := fun k hk => m_sc_ne hk
  have ee : e_f FE0 (d_erw hu) (z_S X) i = e_f FE0 (d_erw hu) (z_S (IC 59)) i := e_f_eq i (fun _ _ _ _ => rfl) (fun j hj => by unfold z_S; rw [hs j hj])
  unfold x_I
  rw [o 55 (by omega), o 57 (by omega), m_sc_self, ee]
  exact ⟨fun k k1 k2 k3 k4 k5 k6 k7 => (o k k6).trans (a1 k k1 k2 k3 k4 k5 k6 k7), a2, z_HT_cg a3 (by rw [o 55 (by omega)]) (o 57 (by omega)) (o 58 (by omega)) (o 60 (by omega)), a4, a5, a6, a7, a8, a9⟩
theorem h_row_i {j : Nat} (hj : j < 612) (hi : i < y) : h_row (va_cpy g hu 0 (612 * y) 612) i j = h_row hu i j := by
  unfold h_row va_cpy
  rw [if_neg (by omega)]
theorem h_row_y {j : Nat} (hj : j < 612) : h_row (va_cpy g hu 0 (612 * y) 612) y j = g j := by
  unfold h_row va_cpy
  rw [if_pos (by omega), Nat.add_sub_cancel_left, Nat.zero_add]
theorem x_I_p (hX : x_I IB hB FE0 NN own N IC h hu fe y i) (hyN : y < N) (hi : i < y) (hT : z_HT (z_put IC y s hv) (y + 1)) (hn : x_HR IB hB NN own y (IC 2) g) : x_I IB hB FE0 NN own N (z_put IC y s hv) (m_sc h 27 (nI (y + 1))) (va_cpy g hu 0 (612 * y) 612) fe (y + 1) i := by
  obtain ⟨a1, a2, a3, a4, a5, a6, a7, a8, a9⟩ := hX
  have ee : e_f FE0 (d_erw (va_cpy g hu 0 (612 * y) 612)) (z_S (IC 59)) i = e_f FE0 (d_erw hu) (z_S (IC 59)) i := e_f_eq i (fun i' hi' j hj => by
    unfold d_erw
    by_cases q1 : j < 8
    · rw [if_pos q1, if_pos q1]; exact h_row_i (by omega) (by omega)
    · rw [if_neg q1, if_neg q1]
      by_cases q2 : j < 16
      · rw [if_pos q2, if_pos q2]; exact h_row_i (j := 18 * (j - 8) + 1) (by omega) (by omega)
      · rw [if_neg q2, if_neg q2]; exact h_row_i (by omega) (by omega)) (fun _ _ => rfl)
  unfold x_I
  rw [z_put_57, z_put_o (k := 59) (by omega), ee, m_sc_self, m_sc_ne (j := 32) (by omega)]
  refine ⟨fun k k1 k2 k3 k4 k5 k6 k7 => (z_put_o ⟨k3, k4, k5, k7⟩).trans (a1 k k1 k2 k3 k4 k5 k6 k7), fun j hj => by rw [z_put_55, m_sc_ne hj]; exact a2 j hj, hT, by omega, fun i' hi' => ?_, fun j j1 j2 j3 j4 j5 => (m_sc_ne j4).trans (a6 j j1 j2 j3 j4 j5), rfl, a8, a9⟩
  by_cases q : i' = y
  · subst q
    exact x_HR_cg hn (fun j hj => z_row_y hj) (fun j hj => h_row_y hj)
  · exact x_HR_cg (a5 i' (by omega)) (fun j hj => z_row_i hj (by omega)) (fun j hj => h_row_i hj (by omega))
end RBJ
