/-! explore: where it begins, where it ends -/
section RBO
variable {V : m_V} {t m n : Nat} {ls st : List Value} {IB IC I J Ib : m_I} {L Lb : m_L} {R : m_R} {e : Option Nat} {a b : Nat} {Q : Option Value → Nat → m_I → m_L → m_R → Prop} {f g h h' hB hu fe ag FE0 : Nat → Int32} {u k c i y N NN own s mm q b2 : Nat} {v hv : Int32}
theorem rl_ags1 {b3 : Nat} (hL : rl_L f g h c b b2) (hb : b < 2147483648) (h23 : b2 ≤ b3) (hb2 : b3 < 2147483648) (g1 : h' 1 = h 1) (g2 : h' 2 = nI b3) : rl_L (z_ags f) g h' c b b3 := by
  have hd := rl_dist hL
  have A := hL.2.2.2.2.2
  refine rl_L_ag hL (fun j hj => z_ags_o hj) (fun _ _ _ _ => rfl) g1 ⟨(z_ags_o (by omega)).trans A.1, g2, fun u hu iu => ?_⟩
  rw [z_ags_o (by omega)] at iu
  have r1 := z_rk_3 (f := f) hu
  have hle := z_le hu iu (fun v hv iv => (A.2.2 v hv iv).1.1) hd
  have hlt := (A.2.2 u hu iu).1.2
  rw [Int32.lt_iff_toInt_lt, nI_toInt hb] at hlt
  rw [z_ags_i hu]
  refine ⟨⟨by rw [n_le (by omega) (by omega)]; omega, by rw [n_lt (by omega) hb]; omega⟩, n_lts (A.2.2 u hu iu).2.1 h23 hb2, fun v hv iv => ?_⟩
  rw [z_ags_o (by omega)] at iv
  rw [z_ags_i hv]
  refine ⟨?_, fun huv q => ?_⟩
  · rw [z_ord hd hu hv iu iv]
    exact ((A.2.2 u hu iu).2.2 v hv iv).1
  · by_cases e2 : f (18 + u) < f (18 + v)
    · have := (z_ord hd hu hv iu iv).mpr e2
      rw [q] at this
      exact (Int32.lt_irrefl this).elim
    · have := (z_ord hd hv hu iv iu).mpr (n_tri (hd u v hu hv iu iv huv) e2)
      rw [q] at this
      exact (Int32.lt_irrefl this).elim
theorem x_H0_o {x : Int32} (hk : k ≠ 25 ∧ k ≠ 5 ∧ k ≠ 27 ∧ k ≠ 32) : x_H0 h x k = h k := by
  unfold x_H0
  rw [m_sc_ne hk.2.2.2, m_sc_ne hk.2.2.1, m_sc_ne hk.2.1, m_sc_ne hk.1]
theorem x_H0_5 {x : Int32} : x_H0 h x 5 = nI 1 := by unfold x_H0; rw [m_sc_ne (by omega), m_sc_ne (by omega), m_sc_self]
theorem x_H0_25 {x : Int32} : x_H0 h x 25 = x := by unfold x_H0; rw [m_sc_ne (by omega), m_sc_ne (by omega), m_sc_ne (by omega), m_sc_self]
theorem x_H0_27 {x : Int32} : x_H0 h x 27 = nI 1 := by unfold x_H0; rw [m_sc_ne (by omega), m_sc_self]
theorem x_H0_32 {x : Int32} : x_H0 h x 32 = nI 0 := by unfold x_H0; rw [m_sc_self]
theorem x_start (hT : TH N I L) (hN : N < 800000) (hn : n ≤ 400) (hn1 : 1 ≤ n) {x : Int32} (hb : ∀ k, 0 < k → k < 55 → Ib k = I k) (hl : ∀ k, k < 55 → Lb k = L k) : ∃ own, I 27 2 = nI own ∧ own ≤ N ∧ z_D4 (Ib 2) ∧ x_B Lb (x_I0 Ib) (x_H0 (I 27) x) N own n ∧ ∀ s hv, z_HT (z_put (m_sc (x_I0 Ib) 2 (z_ags (Ib 2))) 0 s hv) 1 → x_I (x_I0 Ib) (x_H0 (I 27) x) (I 47) N own n (z_put (m_sc (x_I0 Ib) 2 (z_ags (Ib 2))) 0 s hv) (x_H0 (I 27) x) (va_cpy (x_g0 I) (I 45) 0 (612 * 0) 612) (I 47) 1 0 := by
  obtain ⟨⟨c, b, k, n0, c1, b1, k1, hL, hE⟩, hro, hcd, hfs⟩ := hT
  obtain ⟨y1, y2, y3, y4, y5, y6, y7⟩ := hE
  have e2 : Ib 2 = I 2 := hb 2 (by omega) (by omega)
  have o : ∀ k, k ≠ 10 → k ≠ 55 → k ≠ 56 → k ≠ 60 → x_I0 Ib k = Ib k := fun k q1 q2 q3 q4 => x_I0_o ⟨q1, q2, q3, q4⟩
  have o2 : ∀ k, 0 < k → k < 55 → k ≠ 10 → x_I0 Ib k = I k := fun k q0 q1 q2 => (o k q2 (by omega) (by omega) (by omega)).trans (hb k q0 q1)
  have n10 : ¬ nI 1 = nI 0 := by decide
  refine ⟨b, hL.2.2.2.2.2.2.1, b1, by rw [e2]; exact z_D4_of hL, ⟨?_, ?_, ⟨k, by omega, ?_⟩, ?_, ⟨n0, y4.2.2, ?_⟩, by rw [x_H0_5]; exact n10, by omega, b1, hn⟩, fun s hv hT1 => ?_⟩
  · intro y hy
    have := hro y hy
    rw [o2 7 (by omega) (by omega) (by omega), o2 8 (by omega) (by omega) (by omega), o2 34 (by omega) (by omega) (by omega), o2 35 (by omega) (by omega) (by omega), o2 36 (by omega) (by omega) (by omega), hl 9 (by omega), hl 37 (by omega)]
    exact this
  · unfold rl_cd
    rw [o2 4 (by omega) (by omega) (by omega), o2 5 (by omega) (by omega) (by omega), o2 29 (by omega) (by omega) (by omega), o2 30 (by omega) (by omega) (by omega), o2 31 (by omega) (by omega) (by omega), o2 32 (by omega) (by omega) (by omega), o2 33 (by omega) (by omega) (by omega)]
    exact hcd
  · rw [x_I0_10, m_sc_ne (by omega), hb 10 (by omega) (by omega)]
    exact y4.1
  · rw [x_I0_10, m_sc_self]
    exact n10
  · rw [x_H0_o (by omega)]
    exact y4.2.1
  · have i2 : x_I0 Ib 2 = I 2 := o2 2 (by omega) (by omega) (by omega)
    refine ⟨fun k q1 q2 q3 q4 q5 q6 q7 => ?_, fun j hj => ?_, hT1, hn1, fun i' hi' => ?_, fun _ _ _ _ _ _ => rfl, x_H0_27, x_H0_32, rfl⟩
    · rw [z_put_o ⟨q3, q4, q5, q7⟩, m_sc_ne q1]
    · rw [z_put_55, m_sc_ne hj, m_sc_ne (by omega)]
    · obtain rfl : i' = 0 := by omega
      have base : x_HR (x_I0 Ib) (x_H0 (I 27) x) N b 0 (z_ags (Ib 2)) (I 28) := by
        rw [e2]
        refine ⟨⟨c, b, by omega, by omega, rl_ags1 hL (by omega) (by omega) (by omega) ?_ m_sc_self⟩, z_RK_ags (rl_dist hL), fun u hu => ?_⟩
        · rw [m_sc_ne (by omega), x_H0_o (by omega)]
        · rw [z_ags_o (by omega), i2]
      refine x_HR_cg base (fun j hj => ?_) (fun j hj => ?_)
      · rw [z_put_57, m_sc_self]
        exact z_row_y hj
      · rw [h_row_y hj]
        unfold x_g0 va_cpy
        rw [if_pos (by omega), Nat.sub_zero, Nat.zero_add]
theorem x_ends {y' : Nat} (hX : x_I IB hB FE0 NN own N IC h hu fe y' y') (F : Nat → Int32) : (e_f F (z_er (IC 57)) (z_S (IC 59)) y').1 = (e_f FE0 (d_erw hu) (z_S (IC 59)) y').1 ∧ ∀ k, k < 19 * (e_f FE0 (d_erw hu) (z_S (IC 59)) y').1 → (e_f F (z_er (IC 57)) (z_S (IC 59)) y').2 k = (e_f FE0 (d_erw hu) (z_S (IC 59)) y').2 k := by
  refine e_f_cg y' (fun i hi j hj => ?_) (fun _ _ => rfl)
  obtain ⟨⟨c, b, c1, b1, hL⟩, _, _⟩ := hX.2.2.2.2.1 i hi
  have cv : ∀ x, x < 8 → IC 57 (i * 581 + (49 + x)) = hu (612 * i + 18 * x) ∧ IC 57 (i * 581 + (57 + x)) = hu (612 * i + (18 * x + 1)) := fun x hx => by
    obtain ⟨n, a1, a2, a3, a4, a5, a6, a7, _⟩ := hL.2.2.1 x hx
    exact ⟨a6, a7⟩
  unfold z_er d_erw
  by_cases q1 : j < 8
  · rw [if_pos (by omega), if_pos q1, Nat.add_assoc]
    exact (cv j q1).1
  · by_cases q2 : j < 16
    · rw [if_pos q2, if_neg q1, if_pos q2, show i * 581 + 49 + j = i * 581 + (57 + (j - 8)) by omega, Nat.add_assoc (612 * i)]
      exact (cv (j - 8) (by omega)).2
    · rw [if_neg q2, if_neg q1, if_neg q2, show i * 581 + 3 + (j - 16) = i * 581 + (3 + (j - 16)) by omega]
      obtain ⟨d, o, ht⟩ := hL.2.1 (j - 16) (by omega)
      exact ht.1.1
end RBO
