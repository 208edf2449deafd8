/-! a new object of both: alike -/
section RCC
variable {I : m_I} {L : m_L}
def y_F : Nat → Int32 := va_cpy (c_rs3 y_z) (c_rs3 y_z) 49 565 16
theorem y_A : ∀ u, u < 3 → (y_F (3 + u) = nI 0 ∧ y_F (6 + u) = nI 0 ∧ y_F (9 + u) = nI 0 ∧ y_F (12 + u) = nI 0 ∧ y_F (15 + u) = -1 ∧ y_F (561 + u) = nI 0) ∧ y_G (150 + 154 * u) = nI 0 ∧ y_G (150 + 154 * u + 1) = nI 0 ∧ y_G (150 + 154 * u + 2) = nI 0 ∧ y_G (150 + 154 * u + 7) = nI 0 ∧ y_G (150 + 154 * u + 8) = nI 0 ∧ y_G (150 + 154 * u + 101) = nI 0 ∧ y_G (150 + 154 * u + 102) = nI 0 ∧ y_G (150 + 154 * u + 103) = nI 0 ∧ y_G (150 + 154 * u + 105) = nI 0 ∧ y_G (150 + 154 * u + 110) = nI 0 := by decide +kernel
theorem y_B : ∀ u, u < 3 → ∀ r, r < 4 → y_F (21 + 4 * u + r) = nI 0 ∧ y_G (150 + 154 * u + 3 + r) = nI 0 ∧ y_G (150 + 154 * u + 106 + r) = nI 0 := by decide +kernel
theorem y_W : ∀ u, u < 3 → ∀ x, x < 8 → (y_F (152 + 47 * u + x) = -1 ∧ y_F (160 + 47 * u + x) = -1 ∧ y_F (168 + 47 * u + x) = nI 0 ∧ y_F (176 + 47 * u + x) = -1 ∧ y_F (184 + 47 * u + x) = nI 0) ∧ y_G (150 + 154 * u + 111 + x) = -1 ∧ y_G (150 + 154 * u + 119 + 2 * x) = -1 ∧ y_G (150 + 154 * u + 120 + 2 * x) = nI 0 ∧ y_G (150 + 154 * u + 135 + 2 * x) = -1 ∧ y_G (150 + 154 * u + 136 + 2 * x) = nI 0 := by decide +kernel
theorem y_S : ∀ u, u < 3 → ∀ k, k < 4 → ∀ i, i < 23 → y_G (150 + 154 * u + 9 + 23 * k + i) = nI 0 := by decide +kernel
theorem y_C : ∀ x, x < 8 → (y_F (33 + x) = -1 ∧ y_F (41 + x) = -1 ∧ y_F (49 + x) = nI 0 ∧ y_F (57 + x) = nI 0 ∧ y_F (65 + x) = nI 0 ∧ y_F (565 + x) = nI 0 ∧ y_F (573 + x) = nI 0) ∧ y_G (18 * x) = nI 0 ∧ y_G (18 * x + 1) = nI 0 ∧ y_G (18 * x + 2) = nI 0 ∧ y_G (18 * x + 15) = nI 1 ∧ y_G (18 * x + 16) = -1 ∧ y_G (18 * x + 17) = -1 := by decide +kernel
theorem y_O : ∀ x, x < 8 → ∀ k, k < 4 → (1 ≤ k → y_F (49 + 24 * k + x) = -1 ∧ y_F (57 + 24 * k + x) = -1 ∧ y_F (65 + 24 * k + x) = -1) ∧ y_G (18 * x + 3 + 3 * k) = nI 0 ∧ y_G (18 * x + 3 + 3 * k + 1) = nI 0 ∧ y_G (18 * x + 3 + 3 * k + 2) = nI 0 := by decide +kernel
theorem y_g0 : (y_F 0 = nI 0 ∧ y_F 1 = -1 ∧ y_F 2 = -1 ∧ y_F 559 = nI 0 ∧ y_F 560 = nI 0 ∧ y_F 564 = nI 0) ∧ y_G 144 = nI 0 ∧ y_G 145 = -1 ∧ y_G 146 = -1 ∧ y_G 147 = nI 0 ∧ y_G 148 = nI 0 ∧ y_G 149 = nI 0 := by decide +kernel
theorem y_N : ∀ u, u < 3 → y_F (550 + u) = nI 0 ∧ y_F (553 + u) = nI 0 ∧ y_F (556 + u) = nI 0 ∧ y_G (150 + 154 * u + 151) = nI 0 ∧ y_G (150 + 154 * u + 152) = nI 0 ∧ y_G (150 + 154 * u + 153) = nI 0 := by decide +kernel
theorem y_tb {u : Nat} (hu : u < 3) : rl_tb y_F y_G u 0 0 0 := by
  obtain ⟨⟨a3, a6, a9, a12, a15, a561⟩, b0, b1, b2, b7, b8, b101, b102, b103, b105, b110⟩ := y_A u hu
  refine ⟨⟨a3.trans b0.symm, a6.trans b1.symm, a9.trans b2.symm, a561.trans b7.symm⟩, fun r hr => (y_B u hu r hr).1.trans (y_B u hu r hr).2.1.symm, Or.inl ⟨a15, b101, b102⟩, ⟨a12, b8, by omega, by omega, if_pos a15, b110⟩, ⟨fun _ => ⟨b103, b105, fun r hr => (y_B u hu r hr).2.2⟩, fun q => absurd a15 q⟩, fun x hx => ?_, fun k hk => ⟨fun q => absurd q (Nat.not_lt_zero k), fun _ i hi => y_S u hu k hk i hi⟩, ⟨⟨0, by omega, a6⟩, ⟨0, by omega, a561⟩, fun q => absurd a15 q⟩, fun _ x hx => (y_W u hu x hx).1, fun _ => ⟨a6, a9, a12, a15, fun r hr => (y_B u hu r hr).1⟩, fun q => absurd a15 q⟩
  obtain ⟨⟨c1, c2, c3, c4, c5⟩, d1, d2, d3, d4, d5⟩ := y_W u hu x hx
  exact ⟨c1.trans d1.symm, c2.trans d2.symm, c3.trans d3.symm, c4.trans d4.symm, c5.trans d5.symm, Or.inl c4⟩
theorem y_cb {x : Nat} (hx : x < 8) : rl_cb y_F y_G x 0 1 := by
  obtain ⟨⟨c33, c41, c49, c57, c65, _, _⟩, d0, d1, d2, d15, d16, d17⟩ := y_C x hx
  refine ⟨by omega, by omega, d15, c33.trans d16.symm, c41.trans d17.symm, c49.trans d0.symm, c57.trans d1.symm, c65.trans d2.symm, fun _ => rfl, fun k hk => ⟨fun q => ?_, fun q => ?_⟩⟩
  · obtain rfl : k = 0 := by omega
    obtain ⟨_, e1, e2, e3⟩ := y_O x hx 0 hk
    exact ⟨c49.trans e1.symm, c57.trans e2.symm, c65.trans e3.symm, ⟨0, by omega, c65⟩, Or.inl c49⟩
  · obtain ⟨e0, e1, e2, e3⟩ := y_O x hx k hk
    obtain ⟨f1, f2, f3⟩ := e0 q
    exact ⟨f1, f2, f3, e1, e2, e3⟩
theorem y_L {h : Nat → Int32} (h1 : h 1 = nI 0) (h2 : h 2 = nI 0) : rl_L y_F y_G h 0 0 0 := by
  obtain ⟨⟨a0, a1, a2, a559, a560, a564⟩, b144, b145, b146, b147, b148, b149⟩ := y_g0
  refine ⟨⟨a0, b144, a1.trans b145.symm, a2.trans b146.symm, a564.trans h1.symm, b147, b148, b149⟩, fun u hu => ⟨0, 0, y_tb hu⟩, fun x hx => ⟨1, y_cb hx⟩, fun x hx => Or.inl (y_C x hx).1.1, fun q => ?_, a559, h2, fun u hu q => absurd (y_A u hu).1.2.2.2.2.1 q⟩
  rw [a564] at q
  exact absurd q (by decide)
theorem y_TP (i0 : I 0 = m_sc (m_sc y_z 3 (nI 0)) 5 (nI 4000)) (i2 : I 2 = y_F) (i4 : I 4 = y_z) (i5 : I 5 = y_z) (i7 : I 7 = x_fl y_z 6 (-1)) (i8 : I 8 = y_z) (i102 : I 10 2 = nI 0) (i103 : I 10 3 = nI 0) (i11 : I 11 = y_z) (l9 : L 9 = y_zl) (i22 : I 22 3 = nI 0) (i27 : I 27 = m_sc y_z 25 (nI 4000)) (i28 : I 28 = y_G) (ii : ∀ k, k = 29 ∨ k = 30 ∨ k = 31 ∨ k = 32 ∨ k = 33 ∨ k = 34 ∨ k = 35 ∨ k = 36 ∨ k = 40 ∨ k = 41 ∨ k = 42 ∨ k = 43 → I k = y_z) (l37 : L 37 = y_zl) (i38 : ∀ x, x < 8 → I 38 x = y_G (18 * x) ∧ I 39 x = y_G (18 * x + 1)) : TP 0 none I L := by
  have h : ∀ j, j ≠ 25 → I 27 j = nI 0 := fun j hj => by rw [i27, m_sc_ne hj]; rfl
  obtain ⟨⟨a0, a1, a2, a559, a560, a564⟩, b144, b145, b146, b147, b148, b149⟩ := y_g0
  refine ⟨⟨⟨0, 0, 0, 0, by omega, by omega, by omega, ?_, fun _ _ => rfl, fun _ _ => rfl, fun _ _ _ _ _ _ _ => rfl, ⟨i102, h 17 (by omega), by omega⟩, fun _ => ⟨i103, h 5 (by omega), ⟨i102, h 4 (by omega), h 17 (by omega), Or.inl ⟨by omega, rfl⟩, fun i hi => absurd hi (Nat.not_lt_zero i)⟩, rfl, ?_⟩, (fun q => by cases q), fun _ _ q => q⟩, fun y hy => ?_, fun cc hcc => ?_, fun x hx => ?_⟩, ⟨?_, 4000, by omega, ?_⟩, Or.inl ⟨rfl, h 28 (by omega)⟩, ⟨?_, i22, Or.inl (h 37 (by omega))⟩⟩
  · rw [i2, i28]
    exact y_L (h 1 (by omega)) (h 2 (by omega))
  · rw [i2, i28]
    refine ⟨a560.trans (h 3 (by omega)).symm, fun u hu => ?_⟩
    obtain ⟨n1, n2, n3, n4, n5, n6⟩ := y_N u hu
    exact ⟨n1.trans n4.symm, n2.trans n5.symm, n3.trans n6.symm, fun _ => ⟨n1, n2, n3⟩⟩
  · have e7 : I 7 y = -1 := by rw [i7]; unfold x_fl; rw [if_pos hy]
    rw [e7, i8, ii 34 (by omega), ii 35 (by omega), ii 36 (by omega), l9, l37]
    exact ⟨⟨fun _ => rfl, fun _ => rfl⟩, ⟨0, by omega, rfl, rfl⟩, fun q => absurd rfl q, fun _ _ => rfl⟩
  · rw [i5, ii 29 (by omega)]
    exact ⟨0, by omega, rfl, rfl, fun p hp => absurd hp (Nat.not_lt_zero p)⟩
  · obtain ⟨⟨_, _, _, _, _, c1, c2⟩, d0, d1, _⟩ := y_C x hx
    rw [i2, (i38 x hx).1, (i38 x hx).2, c1, c2, d0, d1]
    exact ⟨rfl, rfl⟩
  · rw [i0, i27, m_sc_self, m_sc_self]
  · rw [i0, m_sc_self]
  · rw [i0, h 37 (by omega), m_sc_ne (by omega), m_sc_self]
end RCC
