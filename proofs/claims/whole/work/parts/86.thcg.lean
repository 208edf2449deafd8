/-! a house of both, cell by cell -/
section RAH
variable {N : Nat} {I I' : m_I} {L L' : m_L} {f g h f' g' h' : Nat → Int32} {c b b2 : Nat}
theorem rl_L_cg (hL : rl_L f g h c b b2) (hf : ∀ j, j < 581 → f' j = f j) (hg : ∀ j, j < 612 → g' j = g j) (e1 : h' 1 = h 1) (e2 : h' 2 = h 2) : rl_L f' g' h' c b b2 := by
  obtain ⟨h1, h2, h3, h4, h5, h6⟩ := hL
  exact ⟨rl_gl_fr h1 (hf _ (by omega)) (hf _ (by omega)) (hf _ (by omega)) (hf _ (by omega)) (fun j j1 j2 => hg j (by omega)) e1, fun u hu => rl_th_fr (h2 u hu) (fun j hj => hf j (by unfold rl_ci at hj; omega)) (fun j j1 j2 => hg j (by omega)), fun x hx => rl_cl_fr hx (h3 x hx) (fun j j1 j2 => hf j (by omega)) (fun j j1 j2 => hg j (by omega)), rl_ow_fr h4 (fun j j1 j2 => hf j (by omega)) (fun u hu => hf _ (by omega)), rl_co_fr h5 (hf _ (by omega)) (hf _ (by omega)) (fun u hu => hf _ (by omega)) (fun u hu => hf _ (by omega)) (fun u x hu hx => hf _ (by omega)) (fun x hx => hf _ (by omega)), rl_ag_fr h6 (hf _ (by omega)) e2 (fun u hu => hf _ (by omega)) (fun u hu => hf _ (by omega)) (fun u hu => hg _ (by omega))⟩
theorem TH_cg (hT : TH N I L) (h2 : ∀ j, j < 581 → I' 2 j = I 2 j) (h4 : ∀ j, j < 960 → I' 4 j = I 4 j) (h5 : ∀ j, j < 6 → I' 5 j = I 5 j) (h7 : ∀ j, j < 6 → I' 7 j = I 7 j) (h8 : ∀ j, j < 6 → I' 8 j = I 8 j) (h9 : ∀ j, j < 96 → L' 9 j = L 9 j) (h10 : ∀ j, j = 2 ∨ j = 3 → I' 10 j = I 10 j) (h11 : ∀ j, j < 2100 → I' 11 j = I 11 j) (h27 : ∀ j, j = 1 ∨ j = 2 ∨ j = 3 ∨ j = 4 ∨ j = 5 ∨ j = 17 → I' 27 j = I 27 j) (h28 : ∀ j, j < 612 → I' 28 j = I 28 j) (h29 : ∀ j, j < 6 → I' 29 j = I 29 j) (h30 : ∀ j, j < 240 → I' 30 j = I 30 j ∧ I' 31 j = I 31 j ∧ I' 32 j = I 32 j ∧ I' 33 j = I 33 j) (h34 : ∀ j, j < 6 → (I' 34 j = nI 0 ↔ I 34 j = nI 0)) (h35 : ∀ j, j < 6 → I' 35 j = I 35 j ∧ I' 36 j = I 36 j) (h37 : ∀ j, j < 96 → L' 37 j = L 37 j) (h38 : ∀ j, j < 8 → I' 38 j = I 38 j ∧ I' 39 j = I 39 j) (h40 : ∀ j, j < 60 → I' 40 j = I 40 j ∧ I' 41 j = I 41 j ∧ I' 42 j = I 42 j) (h43 : ∀ j, j < 1920 → I' 43 j = I 43 j) : TH N I' L' := by
  obtain ⟨⟨c, b, k, n, c1, b1, k1, hL, hE⟩, hro, hcd, hfs⟩ := hT
  obtain ⟨y1, y2, y3, y4, y5, y6, y7⟩ := hE
  obtain ⟨x1, x2, ⟨n1, n2, n3, n4, n5⟩, x4, ⟨z1, z2⟩⟩ := y5 rfl
  refine ⟨⟨c, b, k, n, c1, b1, k1, rl_L_cg hL h2 h28 (h27 1 (by omega)) (h27 2 (by omega)), fun _ _ => rfl, fun _ _ => rfl, fun _ _ _ _ _ _ _ => rfl, ⟨(h10 2 (by omega)).trans y4.1, (h27 17 (by omega)).trans y4.2.1, y4.2.2⟩, fun _ => ⟨(h10 3 (by omega)).trans x1, (h27 5 (by omega)).trans x2, ⟨(h10 2 (by omega)).trans n1, (h27 4 (by omega)).trans n2, (h27 17 (by omega)).trans n3, n4, fun i hi => ?_⟩, x4, ⟨by rw [h2 560 (by omega), h27 3 (by omega)]; exact z1, fun u hu => ?_⟩⟩, (fun q => by cases q), fun _ _ q => q⟩, fun y hy => ?_, fun cc hcc => ?_, fun x hx => ?_⟩
  · have hi60 : i < 60 := by omega
    obtain ⟨o1, o2, o3⟩ := h40 i hi60
    unfold rl_n1
    rw [h11 (i * 35) (by omega), h11 (i * 35 + 1) (by omega), h11 (i * 35 + 34) (by omega), o1, o2, o3]
    obtain ⟨a1, a2, a3, a4⟩ := n5 i hi
    refine ⟨a1, a2, fun j hj => ?_, a4⟩
    rw [h11 (i * 35 + 2 + j) (by omega), h43 (32 * i + j) (by omega)]
    exact a3 j hj
  · rw [h2 (550 + u) (by omega), h2 (553 + u) (by omega), h2 (556 + u) (by omega), h2 (3 + u) (by omega), h28 (150 + 154 * u + 151) (by omega), h28 (150 + 154 * u + 152) (by omega), h28 (150 + 154 * u + 153) (by omega)]
    exact z2 u hu
  · obtain ⟨a1, a2, a3, a4⟩ := hro y hy
    rw [h7 y hy, h8 y hy, h34 y hy, (h35 y hy).1, (h35 y hy).2]
    refine ⟨a1, a2, a3, fun i hi => ?_⟩
    rw [h9 (16 * y + i) (by omega), h37 (16 * y + i) (by omega)]
    exact a4 i hi
  · obtain ⟨s, s1, s2, s3, s4⟩ := hcd cc hcc
    refine ⟨s, s1, (h5 cc hcc).trans s2, (h29 cc hcc).trans s3, fun p hp => ?_⟩
    obtain ⟨⟨e0, e1, e2, e3⟩, kk, i1, i2, i3, a0, a1⟩ := s4 p hp
    obtain ⟨b0, b1, b2, b3⟩ := h30 (40 * cc + p) (by omega)
    rw [h4 ((cc * 40 + p) * 4) (by omega), h4 ((cc * 40 + p) * 4 + 1) (by omega), h4 ((cc * 40 + p) * 4 + 2) (by omega), h4 ((cc * 40 + p) * 4 + 3) (by omega), b0, b1, b2, b3]
    refine ⟨⟨e0, e1, e2, e3⟩, kk, i1, i2, i3, a0, ?_⟩
    unfold c_act at a1 ⊢
    rw [h4 ((cc * 40 + p) * 4) (by omega), h4 ((cc * 40 + p) * 4 + 1) (by omega), h4 ((cc * 40 + p) * 4 + 2) (by omega), h4 ((cc * 40 + p) * 4 + 3) (by omega)]
    exact a1
  · obtain ⟨q1, q2⟩ := hfs x hx
    rw [h2 (565 + x) (by omega), h2 (573 + x) (by omega), (h38 x hx).1, (h38 x hx).2]
    exact ⟨q1, q2⟩
end RAH
