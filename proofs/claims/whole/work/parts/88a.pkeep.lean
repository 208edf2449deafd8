/-! keep: alike -/
section RAJ
variable {V : m_V} {m n : Nat} {ls st : List Value} {t N M : Nat} {I I' J : m_I} {R : m_R} {L L' : m_L} {e : Option Nat} {a b u x i s p c r j k : Nat} {Q : Option Value → Nat → m_I → m_L → m_R → Prop}
theorem keep_TH (hH : TH N I L) : TH N (z_mov (m_sc (z_k1 I) 27 (m_sc (I 27) 37 (nI 1)))) (m_sc (m_sc L 21 (va_cpy (L 9) (L 21) 0 0 96)) 54 (va_cpy (L 37) (L 54) 0 0 96)) := by
  obtain ⟨J, hJ⟩ : ∃ J, J = m_sc (z_k1 I) 27 (m_sc (I 27) 37 (nI 1)) := ⟨_, rfl⟩
  have hJo : ∀ k, k ≠ 0 → k ≠ 27 → (k < 14 ∨ 23 < k) → J k = I k := fun k q1 q2 q3 => by rw [hJ, m_sc_ne q2, z_k1_o (by omega)]
  have hJ27 : ∀ j, j ≠ 37 → J 27 j = I 27 j := fun j hj => by rw [hJ, m_sc_self, m_sc_ne hj]
  have hZ : ∀ k, (k < 24 ∨ (24 ≤ k ∧ k ≠ 27 ∧ k ≠ 34 ∧ k ≠ 52 ∧ k ≠ 53)) → z_mov J k = J k := fun k hk => z_mov_o (by omega)
  have hO : ∀ k, (k ≠ 0 ∧ k ≠ 27 ∧ k ≠ 34 ∧ k ≠ 52 ∧ k ≠ 53 ∧ (k < 14 ∨ 23 < k)) → z_mov J k = I k := fun k hk => by rw [hZ k (by omega), hJo k (by omega) (by omega) (by omega)]
  have h27 : ∀ j, j ≠ 41 → j ≠ 37 → z_mov J 27 j = I 27 j := fun j h1 h2 => by rw [z_mov_27 h1, hJ27 j h2]
  have h34 : ∀ j, j < 6 → z_mov J 34 j = if I 34 j = nI 0 then nI 0 else nI 1 := fun j hj => by rw [z_mov_34 hj, hJo 34 (by omega) (by omega) (by omega)]
  have n10 : ¬ nI 1 = nI 0 := by decide
  have i34 : ∀ j, j < 6 → (z_mov J 34 j = nI 0 ↔ I 34 j = nI 0) := fun j hj => by
    rw [h34 j hj]
    by_cases q : I 34 j = nI 0
    · rw [if_pos q]; exact ⟨fun _ => q, fun _ => rfl⟩
    · rw [if_neg q]; exact ⟨fun z => absurd z n10, fun z => absurd z q⟩
  have hE : (∀ k, k ≠ 27 → (k < 13 ∨ 23 < k) → k ≠ 0 → J k = I k) := fun k q1 q2 q3 => hJo k q3 q1 (by omega)
  rw [← hJ]
  refine TH_cg hH (fun j _ => by rw [hO 2 (by omega)]) (fun j _ => by rw [hO 4 (by omega)]) (fun j _ => by rw [hO 5 (by omega)]) (fun j _ => by rw [hO 7 (by omega)]) (fun j _ => by rw [hO 8 (by omega)]) (fun j _ => by rw [m_sc_ne (j := 9) (by omega), m_sc_ne (j := 9) (by omega)]) (fun j _ => by rw [hO 10 (by omega)]) (fun j _ => by rw [hO 11 (by omega)]) (fun j hj => h27 j (by omega) (by omega)) (fun j _ => by rw [hO 28 (by omega)]) (fun j _ => by rw [hO 29 (by omega)]) (fun j _ => by rw [hO 30 (by omega), hO 31 (by omega), hO 32 (by omega), hO 33 (by omega)]; exact ⟨rfl, rfl, rfl, rfl⟩) i34 (fun j _ => by rw [hO 35 (by omega), hO 36 (by omega)]; exact ⟨rfl, rfl⟩) (fun j _ => by rw [m_sc_ne (j := 37) (by omega), m_sc_ne (j := 37) (by omega)]) (fun j _ => by rw [hO 38 (by omega), hO 39 (by omega)]; exact ⟨rfl, rfl⟩) (fun j _ => by rw [hO 40 (by omega), hO 41 (by omega), hO 42 (by omega)]; exact ⟨rfl, rfl, rfl⟩) (fun j _ => by rw [hO 43 (by omega)])
theorem keep_bg (hB : rl_bg I) : rl_bg (z_mov (m_sc (z_k1 I) 27 (m_sc (I 27) 37 (nI 1)))) := by
  obtain ⟨J, hJ⟩ : ∃ J, J = m_sc (z_k1 I) 27 (m_sc (I 27) 37 (nI 1)) := ⟨_, rfl⟩
  have hJo : ∀ k, k ≠ 0 → k ≠ 27 → (k < 14 ∨ 23 < k) → J k = I k := fun k q1 q2 q3 => by rw [hJ, m_sc_ne q2, z_k1_o (by omega)]
  have hJ27 : ∀ j, j ≠ 37 → J 27 j = I 27 j := fun j hj => by rw [hJ, m_sc_self, m_sc_ne hj]
  have hZ : ∀ k, (k < 24 ∨ (24 ≤ k ∧ k ≠ 27 ∧ k ≠ 34 ∧ k ≠ 52 ∧ k ≠ 53)) → z_mov J k = J k := fun k hk => z_mov_o (by omega)
  have hO : ∀ k, (k ≠ 0 ∧ k ≠ 27 ∧ k ≠ 34 ∧ k ≠ 52 ∧ k ≠ 53 ∧ (k < 14 ∨ 23 < k)) → z_mov J k = I k := fun k hk => by rw [hZ k (by omega), hJo k (by omega) (by omega) (by omega)]
  have h27 : ∀ j, j ≠ 41 → j ≠ 37 → z_mov J 27 j = I 27 j := fun j h1 h2 => by rw [z_mov_27 h1, hJ27 j h2]
  have h34 : ∀ j, j < 6 → z_mov J 34 j = if I 34 j = nI 0 then nI 0 else nI 1 := fun j hj => by rw [z_mov_34 hj, hJo 34 (by omega) (by omega) (by omega)]
  have n10 : ¬ nI 1 = nI 0 := by decide
  have i34 : ∀ j, j < 6 → (z_mov J 34 j = nI 0 ↔ I 34 j = nI 0) := fun j hj => by
    rw [h34 j hj]
    by_cases q : I 34 j = nI 0
    · rw [if_pos q]; exact ⟨fun _ => q, fun _ => rfl⟩
    · rw [if_neg q]; exact ⟨fun z => absurd z n10, fun z => absurd z q⟩
  have hE : (∀ k, k ≠ 27 → (k < 13 ∨ 23 < k) → k ≠ 0 → J k = I k) := fun k q1 q2 q3 => hJo k q3 q1 (by omega)
  rw [← hJ]
  unfold rl_bg
  have e0 : z_mov J 0 5 = I 0 5 := by rw [hZ 0 (by omega), hJ]; rfl
  rw [e0, h27 25 (by omega) (by omega)]
  exact hB
theorem keep_en (hN : rl_en e I) : rl_en e (z_mov (m_sc (z_k1 I) 27 (m_sc (I 27) 37 (nI 1)))) := by
  obtain ⟨J, hJ⟩ : ∃ J, J = m_sc (z_k1 I) 27 (m_sc (I 27) 37 (nI 1)) := ⟨_, rfl⟩
  have hJo : ∀ k, k ≠ 0 → k ≠ 27 → (k < 14 ∨ 23 < k) → J k = I k := fun k q1 q2 q3 => by rw [hJ, m_sc_ne q2, z_k1_o (by omega)]
  have hJ27 : ∀ j, j ≠ 37 → J 27 j = I 27 j := fun j hj => by rw [hJ, m_sc_self, m_sc_ne hj]
  have hZ : ∀ k, (k < 24 ∨ (24 ≤ k ∧ k ≠ 27 ∧ k ≠ 34 ∧ k ≠ 52 ∧ k ≠ 53)) → z_mov J k = J k := fun k hk => z_mov_o (by omega)
  have hO : ∀ k, (k ≠ 0 ∧ k ≠ 27 ∧ k ≠ 34 ∧ k ≠ 52 ∧ k ≠ 53 ∧ (k < 14 ∨ 23 < k)) → z_mov J k = I k := fun k hk => by rw [hZ k (by omega), hJo k (by omega) (by omega) (by omega)]
  have h27 : ∀ j, j ≠ 41 → j ≠ 37 → z_mov J 27 j = I 27 j := fun j h1 h2 => by rw [z_mov_27 h1, hJ27 j h2]
  have h34 : ∀ j, j < 6 → z_mov J 34 j = if I 34 j = nI 0 then nI 0 else nI 1 := fun j hj => by rw [z_mov_34 hj, hJo 34 (by omega) (by omega) (by omega)]
  have n10 : ¬ nI 1 = nI 0 := by decide
  have i34 : ∀ j, j < 6 → (z_mov J 34 j = nI 0 ↔ I 34 j = nI 0) := fun j hj => by
    rw [h34 j hj]
    by_cases q : I 34 j = nI 0
    · rw [if_pos q]; exact ⟨fun _ => q, fun _ => rfl⟩
    · rw [if_neg q]; exact ⟨fun z => absurd z n10, fun z => absurd z q⟩
  have hE : (∀ k, k ≠ 27 → (k < 13 ∨ 23 < k) → k ≠ 0 → J k = I k) := fun k q1 q2 q3 => hJo k q3 q1 (by omega)
  rw [← hJ]
  unfold rl_en
  rw [h27 28 (by omega) (by omega), h27 29 (by omega) (by omega), hO 55 (by omega), hO 61 (by omega), hO 46 (by omega)]
  exact hN
theorem kT_bt {q : Nat → Int32} {y : Int32} (h : z_bt (q 3099) j = if y = nI 0 then nI 0 else nI 1) : vB q j = nI 0 ↔ y = nI 0 := by
  have n10 : ¬ nI 1 = nI 0 := by decide
  have e : vB q j = z_bt (q 3099) j := by
    unfold vB z_bt
    by_cases q3 : q 3099 >>> (nI j &&& 31) &&& nI 1 = nI 1
    · rw [if_pos q3, decide_eq_true q3, m_bl_t]
    · rw [if_neg q3, decide_eq_false q3, m_bl_f]
  rw [e, h]
  by_cases q2 : y = nI 0
  · rw [if_pos q2]; exact ⟨fun _ => q2, fun _ => rfl⟩
  · rw [if_neg q2]; exact ⟨fun z => absurd z n10, fun z => absurd z q2⟩
theorem kT_vH {q h : Nat → Int32} (m0 : q 3094 = h 1) (m1 : q 3095 = h 2) (m2 : q 3096 = h 3) (m3 : q 3097 = h 4) (m4 : q 3098 = h 17) (t5 : h 5 = nI 0) : ∀ j, j = 1 ∨ j = 2 ∨ j = 3 ∨ j = 4 ∨ j = 5 ∨ j = 17 → vH q j = h j := by
  intro j hj
  unfold vH
  rcases hj with rfl | rfl | rfl | rfl | rfl | rfl
  · rw [if_pos rfl]; exact m0
  · rw [if_neg (by omega), if_pos rfl]; exact m1
  · rw [if_neg (by omega), if_neg (by omega), if_pos rfl]; exact m2
  · rw [if_neg (by omega), if_neg (by omega), if_neg (by omega), if_pos rfl]; exact m3
  · rw [if_neg (by omega), if_neg (by omega), if_neg (by omega), if_neg (by omega), if_neg (by omega)]; exact t5.symm
  · rw [if_neg (by omega), if_neg (by omega), if_neg (by omega), if_neg (by omega), if_pos rfl]; exact m4
theorem vI_e {Z : m_I} : vI Z 2 = Z 14 ∧ vI Z 4 = Z 16 ∧ vI Z 5 = Z 17 ∧ vI Z 7 = Z 19 ∧ vI Z 8 = Z 20 ∧ vI Z 10 = Z 22 ∧ vI Z 11 = Z 23 ∧ vI Z 27 = vH (Z 53) ∧ vI Z 28 = vO (Z 53) 3100 ∧ vI Z 34 = vB (Z 53) := ⟨rfl, rfl, rfl, rfl, rfl, rfl, rfl, rfl, rfl, rfl⟩
theorem vI_f {Z : m_I} : vI Z 29 = vO (Z 53) 0 ∧ vI Z 30 = vO (Z 53) 6 ∧ vI Z 31 = vO (Z 53) 246 ∧ vI Z 32 = vO (Z 53) 486 ∧ vI Z 33 = vO (Z 53) 726 ∧ vI Z 35 = vO (Z 53) 966 ∧ vI Z 36 = vO (Z 53) 972 ∧ vI Z 38 = vO (Z 53) 978 ∧ vI Z 39 = vO (Z 53) 986 ∧ vI Z 40 = vO (Z 53) 994 ∧ vI Z 41 = vO (Z 53) 1054 ∧ vI Z 42 = vO (Z 53) 1114 ∧ vI Z 43 = vO (Z 53) 1174 := ⟨rfl, rfl, rfl, rfl, rfl, rfl, rfl, rfl, rfl, rfl, rfl, rfl, rfl⟩
theorem kT_of {Z : m_I} (hH : TH N I L) (t5 : I 27 5 = nI 0) (c14 : ∀ j, j < 581 → Z 14 j = I 2 j) (c16 : ∀ j, j < 960 → Z 16 j = I 4 j) (c17 : ∀ j, j < 6 → Z 17 j = I 5 j) (c19 : ∀ j, j < 6 → Z 19 j = I 7 j) (c20 : ∀ j, j < 6 → Z 20 j = I 8 j) (c21 : ∀ j, j < 96 → L' 21 j = L 9 j) (c22 : Z 22 2 = I 10 2 ∧ Z 22 3 = I 10 3) (c23 : ∀ j, j < 2100 → Z 23 j = I 11 j) (m0 : Z 53 3094 = I 27 1) (m1 : Z 53 3095 = I 27 2) (m2 : Z 53 3096 = I 27 3) (m3 : Z 53 3097 = I 27 4) (m4 : Z 53 3098 = I 27 17) (g34 : ∀ j, j < 6 → z_bt (Z 53 3099) j = if I 34 j = nI 0 then nI 0 else nI 1) (g28 : ∀ j, j < 612 → Z 53 (3100 + j) = I 28 j) (g29 : ∀ j, j < 6 → Z 53 (0 + j) = I 29 j) (g30 : ∀ j, j < 240 → Z 53 (6 + j) = I 30 j) (g31 : ∀ j, j < 240 → Z 53 (246 + j) = I 31 j) (g32 : ∀ j, j < 240 → Z 53 (486 + j) = I 32 j) (g33 : ∀ j, j < 240 → Z 53 (726 + j) = I 33 j) (g35 : ∀ j, j < 6 → Z 53 (966 + j) = I 35 j) (g36 : ∀ j, j < 6 → Z 53 (972 + j) = I 36 j) (g38 : ∀ j, j < 8 → Z 53 (978 + j) = I 38 j) (g39 : ∀ j, j < 8 → Z 53 (986 + j) = I 39 j) (g40 : ∀ j, j < 60 → Z 53 (994 + j) = I 40 j) (g41 : ∀ j, j < 60 → Z 53 (1054 + j) = I 41 j) (g42 : ∀ j, j < 60 → Z 53 (1114 + j) = I 42 j) (g43 : ∀ j, j < 1920 → Z 53 (1174 + j) = I 43 j) (c54 : ∀ j, j < 96 → L' 54 j = L 37 j) : TH N (vI Z) (vL L') := by
  obtain ⟨v2, v4, v5, v7, v8, v10, v11, v27, v28, v34⟩ := vI_e (Z := Z)
  obtain ⟨v29, v30, v31, v32, v33, v35, v36, v38, v39, v40, v41, v42, v43⟩ := vI_f (Z := Z)
  have w9 : vL L' 9 = L' 21 := rfl
  have w37 : vL L' 37 = L' 54 := rfl
  refine TH_cg hH (by rw [v2]; exact c14) (by rw [v4]; exact c16) (by rw [v5]; exact c17) (by rw [v7]; exact c19) (by rw [v8]; exact c20) (by rw [w9]; exact c21) (fun j hj => ?_) (by rw [v11]; exact c23) (by rw [v27]; exact kT_vH m0 m1 m2 m3 m4 t5) (by rw [v28]; exact g28) (by rw [v29]; exact g29) (by rw [v30, v31, v32, v33]; exact fun j hj => ⟨g30 j hj, g31 j hj, g32 j hj, g33 j hj⟩) (by rw [v34]; exact fun j hj => kT_bt (g34 j hj)) (by rw [v35, v36]; exact fun j hj => ⟨g35 j hj, g36 j hj⟩) (by rw [w37]; exact c54) (by rw [v38, v39]; exact fun j hj => ⟨g38 j hj, g39 j hj⟩) (by rw [v40, v41, v42]; exact fun j hj => ⟨g40 j hj, g41 j hj, g42 j hj⟩) (by rw [v43]; exact g43)
  rw [v10]
  rcases hj with rfl | rfl
  · exact c22.1
  · exact c22.2
theorem keep_fa : (∀ j, j < 581 → z_mov (m_sc (z_k1 I) 27 (m_sc (I 27) 37 (nI 1))) 14 j = I 2 j) ∧ (∀ j, j < 960 → z_mov (m_sc (z_k1 I) 27 (m_sc (I 27) 37 (nI 1))) 16 j = I 4 j) ∧ (∀ j, j < 6 → z_mov (m_sc (z_k1 I) 27 (m_sc (I 27) 37 (nI 1))) 17 j = I 5 j) ∧ (∀ j, j < 6 → z_mov (m_sc (z_k1 I) 27 (m_sc (I 27) 37 (nI 1))) 19 j = I 7 j) ∧ (∀ j, j < 6 → z_mov (m_sc (z_k1 I) 27 (m_sc (I 27) 37 (nI 1))) 20 j = I 8 j) ∧ z_mov (m_sc (z_k1 I) 27 (m_sc (I 27) 37 (nI 1))) 22 = m_sc (I 22) 2 (I 10 2) ∧ (∀ j, j < 2100 → z_mov (m_sc (z_k1 I) 27 (m_sc (I 27) 37 (nI 1))) 23 j = I 11 j) ∧ z_mov (m_sc (z_k1 I) 27 (m_sc (I 27) 37 (nI 1))) 0 3 = nI 1 ∧ z_mov (m_sc (z_k1 I) 27 (m_sc (I 27) 37 (nI 1))) 27 37 = nI 1 := by
  have z14 : z_kp I 14 = va_cpy (I 2) (I 14) 0 0 581 := by unfold z_kp; rw [m_sc_ne (by omega), m_sc_ne (by omega), m_sc_ne (by omega), m_sc_ne (by omega), m_sc_ne (by omega), m_sc_ne (by omega), m_sc_self]
  have z16 : z_kp I 16 = va_cpy (I 4) (I 16) 0 0 960 := by unfold z_kp; rw [m_sc_ne (by omega), m_sc_ne (by omega), m_sc_ne (by omega), m_sc_ne (by omega), m_sc_ne (by omega), m_sc_self]
  have z17 : z_kp I 17 = va_cpy (I 5) (I 17) 0 0 6 := by unfold z_kp; rw [m_sc_ne (by omega), m_sc_ne (by omega), m_sc_ne (by omega), m_sc_ne (by omega), m_sc_self]
  have z19 : z_kp I 19 = va_cpy (I 7) (I 19) 0 0 6 := by unfold z_kp; rw [m_sc_ne (by omega), m_sc_ne (by omega), m_sc_ne (by omega), m_sc_self]
  have z20 : z_kp I 20 = va_cpy (I 8) (I 20) 0 0 6 := by unfold z_kp; rw [m_sc_ne (by omega), m_sc_ne (by omega), m_sc_self]
  have z23 : z_kp I 23 = va_cpy (I 11) (I 23) 0 0 2100 := by unfold z_kp; rw [m_sc_ne (by omega), m_sc_self]
  have z22 : z_kp I 22 = m_sc (I 22) 2 (I 10 2) := by unfold z_kp; rw [m_sc_self]
  have hh : ∀ k, k ≠ 0 → k < 24 → z_mov (m_sc (z_k1 I) 27 (m_sc (I 27) 37 (nI 1))) k = z_kp I k := fun k h1 h2 => by
    rw [z_mov_o (by omega), m_sc_ne (by omega)]
    unfold z_k1
    rw [m_sc_ne h1]
  rw [hh 14 (by omega) (by omega), hh 16 (by omega) (by omega), hh 17 (by omega) (by omega), hh 19 (by omega) (by omega), hh 20 (by omega) (by omega), hh 22 (by omega) (by omega), hh 23 (by omega) (by omega), z14, z16, z17, z19, z20, z22, z23]
  refine ⟨fun j hj => cpy_i hj, fun j hj => cpy_i hj, fun j hj => cpy_i hj, fun j hj => cpy_i hj, fun j hj => cpy_i hj, rfl, fun j hj => cpy_i hj, ?_, ?_⟩
  · rw [z_mov_o (by omega), m_sc_ne (by omega)]
    unfold z_k1
    rw [m_sc_self, m_sc_self]
  · rw [z_mov_27 (by omega), m_sc_self, m_sc_self]
theorem keep_J : (∀ k, 27 < k → (m_sc (z_k1 I) 27 (m_sc (I 27) 37 (nI 1))) k = I k) ∧ ∀ j, j ≠ 37 → (m_sc (z_k1 I) 27 (m_sc (I 27) 37 (nI 1))) 27 j = I 27 j := by
  refine ⟨fun k hk => ?_, fun j hj => ?_⟩
  · rw [m_sc_ne (by omega), z_k1_o (by omega)]
  · rw [m_sc_self, m_sc_ne hj]
theorem keep_kT (hH : TH N I L) (hK : rl_kp N I L) : TH N (vI (z_mov (m_sc (z_k1 I) 27 (m_sc (I 27) 37 (nI 1))))) (vL (m_sc (m_sc L 21 (va_cpy (L 9) (L 21) 0 0 96)) 54 (va_cpy (L 37) (L 54) 0 0 96))) := by
  obtain ⟨t5, t3⟩ := TH_27_5 hH
  obtain ⟨c14, c16, c17, c19, c20, e22, c23, _, _⟩ := keep_fa (I := I)
  obtain ⟨E, F⟩ := keep_J (I := I)
  generalize (m_sc (z_k1 I) 27 (m_sc (I 27) 37 (nI 1))) = J at c14 c16 c17 c19 c20 e22 c23 E F ⊢
  obtain ⟨m0, m1, m2, m3, m4, m5⟩ := z_num (I := J)
  refine kT_of hH t5 c14 c16 c17 c19 c20 (fun j hj => ?_) ⟨?_, ?_⟩ c23 (m0.trans (F 1 (by omega))) (m1.trans (F 2 (by omega))) (m2.trans (F 3 (by omega))) (m3.trans (F 4 (by omega))) (m4.trans (F 17 (by omega))) (fun j hj => ?_) (fun j hj => ?_) (fun j hj => by rw [z_m53_29 hj, E 29 (by omega)]) (fun j hj => by rw [z_m53_30 hj, E 30 (by omega)]) (fun j hj => by rw [z_m53_31 hj, E 31 (by omega)]) (fun j hj => by rw [z_m53_32 hj, E 32 (by omega)]) (fun j hj => by rw [z_m53_33 hj, E 33 (by omega)]) (fun j hj => by rw [z_m53_35 hj, E 35 (by omega)]) (fun j hj => by rw [z_m53_36 hj, E 36 (by omega)]) (fun j hj => by rw [z_m53_38 hj, E 38 (by omega)]) (fun j hj => by rw [z_m53_39 hj, E 39 (by omega)]) (fun j hj => by rw [z_m53_40 hj, E 40 (by omega)]) (fun j hj => by rw [z_m53_41 hj, E 41 (by omega)]) (fun j hj => by rw [z_m53_42 hj, E 42 (by omega)]) (fun j hj => by rw [z_m53_43 hj, E 43 (by omega)]) (fun j hj => ?_)
  · rw [m_sc_ne (by omega), m_sc_self, cpy_i hj]
  · rw [e22, m_sc_self]
  · rw [e22, m_sc_ne (by omega), t3]; exact hK.2.1
  · rw [m5, z_bits _ hj, E 34 (by omega)]
  · rw [z_mst hj, E 28 (by omega)]
  · rw [m_sc_self, cpy_i hj]
theorem keep_kp (hH : TH N I L) (hK : rl_kp N I L) : rl_kp N (z_mov (m_sc (z_k1 I) 27 (m_sc (I 27) 37 (nI 1)))) (m_sc (m_sc L 21 (va_cpy (L 9) (L 21) 0 0 96)) 54 (va_cpy (L 37) (L 54) 0 0 96)) := by
  have hkT := keep_kT hH hK
  obtain ⟨_, _, _, _, _, e22, _, e0, e1⟩ := keep_fa (I := I)
  generalize z_mov (m_sc (z_k1 I) 27 (m_sc (I 27) 37 (nI 1))) = Z at hkT e22 e0 e1 ⊢
  refine ⟨e0.trans e1.symm, ?_, Or.inr ⟨e1, hkT⟩⟩
  rw [e22, m_sc_ne (by omega)]
  exact hK.2.1
theorem p_keep (hT : TP N e I L) (ht : 55 ≤ t) : pair_ok V t e N I L 106 [] 190 [] := by
  obtain ⟨hH, hB, hN, hK⟩ := hT
  have h2 := keep_TH hH
  have h3 := keep_bg hB
  have h4 := keep_en hN
  have h5 := keep_kp hH hK
  have h6 : ∀ Q, WP V 190 0 (m_loc 190 [.ref 27]) [] t (z_k1 I) (m_sc L 21 (va_cpy (L 9) (L 21) 0 0 96)) (m_RR e 28 48) Q = Q (some (.int (nI 0))) t (z_mov (m_sc (z_k1 I) 27 (m_sc (I 27) 37 (nI 1)))) (m_sc (m_sc L 21 (va_cpy (L 9) (L 21) 0 0 96)) 54 (va_cpy (L 37) (L 54) 0 0 96)) (m_RR e 28 48) := fun Q => by
    have e27 : z_k1 I 27 = I 27 := z_k1_o (by omega)
    rw [← e27, w190 ht, m_sc_ne (j := 37) (by omega), m_sc_ne (j := 54) (by omega)]
  generalize z_mov (m_sc (z_k1 I) 27 (m_sc (I 27) 37 (nI 1))) = Z at h2 h3 h4 h5 h6
  exact ⟨.int (nI 0), z_k1 I, m_sc L 21 (va_cpy (L 9) (L 21) 0 0 96), Z, (m_sc (m_sc L 21 (va_cpy (L 9) (L 21) 0 0 96)) 54 (va_cpy (L 37) (L 54) 0 0 96)), fun Q => w106 ht, h6, TP_le (N := N) ⟨h2, h3, h4, h5⟩ (Nat.le_add_right _ _)⟩
end RAJ
