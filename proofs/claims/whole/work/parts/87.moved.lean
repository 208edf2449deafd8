/-! keep and back: what move() leaves -/
section RAG
variable {V : m_V} {m n : Nat} {ls st : List Value} {t N M : Nat} {I I' J : m_I} {R : m_R} {L L' : m_L} {e : Option Nat} {a b u x i s p c r j k : Nat} {Q : Option Value → Nat → m_I → m_L → m_R → Prop} {o : Int32} {w : Value}
theorem z_bits (h : Nat → Int32) {y : Nat} (hy : y < 6) : z_bt (z_or h 0 6 (nI 0)) y = if h y = nI 0 then nI 0 else nI 1 := by
  have key : ∀ b0 b1 b2 b3 b4 b5 : Bool, ∀ z : Fin 6, z_bt (nI 0 ||| (if b0 then nI 0 else nI 1 <<< (nI 0 &&& 31)) ||| (if b1 then nI 0 else nI 1 <<< (nI 1 &&& 31)) ||| (if b2 then nI 0 else nI 1 <<< (nI 2 &&& 31)) ||| (if b3 then nI 0 else nI 1 <<< (nI 3 &&& 31)) ||| (if b4 then nI 0 else nI 1 <<< (nI 4 &&& 31)) ||| (if b5 then nI 0 else nI 1 <<< (nI 5 &&& 31))) z.val = if ([b0, b1, b2, b3, b4, b5].getD z.val false) then nI 0 else nI 1 := by
    decide +kernel
  have k2 := key (decide (h 0 = nI 0)) (decide (h 1 = nI 0)) (decide (h 2 = nI 0)) (decide (h 3 = nI 0)) (decide (h 4 = nI 0)) (decide (h 5 = nI 0)) ⟨y, hy⟩
  simp only [decide_eq_true_eq] at k2
  have e : z_or h 0 6 (nI 0) = nI 0 ||| (if h 0 = nI 0 then nI 0 else nI 1 <<< (nI 0 &&& 31)) ||| (if h 1 = nI 0 then nI 0 else nI 1 <<< (nI 1 &&& 31)) ||| (if h 2 = nI 0 then nI 0 else nI 1 <<< (nI 2 &&& 31)) ||| (if h 3 = nI 0 then nI 0 else nI 1 <<< (nI 3 &&& 31)) ||| (if h 4 = nI 0 then nI 0 else nI 1 <<< (nI 4 &&& 31)) ||| (if h 5 = nI 0 then nI 0 else nI 1 <<< (nI 5 &&& 31)) := by
    simp only [z_or, Nat.reduceAdd]
  rw [e, k2]
  obtain rfl | rfl | rfl | rfl | rfl | rfl : y = 0 ∨ y = 1 ∨ y = 2 ∨ y = 3 ∨ y = 4 ∨ y = 5 := by omega
  all_goals simp
theorem cpy_i {α : Type} {f g : Nat → α} (h : j < n) : va_cpy f g 0 0 n j = f j := by
  unfold va_cpy
  rw [if_pos (by omega), Nat.sub_zero, Nat.zero_add]
theorem z_mov_o (h : k ≠ 27 ∧ k ≠ 34 ∧ k ≠ 52 ∧ k ≠ 53) : z_mov I k = I k := by
  obtain ⟨h1, h2, h3, h4⟩ := h
  unfold z_mov z_m4 z_m3 z_M z_m2 z_m13
  rw [m_sc_ne h2, m_sc_ne h1, z_mv_o h4 h1, z_mv_o h4 h1, m_sc_ne h3, m_sc_ne h3, z_mv_o h4 h1, z_mv_o h4 h1, z_mv_o h4 h1, z_mv_o h4 h1, z_mv_o h4 h1, z_mv_o h4 h1, z_mv_o h4 h1, z_mv_o h4 h1, z_mv_o h4 h1, z_mv_o h4 h1, z_mv_o h4 h1, z_mv_o h4 h1, z_mv_o h4 h1, m_sc_ne h1]
theorem z_m13_27 {I : m_I} (h : j ≠ 41) : z_m13 I 27 j = I 27 j := by
  unfold z_m13
  rw [z_mv_27 h, z_mv_27 h, z_mv_27 h, z_mv_27 h, z_mv_27 h, z_mv_27 h, z_mv_27 h, z_mv_27 h, z_mv_27 h, z_mv_27 h, z_mv_27 h, z_mv_27 h, z_mv_27 h]
theorem z_m13_o {I : m_I} (h1 : k ≠ 53) (h2 : k ≠ 27) : z_m13 I k = I k := by
  unfold z_m13
  rw [z_mv_o h1 h2, z_mv_o h1 h2, z_mv_o h1 h2, z_mv_o h1 h2, z_mv_o h1 h2, z_mv_o h1 h2, z_mv_o h1 h2, z_mv_o h1 h2, z_mv_o h1 h2, z_mv_o h1 h2, z_mv_o h1 h2, z_mv_o h1 h2, z_mv_o h1 h2]
theorem z_M_52 : z_M I 52 0 = I 27 1 ∧ z_M I 52 1 = I 27 2 ∧ z_M I 52 2 = I 27 3 ∧ z_M I 52 3 = I 27 4 ∧ z_M I 52 4 = I 27 17 ∧ z_M I 52 5 = z_or (I 34) 0 6 (nI 0) := by
  have h : ∀ j, j ≠ 41 → z_m13 (m_sc I 27 (m_sc (I 27) 41 (nI 0))) 27 j = I 27 j := fun j hj => by rw [z_m13_27 hj, m_sc_self, m_sc_ne hj]
  have h34 : z_m13 (m_sc I 27 (m_sc (I 27) 41 (nI 0))) 34 = I 34 := by rw [z_m13_o (by omega) (by omega), m_sc_ne (by omega)]
  obtain ⟨J, hJ⟩ : ∃ J, J = z_m13 (m_sc I 27 (m_sc (I 27) 41 (nI 0))) := ⟨_, rfl⟩
  unfold z_M
  rw [← hJ] at h h34 ⊢
  unfold z_m2
  rw [m_sc_self, h34, ← h 1 (by omega), ← h 2 (by omega), ← h 3 (by omega), ← h 4 (by omega), ← h 17 (by omega)]
  exact ⟨rfl, rfl, rfl, rfl, rfl, rfl⟩
theorem z_M_27 (h : j ≠ 41) : z_M I 27 j = I 27 j := by
  unfold z_M z_m2
  rw [m_sc_ne (by omega), m_sc_ne (by omega), z_m13_27 h, m_sc_self, m_sc_ne h]
theorem z_mov_27 (h : j ≠ 41) : z_mov I 27 j = I 27 j := by
  have q : z_mov I = z_m4 (z_mv (z_mv (z_M I) 52 3094 0 6) 28 3100 0 612) := by unfold z_mov z_m3; with_reducible rfl
  obtain ⟨J, hJ⟩ : ∃ J, J = z_mv (z_mv (z_M I) 52 3094 0 6) 28 3100 0 612 := ⟨_, rfl⟩
  have h27 : J 27 j = I 27 j := by rw [hJ, z_mv_27 h, z_mv_27 h, z_M_27 h]
  have h52 : J 52 = z_M I 52 := by rw [hJ, z_mv_o (by omega) (by omega), z_mv_o (by omega) (by omega)]
  obtain ⟨m0, m1, m2, m3, m4, m5⟩ := z_M_52 (I := I)
  rw [q, ← hJ]
  unfold z_m4
  rw [m_sc_ne (by omega), m_sc_self]
  unfold z_fl
  rw [h52, m0, m1, m2, m3, m4]
  by_cases q17 : j = 17
  · subst q17; rw [m_sc_self]
  · rw [m_sc_ne q17]
    by_cases q4 : j = 4
    · subst q4; rw [m_sc_self]
    · rw [m_sc_ne q4]
      by_cases q3 : j = 3
      · subst q3; rw [m_sc_self]
      · rw [m_sc_ne q3]
        by_cases q2 : j = 2
        · subst q2; rw [m_sc_self]
        · rw [m_sc_ne q2]
          by_cases q1 : j = 1
          · subst q1; rw [m_sc_self]
          · rw [m_sc_ne q1, h27]
theorem z_mov_34 (h : j < 6) : z_mov I 34 j = if I 34 j = nI 0 then nI 0 else nI 1 := by
  have q : z_mov I = z_m4 (z_mv (z_mv (z_M I) 52 3094 0 6) 28 3100 0 612) := by unfold z_mov z_m3; with_reducible rfl
  obtain ⟨J, hJ⟩ : ∃ J, J = z_mv (z_mv (z_M I) 52 3094 0 6) 28 3100 0 612 := ⟨_, rfl⟩
  have h52 : J 52 = z_M I 52 := by rw [hJ, z_mv_o (by omega) (by omega), z_mv_o (by omega) (by omega)]
  rw [q, ← hJ]
  unfold z_m4
  rw [m_sc_self, z_un_i 6 0 _ (by omega) (by omega), h52, z_M_52.2.2.2.2.2, z_bits _ h]
theorem z_mov_53 : z_mov I 53 = z_mv (z_mv (z_M I) 52 3094 0 6) 28 3100 0 612 53 := by
  unfold z_mov z_m4 z_m3
  rw [m_sc_ne (by omega), m_sc_ne (by omega)]
theorem z_M_53 : z_M I 53 = z_m13 (m_sc I 27 (m_sc (I 27) 41 (nI 0))) 53 := by
  unfold z_M z_m2
  rw [m_sc_ne (by omega), m_sc_ne (by omega)]
theorem z_num : z_mov I 53 3094 = I 27 1 ∧ z_mov I 53 3095 = I 27 2 ∧ z_mov I 53 3096 = I 27 3 ∧ z_mov I 53 3097 = I 27 4 ∧ z_mov I 53 3098 = I 27 17 ∧ z_mov I 53 3099 = z_or (I 34) 0 6 (nI 0) := by
  have h : ∀ j, j < 6 → z_mov I 53 (3094 + j) = z_M I 52 j := fun j hj => by
    rw [z_mov_53, z_mv_x (by omega), z_mv_i hj, Nat.zero_add]
  obtain ⟨m0, m1, m2, m3, m4, m5⟩ := z_M_52 (I := I)
  exact ⟨(h 0 (by omega)).trans m0, (h 1 (by omega)).trans m1, (h 2 (by omega)).trans m2, (h 3 (by omega)).trans m3, (h 4 (by omega)).trans m4, (h 5 (by omega)).trans m5⟩
theorem z_mst (h : j < 612) : z_mov I 53 (3100 + j) = I 28 j := by
  rw [z_mov_53, z_mv_i h, Nat.zero_add, z_mv_o (by omega) (by omega)]
  unfold z_M z_m2
  rw [m_sc_ne (by omega), m_sc_ne (by omega), z_m13_o (by omega) (by omega), m_sc_ne (by omega)]
theorem z_m53_29 (h : j < 6) : z_mov I 53 (0 + j) = I 29 j := by
  rw [z_mov_53, z_mv_x (by omega), z_mv_x (by omega), z_M_53]
  unfold z_m13
  rw [z_mv_x (by omega), z_mv_x (by omega), z_mv_x (by omega), z_mv_x (by omega), z_mv_x (by omega), z_mv_x (by omega), z_mv_x (by omega), z_mv_x (by omega), z_mv_x (by omega), z_mv_x (by omega), z_mv_x (by omega), z_mv_x (by omega), z_mv_i h, Nat.zero_add, m_sc_ne (by omega)]
theorem z_m53_30 (h : j < 240) : z_mov I 53 (6 + j) = I 30 j := by
  rw [z_mov_53, z_mv_x (by omega), z_mv_x (by omega), z_M_53]
  unfold z_m13
  rw [z_mv_x (by omega), z_mv_x (by omega), z_mv_x (by omega), z_mv_x (by omega), z_mv_x (by omega), z_mv_x (by omega), z_mv_x (by omega), z_mv_x (by omega), z_mv_x (by omega), z_mv_x (by omega), z_mv_x (by omega), z_mv_i h, Nat.zero_add, z_mv_o (by omega) (by omega), m_sc_ne (by omega)]
theorem z_m53_31 (h : j < 240) : z_mov I 53 (246 + j) = I 31 j := by
  rw [z_mov_53, z_mv_x (by omega), z_mv_x (by omega), z_M_53]
  unfold z_m13
  rw [z_mv_x (by omega), z_mv_x (by omega), z_mv_x (by omega), z_mv_x (by omega), z_mv_x (by omega), z_mv_x (by omega), z_mv_x (by omega), z_mv_x (by omega), z_mv_x (by omega), z_mv_x (by omega), z_mv_i h, Nat.zero_add, z_mv_o (by omega) (by omega), z_mv_o (by omega) (by omega), m_sc_ne (by omega)]
theorem z_m53_32 (h : j < 240) : z_mov I 53 (486 + j) = I 32 j := by
  rw [z_mov_53, z_mv_x (by omega), z_mv_x (by omega), z_M_53]
  unfold z_m13
  rw [z_mv_x (by omega), z_mv_x (by omega), z_mv_x (by omega), z_mv_x (by omega), z_mv_x (by omega), z_mv_x (by omega), z_mv_x (by omega), z_mv_x (by omega), z_mv_x (by omega), z_mv_i h, Nat.zero_add, z_mv_o (by omega) (by omega), z_mv_o (by omega) (by omega), z_mv_o (by omega) (by omega), m_sc_ne (by omega)]
theorem z_m53_33 (h : j < 240) : z_mov I 53 (726 + j) = I 33 j := by
  rw [z_mov_53, z_mv_x (by omega), z_mv_x (by omega), z_M_53]
  unfold z_m13
  rw [z_mv_x (by omega), z_mv_x (by omega), z_mv_x (by omega), z_mv_x (by omega), z_mv_x (by omega), z_mv_x (by omega), z_mv_x (by omega), z_mv_x (by omega), z_mv_i h, Nat.zero_add, z_mv_o (by omega) (by omega), z_mv_o (by omega) (by omega), z_mv_o (by omega) (by omega), z_mv_o (by omega) (by omega), m_sc_ne (by omega)]
theorem z_m53_35 (h : j < 6) : z_mov I 53 (966 + j) = I 35 j := by
  rw [z_mov_53, z_mv_x (by omega), z_mv_x (by omega), z_M_53]
  unfold z_m13
  rw [z_mv_x (by omega), z_mv_x (by omega), z_mv_x (by omega), z_mv_x (by omega), z_mv_x (by omega), z_mv_x (by omega), z_mv_x (by omega), z_mv_i h, Nat.zero_add, z_mv_o (by omega) (by omega), z_mv_o (by omega) (by omega), z_mv_o (by omega) (by omega), z_mv_o (by omega) (by omega), z_mv_o (by omega) (by omega), m_sc_ne (by omega)]
theorem z_m53_36 (h : j < 6) : z_mov I 53 (972 + j) = I 36 j := by
  rw [z_mov_53, z_mv_x (by omega), z_mv_x (by omega), z_M_53]
  unfold z_m13
  rw [z_mv_x (by omega), z_mv_x (by omega), z_mv_x (by omega), z_mv_x (by omega), z_mv_x (by omega), z_mv_x (by omega), z_mv_i h, Nat.zero_add, z_mv_o (by omega) (by omega), z_mv_o (by omega) (by omega), z_mv_o (by omega) (by omega), z_mv_o (by omega) (by omega), z_mv_o (by omega) (by omega), z_mv_o (by omega) (by omega), m_sc_ne (by omega)]
theorem z_m53_38 (h : j < 8) : z_mov I 53 (978 + j) = I 38 j := by
  rw [z_mov_53, z_mv_x (by omega), z_mv_x (by omega), z_M_53]
  unfold z_m13
  rw [z_mv_x (by omega), z_mv_x (by omega), z_mv_x (by omega), z_mv_x (by omega), z_mv_x (by omega), z_mv_i h, Nat.zero_add, z_mv_o (by omega) (by omega), z_mv_o (by omega) (by omega), z_mv_o (by omega) (by omega), z_mv_o (by omega) (by omega), z_mv_o (by omega) (by omega), z_mv_o (by omega) (by omega), z_mv_o (by omega) (by omega), m_sc_ne (by omega)]
theorem z_m53_39 (h : j < 8) : z_mov I 53 (986 + j) = I 39 j := by
  rw [z_mov_53, z_mv_x (by omega), z_mv_x (by omega), z_M_53]
  unfold z_m13
  rw [z_mv_x (by omega), z_mv_x (by omega), z_mv_x (by omega), z_mv_x (by omega), z_mv_i h, Nat.zero_add, z_mv_o (by omega) (by omega), z_mv_o (by omega) (by omega), z_mv_o (by omega) (by omega), z_mv_o (by omega) (by omega), z_mv_o (by omega) (by omega), z_mv_o (by omega) (by omega), z_mv_o (by omega) (by omega), z_mv_o (by omega) (by omega), m_sc_ne (by omega)]
theorem z_m53_40 (h : j < 60) : z_mov I 53 (994 + j) = I 40 j := by
  rw [z_mov_53, z_mv_x (by omega), z_mv_x (by omega), z_M_53]
  unfold z_m13
  rw [z_mv_x (by omega), z_mv_x (by omega), z_mv_x (by omega), z_mv_i h, Nat.zero_add, z_mv_o (by omega) (by omega), z_mv_o (by omega) (by omega), z_mv_o (by omega) (by omega), z_mv_o (by omega) (by omega), z_mv_o (by omega) (by omega), z_mv_o (by omega) (by omega), z_mv_o (by omega) (by omega), z_mv_o (by omega) (by omega), z_mv_o (by omega) (by omega), m_sc_ne (by omega)]
theorem z_m53_41 (h : j < 60) : z_mov I 53 (1054 + j) = I 41 j := by
  rw [z_mov_53, z_mv_x (by omega), z_mv_x (by omega), z_M_53]
  unfold z_m13
  rw [z_mv_x (by omega), z_mv_x (by omega), z_mv_i h, Nat.zero_add, z_mv_o (by omega) (by omega), z_mv_o (by omega) (by omega), z_mv_o (by omega) (by omega), z_mv_o (by omega) (by omega), z_mv_o (by omega) (by omega), z_mv_o (by omega) (by omega), z_mv_o (by omega) (by omega), z_mv_o (by omega) (by omega), z_mv_o (by omega) (by omega), z_mv_o (by omega) (by omega), m_sc_ne (by omega)]
theorem z_m53_42 (h : j < 60) : z_mov I 53 (1114 + j) = I 42 j := by
  rw [z_mov_53, z_mv_x (by omega), z_mv_x (by omega), z_M_53]
  unfold z_m13
  rw [z_mv_x (by omega), z_mv_i h, Nat.zero_add, z_mv_o (by omega) (by omega), z_mv_o (by omega) (by omega), z_mv_o (by omega) (by omega), z_mv_o (by omega) (by omega), z_mv_o (by omega) (by omega), z_mv_o (by omega) (by omega), z_mv_o (by omega) (by omega), z_mv_o (by omega) (by omega), z_mv_o (by omega) (by omega), z_mv_o (by omega) (by omega), z_mv_o (by omega) (by omega), m_sc_ne (by omega)]
theorem z_m53_43 (h : j < 1920) : z_mov I 53 (1174 + j) = I 43 j := by
  rw [z_mov_53, z_mv_x (by omega), z_mv_x (by omega), z_M_53]
  unfold z_m13
  rw [z_mv_i h, Nat.zero_add, z_mv_o (by omega) (by omega), z_mv_o (by omega) (by omega), z_mv_o (by omega) (by omega), z_mv_o (by omega) (by omega), z_mv_o (by omega) (by omega), z_mv_o (by omega) (by omega), z_mv_o (by omega) (by omega), z_mv_o (by omega) (by omega), z_mv_o (by omega) (by omega), z_mv_o (by omega) (by omega), z_mv_o (by omega) (by omega), z_mv_o (by omega) (by omega), m_sc_ne (by omega)]
theorem y_m13_27 {I : m_I} (h : j ≠ 41) : y_m13 I 27 j = I 27 j := by
  unfold y_m13
  rw [y_mv_27 h, y_mv_27 h, y_mv_27 h, y_mv_27 h, y_mv_27 h, y_mv_27 h, y_mv_27 h, y_mv_27 h, y_mv_27 h, y_mv_27 h, y_mv_27 h, y_mv_27 h, y_mv_27 h]
theorem y_m13_o {I : m_I} (h : k < 29 ∨ k = 34 ∨ k = 37 ∨ 43 < k) (h2 : k ≠ 27) : y_m13 I k = I k := by
  unfold y_m13
  rw [y_mv_o (by omega) h2, y_mv_o (by omega) h2, y_mv_o (by omega) h2, y_mv_o (by omega) h2, y_mv_o (by omega) h2, y_mv_o (by omega) h2, y_mv_o (by omega) h2, y_mv_o (by omega) h2, y_mv_o (by omega) h2, y_mv_o (by omega) h2, y_mv_o (by omega) h2, y_mv_o (by omega) h2, y_mv_o (by omega) h2]
theorem y_M_o (h : k < 29 ∨ k = 34 ∨ k = 37 ∨ 43 < k) (h2 : k ≠ 27) (h3 : k ≠ 52) : y_M I k = I k := by
  unfold y_M y_m2
  rw [m_sc_ne h3, m_sc_ne h3, y_m13_o h h2, m_sc_ne h2]
theorem y_M_27 (h : j ≠ 41) : y_M I 27 j = I 27 j := by
  unfold y_M y_m2
  rw [m_sc_ne (by omega), m_sc_ne (by omega), y_m13_27 h, m_sc_self, m_sc_ne h]
def y_K (I : m_I) : m_I := y_mv (y_mv (y_M I) 52 3094 0 6) 28 3100 0 612
theorem y_mov_K : y_mov I = m_sc (m_sc (y_K I) 27 (z_fl (y_K I))) 34 (z_un (y_K I 52 5) 0 6 (y_K I 34)) := by
  unfold y_mov y_m4 y_m3 y_K
  with_reducible rfl
theorem y_K_53 : y_K I 53 = I 53 := by
  unfold y_K
  rw [y_mv_o (by omega) (by omega), y_mv_o (by omega) (by omega), y_M_o (by omega) (by omega) (by omega)]
theorem y_K_52 (h : j < 6) : y_K I 52 j = I 53 (3094 + j) := by
  have q := y_mv_i (I := y_M I) (r := 52) (p := 3094) (i := 0) h (by omega)
  rw [Nat.zero_add] at q
  unfold y_K
  rw [y_mv_o (by omega) (by omega), q, y_M_o (by omega) (by omega) (by omega)]
theorem y_K_28 (h : j < 612) : y_K I 28 j = I 53 (3100 + j) := by
  have q := y_mv_i (I := y_mv (y_M I) 52 3094 0 6) (r := 28) (p := 3100) (i := 0) h (by omega)
  rw [Nat.zero_add] at q
  unfold y_K
  rw [q, y_mv_o (by omega) (by omega), y_M_o (by omega) (by omega) (by omega)]
theorem y_mov_o (h : k < 27 ∨ k = 37 ∨ (43 < k ∧ k ≠ 52)) : y_mov I k = I k := by
  rw [y_mov_K, m_sc_ne (by omega), m_sc_ne (by omega)]
  unfold y_K
  rw [y_mv_o (by omega) (by omega), y_mv_o (by omega) (by omega), y_M_o (by omega) (by omega) (by omega)]
theorem y_mov_28 (h : j < 612) : y_mov I 28 j = I 53 (3100 + j) := by
  rw [y_mov_K, m_sc_ne (by omega), m_sc_ne (by omega), y_K_28 h]
theorem y_mov_34 (h : j < 6) : y_mov I 34 j = z_bt (I 53 3099) j := by
  rw [y_mov_K, m_sc_self, z_un_i 6 0 _ (by omega) (by omega), y_K_52 (by omega)]
theorem y_mov_27 (h : j ≠ 41) (h2 : ¬ (j = 1 ∨ j = 2 ∨ j = 3 ∨ j = 4 ∨ j = 17)) : y_mov I 27 j = I 27 j := by
  rw [y_mov_K, m_sc_ne (by omega), m_sc_self]
  unfold z_fl
  rw [m_sc_ne (by omega), m_sc_ne (by omega), m_sc_ne (by omega), m_sc_ne (by omega), m_sc_ne (by omega)]
  unfold y_K
  rw [y_mv_27 h, y_mv_27 h, y_M_27 h]
theorem z_fl_n : z_fl I 1 = I 52 0 ∧ z_fl I 2 = I 52 1 ∧ z_fl I 3 = I 52 2 ∧ z_fl I 4 = I 52 3 ∧ z_fl I 17 = I 52 4 := ⟨rfl, rfl, rfl, rfl, rfl⟩
theorem y_num : y_mov I 27 1 = I 53 3094 ∧ y_mov I 27 2 = I 53 3095 ∧ y_mov I 27 3 = I 53 3096 ∧ y_mov I 27 4 = I 53 3097 ∧ y_mov I 27 17 = I 53 3098 := by
  rw [y_mov_K, m_sc_ne (by omega), m_sc_self]
  obtain ⟨a1, a2, a3, a4, a5⟩ := z_fl_n (I := y_K I)
  rw [a1, a2, a3, a4, a5, y_K_52 (by omega), y_K_52 (by omega), y_K_52 (by omega), y_K_52 (by omega), y_K_52 (by omega)]
  exact ⟨rfl, rfl, rfl, rfl, rfl⟩
theorem y_m53_29 (h : j < 6) : y_mov I 29 j = I 53 (0 + j) := by
  rw [y_mov_K, m_sc_ne (by omega), m_sc_ne (by omega)]
  unfold y_K
  rw [y_mv_o (by omega) (by omega), y_mv_o (by omega) (by omega)]
  unfold y_M y_m2
  rw [m_sc_ne (by omega), m_sc_ne (by omega)]
  have q := fun J => y_mv_i (I := J) (r := 29) (p := 0) (i := 0) h (by omega)
  simp only [Nat.zero_add] at q
  unfold y_m13
  rw [y_mv_o (by omega) (by omega), y_mv_o (by omega) (by omega), y_mv_o (by omega) (by omega), y_mv_o (by omega) (by omega), y_mv_o (by omega) (by omega), y_mv_o (by omega) (by omega), y_mv_o (by omega) (by omega), y_mv_o (by omega) (by omega), y_mv_o (by omega) (by omega), y_mv_o (by omega) (by omega), y_mv_o (by omega) (by omega), y_mv_o (by omega) (by omega), q, m_sc_ne (by omega), Nat.zero_add]
theorem y_m53_30 (h : j < 240) : y_mov I 30 j = I 53 (6 + j) := by
  rw [y_mov_K, m_sc_ne (by omega), m_sc_ne (by omega)]
  unfold y_K
  rw [y_mv_o (by omega) (by omega), y_mv_o (by omega) (by omega)]
  unfold y_M y_m2
  rw [m_sc_ne (by omega), m_sc_ne (by omega)]
  have q := fun J => y_mv_i (I := J) (r := 30) (p := 6) (i := 0) h (by omega)
  simp only [Nat.zero_add] at q
  unfold y_m13
  rw [y_mv_o (by omega) (by omega), y_mv_o (by omega) (by omega), y_mv_o (by omega) (by omega), y_mv_o (by omega) (by omega), y_mv_o (by omega) (by omega), y_mv_o (by omega) (by omega), y_mv_o (by omega) (by omega), y_mv_o (by omega) (by omega), y_mv_o (by omega) (by omega), y_mv_o (by omega) (by omega), y_mv_o (by omega) (by omega), q, y_mv_o (by omega) (by omega), m_sc_ne (by omega)]
theorem y_m53_31 (h : j < 240) : y_mov I 31 j = I 53 (246 + j) := by
  rw [y_mov_K, m_sc_ne (by omega), m_sc_ne (by omega)]
  unfold y_K
  rw [y_mv_o (by omega) (by omega), y_mv_o (by omega) (by omega)]
  unfold y_M y_m2
  rw [m_sc_ne (by omega), m_sc_ne (by omega)]
  have q := fun J => y_mv_i (I := J) (r := 31) (p := 246) (i := 0) h (by omega)
  simp only [Nat.zero_add] at q
  unfold y_m13
  rw [y_mv_o (by omega) (by omega), y_mv_o (by omega) (by omega), y_mv_o (by omega) (by omega), y_mv_o (by omega) (by omega), y_mv_o (by omega) (by omega), y_mv_o (by omega) (by omega), y_mv_o (by omega) (by omega), y_mv_o (by omega) (by omega), y_mv_o (by omega) (by omega), y_mv_o (by omega) (by omega), q, y_mv_o (by omega) (by omega), y_mv_o (by omega) (by omega), m_sc_ne (by omega)]
theorem y_m53_32 (h : j < 240) : y_mov I 32 j = I 53 (486 + j) := by
  rw [y_mov_K, m_sc_ne (by omega), m_sc_ne (by omega)]
  unfold y_K
  rw [y_mv_o (by omega) (by omega), y_mv_o (by omega) (by omega)]
  unfold y_M y_m2
  rw [m_sc_ne (by omega), m_sc_ne (by omega)]
  have q := fun J => y_mv_i (I := J) (r := 32) (p := 486) (i := 0) h (by omega)
  simp only [Nat.zero_add] at q
  unfold y_m13
  rw [y_mv_o (by omega) (by omega), y_mv_o (by omega) (by omega), y_mv_o (by omega) (by omega), y_mv_o (by omega) (by omega), y_mv_o (by omega) (by omega), y_mv_o (by omega) (by omega), y_mv_o (by omega) (by omega), y_mv_o (by omega) (by omega), y_mv_o (by omega) (by omega), q, y_mv_o (by omega) (by omega), y_mv_o (by omega) (by omega), y_mv_o (by omega) (by omega), m_sc_ne (by omega)]
theorem y_m53_33 (h : j < 240) : y_mov I 33 j = I 53 (726 + j) := by
  rw [y_mov_K, m_sc_ne (by omega), m_sc_ne (by omega)]
  unfold y_K
  rw [y_mv_o (by omega) (by omega), y_mv_o (by omega) (by omega)]
  unfold y_M y_m2
  rw [m_sc_ne (by omega), m_sc_ne (by omega)]
  have q := fun J => y_mv_i (I := J) (r := 33) (p := 726) (i := 0) h (by omega)
  simp only [Nat.zero_add] at q
  unfold y_m13
  rw [y_mv_o (by omega) (by omega), y_mv_o (by omega) (by omega), y_mv_o (by omega) (by omega), y_mv_o (by omega) (by omega), y_mv_o (by omega) (by omega), y_mv_o (by omega) (by omega), y_mv_o (by omega) (by omega), y_mv_o (by omega) (by omega), q, y_mv_o (by omega) (by omega), y_mv_o (by omega) (by omega), y_mv_o (by omega) (by omega), y_mv_o (by omega) (by omega), m_sc_ne (by omega)]
theorem y_m53_35 (h : j < 6) : y_mov I 35 j = I 53 (966 + j) := by
  rw [y_mov_K, m_sc_ne (by omega), m_sc_ne (by omega)]
  unfold y_K
  rw [y_mv_o (by omega) (by omega), y_mv_o (by omega) (by omega)]
  unfold y_M y_m2
  rw [m_sc_ne (by omega), m_sc_ne (by omega)]
  have q := fun J => y_mv_i (I := J) (r := 35) (p := 966) (i := 0) h (by omega)
  simp only [Nat.zero_add] at q
  unfold y_m13
  rw [y_mv_o (by omega) (by omega), y_mv_o (by omega) (by omega), y_mv_o (by omega) (by omega), y_mv_o (by omega) (by omega), y_mv_o (by omega) (by omega), y_mv_o (by omega) (by omega), y_mv_o (by omega) (by omega), q, y_mv_o (by omega) (by omega), y_mv_o (by omega) (by omega), y_mv_o (by omega) (by omega), y_mv_o (by omega) (by omega), y_mv_o (by omega) (by omega), m_sc_ne (by omega)]
theorem y_m53_36 (h : j < 6) : y_mov I 36 j = I 53 (972 + j) := by
  rw [y_mov_K, m_sc_ne (by omega), m_sc_ne (by omega)]
  unfold y_K
  rw [y_mv_o (by omega) (by omega), y_mv_o (by omega) (by omega)]
  unfold y_M y_m2
  rw [m_sc_ne (by omega), m_sc_ne (by omega)]
  have q := fun J => y_mv_i (I := J) (r := 36) (p := 972) (i := 0) h (by omega)
  simp only [Nat.zero_add] at q
  unfold y_m13
  rw [y_mv_o (by omega) (by omega), y_mv_o (by omega) (by omega), y_mv_o (by omega) (by omega), y_mv_o (by omega) (by omega), y_mv_o (by omega) (by omega), y_mv_o (by omega) (by omega), q, y_mv_o (by omega) (by omega), y_mv_o (by omega) (by omega), y_mv_o (by omega) (by omega), y_mv_o (by omega) (by omega), y_mv_o (by omega) (by omega), y_mv_o (by omega) (by omega), m_sc_ne (by omega)]
theorem y_m53_38 (h : j < 8) : y_mov I 38 j = I 53 (978 + j) := by
  rw [y_mov_K, m_sc_ne (by omega), m_sc_ne (by omega)]
  unfold y_K
  rw [y_mv_o (by omega) (by omega), y_mv_o (by omega) (by omega)]
  unfold y_M y_m2
  rw [m_sc_ne (by omega), m_sc_ne (by omega)]
  have q := fun J => y_mv_i (I := J) (r := 38) (p := 978) (i := 0) h (by omega)
  simp only [Nat.zero_add] at q
  unfold y_m13
  rw [y_mv_o (by omega) (by omega), y_mv_o (by omega) (by omega), y_mv_o (by omega) (by omega), y_mv_o (by omega) (by omega), y_mv_o (by omega) (by omega), q, y_mv_o (by omega) (by omega), y_mv_o (by omega) (by omega), y_mv_o (by omega) (by omega), y_mv_o (by omega) (by omega), y_mv_o (by omega) (by omega), y_mv_o (by omega) (by omega), y_mv_o (by omega) (by omega), m_sc_ne (by omega)]
theorem y_m53_39 (h : j < 8) : y_mov I 39 j = I 53 (986 + j) := by
  rw [y_mov_K, m_sc_ne (by omega), m_sc_ne (by omega)]
  unfold y_K
  rw [y_mv_o (by omega) (by omega), y_mv_o (by omega) (by omega)]
  unfold y_M y_m2
  rw [m_sc_ne (by omega), m_sc_ne (by omega)]
  have q := fun J => y_mv_i (I := J) (r := 39) (p := 986) (i := 0) h (by omega)
  simp only [Nat.zero_add] at q
  unfold y_m13
  rw [y_mv_o (by omega) (by omega), y_mv_o (by omega) (by omega), y_mv_o (by omega) (by omega), y_mv_o (by omega) (by omega), q, y_mv_o (by omega) (by omega), y_mv_o (by omega) (by omega), y_mv_o (by omega) (by omega), y_mv_o (by omega) (by omega), y_mv_o (by omega) (by omega), y_mv_o (by omega) (by omega), y_mv_o (by omega) (by omega), y_mv_o (by omega) (by omega), m_sc_ne (by omega)]
theorem y_m53_40 (h : j < 60) : y_mov I 40 j = I 53 (994 + j) := by
  rw [y_mov_K, m_sc_ne (by omega), m_sc_ne (by omega)]
  unfold y_K
  rw [y_mv_o (by omega) (by omega), y_mv_o (by omega) (by omega)]
  unfold y_M y_m2
  rw [m_sc_ne (by omega), m_sc_ne (by omega)]
  have q := fun J => y_mv_i (I := J) (r := 40) (p := 994) (i := 0) h (by omega)
  simp only [Nat.zero_add] at q
  unfold y_m13
  rw [y_mv_o (by omega) (by omega), y_mv_o (by omega) (by omega), y_mv_o (by omega) (by omega), q, y_mv_o (by omega) (by omega), y_mv_o (by omega) (by omega), y_mv_o (by omega) (by omega), y_mv_o (by omega) (by omega), y_mv_o (by omega) (by omega), y_mv_o (by omega) (by omega), y_mv_o (by omega) (by omega), y_mv_o (by omega) (by omega), y_mv_o (by omega) (by omega), m_sc_ne (by omega)]
theorem y_m53_41 (h : j < 60) : y_mov I 41 j = I 53 (1054 + j) := by
  rw [y_mov_K, m_sc_ne (by omega), m_sc_ne (by omega)]
  unfold y_K
  rw [y_mv_o (by omega) (by omega), y_mv_o (by omega) (by omega)]
  unfold y_M y_m2
  rw [m_sc_ne (by omega), m_sc_ne (by omega)]
  have q := fun J => y_mv_i (I := J) (r := 41) (p := 1054) (i := 0) h (by omega)
  simp only [Nat.zero_add] at q
  unfold y_m13
  rw [y_mv_o (by omega) (by omega), y_mv_o (by omega) (by omega), q, y_mv_o (by omega) (by omega), y_mv_o (by omega) (by omega), y_mv_o (by omega) (by omega), y_mv_o (by omega) (by omega), y_mv_o (by omega) (by omega), y_mv_o (by omega) (by omega), y_mv_o (by omega) (by omega), y_mv_o (by omega) (by omega), y_mv_o (by omega) (by omega), y_mv_o (by omega) (by omega), m_sc_ne (by omega)]
theorem y_m53_42 (h : j < 60) : y_mov I 42 j = I 53 (1114 + j) := by
  rw [y_mov_K, m_sc_ne (by omega), m_sc_ne (by omega)]
  unfold y_K
  rw [y_mv_o (by omega) (by omega), y_mv_o (by omega) (by omega)]
  unfold y_M y_m2
  rw [m_sc_ne (by omega), m_sc_ne (by omega)]
  have q := fun J => y_mv_i (I := J) (r := 42) (p := 1114) (i := 0) h (by omega)
  simp only [Nat.zero_add] at q
  unfold y_m13
  rw [y_mv_o (by omega) (by omega), q, y_mv_o (by omega) (by omega), y_mv_o (by omega) (by omega), y_mv_o (by omega) (by omega), y_mv_o (by omega) (by omega), y_mv_o (by omega) (by omega), y_mv_o (by omega) (by omega), y_mv_o (by omega) (by omega), y_mv_o (by omega) (by omega), y_mv_o (by omega) (by omega), y_mv_o (by omega) (by omega), y_mv_o (by omega) (by omega), m_sc_ne (by omega)]
theorem y_m53_43 (h : j < 1920) : y_mov I 43 j = I 53 (1174 + j) := by
  rw [y_mov_K, m_sc_ne (by omega), m_sc_ne (by omega)]
  unfold y_K
  rw [y_mv_o (by omega) (by omega), y_mv_o (by omega) (by omega)]
  unfold y_M y_m2
  rw [m_sc_ne (by omega), m_sc_ne (by omega)]
  have q := fun J => y_mv_i (I := J) (r := 43) (p := 1174) (i := 0) h (by omega)
  simp only [Nat.zero_add] at q
  unfold y_m13
  rw [q, y_mv_o (by omega) (by omega), y_mv_o (by omega) (by omega), y_mv_o (by omega) (by omega), y_mv_o (by omega) (by omega), y_mv_o (by omega) (by omega), y_mv_o (by omega) (by omega), y_mv_o (by omega) (by omega), y_mv_o (by omega) (by omega), y_mv_o (by omega) (by omega), y_mv_o (by omega) (by omega), y_mv_o (by omega) (by omega), y_mv_o (by omega) (by omega), m_sc_ne (by omega)]
end RAG
