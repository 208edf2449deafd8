/-! act and wipe: alike -/
section RZE
variable {V : m_V} {m n : Nat} {ls st : List Value} {t N M : Nat} {I I' : m_I} {R : m_R} {L L' : m_L} {e : Option Nat} {Q : Option Value → Nat → m_I → m_L → m_R → Prop}
theorem XX_cell (hT : TH N I L) (h2 : I' 2 = I 2) (h10 : I' 10 = I 10) (h11 : I' 11 = I 11) (h27 : I' 27 = I 27) (h28 : I' 28 = I 28) (h40 : I' 40 = I 40) (h41 : I' 41 = I 41) (h42 : I' 42 = I 42) (h43 : I' 43 = I 43) : rl_XX (I' 2) (I' 10) (I' 11) (I' 27) I' N (I' 2) (I' 28) (I' 27) (I' 10) (I' 11) I' := by
  rw [h2, h10, h11, h27, h28]
  exact XX_o hT.1 h40 h41 h42 h43
theorem ro_cell (hT : rl_ro I L) (h7 : I' 7 = I 7) (h8 : I' 8 = I 8) (h34 : I' 34 = I 34) (h35 : I' 35 = I 35) (h36 : I' 36 = I 36) (h9 : L' 9 = L 9) (h37 : L' 37 = L 37) : rl_ro I' L' := by
  unfold rl_ro
  rw [h7, h8, h34, h35, h36, h9, h37]
  exact hT
theorem cd_cell (hT : rl_cd I) (h4 : I' 4 = I 4) (h5 : I' 5 = I 5) (h29 : I' 29 = I 29) (h30 : I' 30 = I 30) (h31 : I' 31 = I 31) (h32 : I' 32 = I 32) (h33 : I' 33 = I 33) : rl_cd I' := by
  unfold rl_cd
  rw [h4, h5, h29, h30, h31, h32, h33]
  exact hT
theorem fs_cell (hT : rl_fs I) (h2 : I' 2 = I 2) (h38 : I' 38 = I 38) (h39 : I' 39 = I 39) : rl_fs I' := by
  unfold rl_fs
  rw [h2, h38, h39]
  exact hT
theorem TP_of (hT : TP N e I L) (hH : TH M I' L') (h0 : I' 0 = I 0) (h27 : ∀ j, 24 < j → I' 27 j = I 27 j) (h55 : I' 55 = I 55) (h61 : I' 61 = I 61) (h46 : I' 46 = I 46) (h : ∀ k, cellK k → I' k = I k) (h21 : L' 21 = L 21) (h54 : L' 54 = L 54) (hM : N ≤ M) : TP M e I' L' := by
  obtain ⟨a1, a2, a3, a4⟩ := hT
  exact ⟨hH, TR_cell a2 a3 a4 h0 h27 h55 h61 h46 h h21 h54 hM⟩
theorem rl_frs (hT : TH N I L) : decide (0 < c_begun (I 2)) = !(d_fr (I 28)) := by
  obtain ⟨c, b, k, n, _, _, _, hL, _⟩ := hT.1
  have z : ∀ u, u < 3 → I 2 (3 + u) = I 28 (150 + 154 * u) := fun u hu => by
    obtain ⟨d, o, ht⟩ := hL.2.1 u hu
    exact ht.1.1
  unfold c_begun z_beg d_fr
  rw [z 0 (by omega), z 1 (by omega), z 2 (by omega)]
  show decide (0 < (if I 28 150 = nI 0 then 0 else 1) + (if I 28 304 = nI 0 then 0 else 1) + (if I 28 458 = nI 0 then 0 else 1)) = _
  by_cases q0 : I 28 150 = nI 0 <;> by_cases q1 : I 28 304 = nI 0 <;> by_cases q2 : I 28 458 = nI 0 <;> simp [q0, q1, q2]
theorem c_isb_t {v : Int32} {l : Nat} (h : c_isb v l = true) (h0 : l ≠ 0) (hl : l < 1000) : v = nI v.toNatClampNeg ∧ v.toNatClampNeg < l := by
  obtain ⟨m, rfl⟩ : ∃ m, l = m + 1 := ⟨l - 1, by omega⟩
  rw [c_isb_in hl] at h
  obtain ⟨i, i1, rfl⟩ := (n_inx (m := m) (by omega) v).2 h
  rw [nI_clamp (by omega)]
  exact ⟨rfl, i1⟩
theorem w4 (ht : 55 ≤ t) {v v1 v2 v3 : Int32} {cc s : Nat} {a b : Nat} (hc : cc < 6) (hs : I 5 cc = nI s) (hs2 : s < 40) : WP V 4 0 (m_loc 4 [.ref 3, .int (nI cc), .int v, .int v1, .int v2, .int v3]) [] t I L (m_RR e a b) Q = Q (some (.int (nI s))) t (m_sc (m_sc I 5 (m_sc (I 5) cc (nI (s + 1)))) 4 (m_sc (m_sc (m_sc (m_sc (I 4) ((cc * 40 + s) * 4) v) ((cc * 40 + s) * 4 + 1) v1) ((cc * 40 + s) * 4 + 2) v2) ((cc * 40 + s) * 4 + 3) v3)) L (m_RR e a b) := by
  rw [show m_loc 4 [.ref 3, .int (nI cc), .int v, .int v1, .int v2, .int v3] = [.ref 3, .int (nI cc), .int v, .int v1, .int v2, .int v3, m_u, m_u] from rfl]
  have e1 : m_sc I 5 (m_sc (I 5) cc (nI (s + 1))) 5 cc = nI (s + 1) := by rw [m_sc_self, m_sc_self]
  have e2 : c_at s (s + 1) cc = nI ((cc * 40 + s) * 4) := if_pos (Nat.lt_succ_self s)
  have e4 : m_sc I 5 (m_sc (I 5) cc (nI (s + 1))) 4 = I 4 := m_sc_ne (by omega)
  simp (disch := first | assumption | omega | decide) only [nI_add, n_mul, n_sub, n_le, n_lt, n_eq, n_ne1, n_0, m_bl_t, m_bl_f, if_true, if_false, Nat.reduceAdd, Nat.reduceMul, Nat.reduceSub, Nat.reduceLeDiff, Nat.reduceEqDiff, Nat.add_zero, Nat.add_sub_cancel, Option.toList, List.cons_append, List.nil_append, i4_0, i4_1, i4_2, i4_3, i4_4, i4_5, i4_6, i4_7, i4_8, i4_9, i4_10, i4_11, i4_12, i4_13, rv_15_1, rv_3_1, hs, c3 (p := s) ht hc (by omega) e1 (by omega), e2]
  simp (disch := first | assumption | omega | decide) only [nI_add, n_mul, n_sub, n_le, n_lt, n_eq, n_ne1, n_0, m_bl_t, m_bl_f, if_true, if_false, Nat.reduceAdd, Nat.reduceMul, Nat.reduceSub, Nat.reduceLeDiff, Nat.reduceEqDiff, Nat.add_zero, Nat.add_sub_cancel, Option.toList, List.cons_append, List.nil_append, i4_14, i4_15, i4_16, i4_17, i4_18, i4_19, i4_20, i4_21, i4_22, i4_23, i4_24, i4_25, i4_26, i4_27, i4_28, i4_29, i4_30, i4_31, i4_32, i4_33, i4_34, i4_35, i4_36, i4_37, i4_38, i4_39, i4_40, i4_41, i4_42, rv_15_0, rv_3_0, e4, m_sc_self, s_scc]
theorem c4 (ht : 55 ≤ t) {v v1 v2 v3 : Int32} {cc s : Nat} {a b : Nat} (hc : cc < 6) (hs : I 5 cc = nI s) (hs2 : s < 40) : WPC V 4 [.ref 3, .int (nI cc), .int v, .int v1, .int v2, .int v3] m n ls st t I L (m_RR e a b) Q = WP V m n ls ((.int (nI s)) :: st) t (m_sc (m_sc I 5 (m_sc (I 5) cc (nI (s + 1)))) 4 (m_sc (m_sc (m_sc (m_sc (I 4) ((cc * 40 + s) * 4) v) ((cc * 40 + s) * 4 + 1) v1) ((cc * 40 + s) * 4 + 2) v2) ((cc * 40 + s) * 4 + 3) v3)) L (m_RR e a b) Q := wpc_of (fun Q => w4 ht hc hs hs2)
theorem w5_4 (ht : 55 ≤ t) {a b x q s : Nat} (hx : x < 6) (hs : I 5 x = nI s) : WP V 5 4 [.ref 3, .int (nI q), .int (nI x)] [] t I L (m_RR e a b) Q = WP V 5 4 [.ref 3, .int (nI (q + s)), .int (nI (x + 1))] [] t (m_sc I 5 (m_sc (I 5) x (nI 0))) L (m_RR e a b) Q := by
  have hx6 : ¬ 6 ≤ x := by omega
  rw [i5_4]
  simp (disch := first | assumption | omega | decide) only [nI_add, n_mul, n_sub, n_le, n_lt, n_eq, n_ne1, n_0, m_bl_t, m_bl_f, if_true, if_false, Nat.reduceAdd, Nat.reduceMul, Nat.reduceSub, Nat.reduceLeDiff, Nat.reduceEqDiff, Nat.add_zero, Nat.add_sub_cancel, Option.toList, List.cons_append, List.nil_append, i5_5, i5_6, i5_7, i5_8, i5_9, i5_10, i5_11, i5_12, i5_13, i5_14, i5_15, i5_16, i5_17, i5_18, i5_19, i5_20, rv_15_1, rv_3_1, hx6, hs]
end RZE
