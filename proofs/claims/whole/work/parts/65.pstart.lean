/-! start: alike -/
def d_clt (g : Nat → Int32) (u : Nat) : Nat → Int32 := d_clear (m_sc (d_z (150 + 154 * u) 154 g) (150 + 154 * u + 7) (g (150 + 154 * u + 7))) u
section RZK0
variable {f g h : Nat → Int32} {u v j r x k c b b2 : Nat}
theorem d_clt_o (h : j < 150 + 154 * u ∨ 150 + 154 * u + 154 ≤ j) : d_clt g u j = g j := by
  unfold d_clt
  rw [d_clear_o (by omega), m_sc_ne (by omega), d_z_o (by omega)]
theorem d_clt_7 : d_clt g u (150 + 154 * u + 7) = g (150 + 154 * u + 7) := by
  unfold d_clt
  rw [d_clear_o (by omega), m_sc_self]
theorem d_clt_0 (h : 150 + 154 * u ≤ j ∧ j < 150 + 154 * u + 154) (h7 : j ≠ 150 + 154 * u + 7) (h2 : j < 150 + 154 * u + 111 ∨ 150 + 154 * u + 151 ≤ j) : d_clt g u j = nI 0 := by
  unfold d_clt
  by_cases q : 150 + 154 * u + 101 ≤ j ∧ j < 150 + 154 * u + 111
  · exact d_clear_0 q
  · rw [d_clear_o (by omega), m_sc_ne h7, d_z_i (by omega)]
/-- a thread that has not begun, as it is made -/
theorem rl_tb_new {f' g' : Nat → Int32} (hu : u < 3) (h3 : f' (3 + u) = g' (150 + 154 * u)) (n6 : f' (6 + u) = nI 0) (n9 : f' (9 + u) = nI 0) (n12 : f' (12 + u) = nI 0) (n15 : f' (15 + u) = -1) (nr : ∀ r, r < 4 → f' (21 + 4 * u + r) = nI 0) (n561 : ∃ c, c < 6 ∧ f' (561 + u) = nI c) (nC : rl_C f' u) (hg : ∀ j, 150 + 154 * u + 1 ≤ j → j < 150 + 154 * u + 151 → g' j = d_clt g u j) (h7 : f' (561 + u) = g (150 + 154 * u + 7)) : rl_tb f' g' u c 0 0 := by
  have z : ∀ j, 150 + 154 * u + 1 ≤ j → j < 150 + 154 * u + 111 → j ≠ 150 + 154 * u + 7 → g' j = nI 0 := fun j j1 j2 j3 => (hg j j1 (by omega)).trans (d_clt_0 (by omega) j3 (by omega))
  have o : c_outer f' u = nI 0 := by unfold c_outer; rw [if_pos n15]
  refine ⟨⟨h3, n6.trans (z _ (by omega) (by omega) (by omega)).symm, n9.trans (z _ (by omega) (by omega) (by omega)).symm, ?_⟩, fun r hr => (nr r hr).trans (z _ (by omega) (by omega) (by omega)).symm, Or.inl ⟨n15, z _ (by omega) (by omega) (by omega), z _ (by omega) (by omega) (by omega)⟩, ⟨n12, z _ (by omega) (by omega) (by omega), by omega, by omega, o, z _ (by omega) (by omega) (by omega)⟩, ⟨fun _ => ⟨z _ (by omega) (by omega) (by omega), z _ (by omega) (by omega) (by omega), fun r hr => z _ (by omega) (by omega) (by omega)⟩, fun q => absurd n15 q⟩, fun x hx => ?_, fun k hk => ⟨fun q => absurd q (Nat.not_lt_zero _), fun _ i hi => z _ (by omega) (by omega) (by omega)⟩, ⟨⟨0, by omega, n6⟩, n561, fun q => absurd n15 q⟩, nC, fun _ => ⟨n6, n9, n12, n15, nr⟩, fun q => absurd n15 q⟩
  · rw [hg _ (by omega) (by omega), d_clt_7]
    exact h7
  · obtain ⟨a1, a2, a3, a4, a5⟩ := nC n15 x hx
    rw [a1, a2, a3, a4, a5, hg _ (by omega) (by omega), hg _ (by omega) (by omega), hg _ (by omega) (by omega), hg _ (by omega) (by omega), hg _ (by omega) (by omega)]
    unfold d_clt
    rw [d_clear_1 hx, d_clear_2 hx, d_clear_3 hx, d_clear_4 hx, d_clear_5 hx]
    exact ⟨rfl, rfl, rfl, rfl, rfl, Or.inl rfl⟩
theorem rl_goes (hL : rl_L f g h c b b2) (hO : rl_O f g h) (hu : u < 3) (hs : f (3 + u) = nI 0) : rl_L (m_sc f (3 + u) (nI 1)) (m_sc (d_clt g u) (150 + 154 * u) (nI 1)) h c b b2 ∧ rl_O (m_sc f (3 + u) (nI 1)) (m_sc (d_clt g u) (150 + 154 * u) (nI 1)) h := by
  have F : ∀ j, j ≠ 3 + u → m_sc f (3 + u) (nI 1) j = f j := fun j hj => m_sc_ne hj
  have G : ∀ j, j < 150 + 154 * u ∨ 150 + 154 * u + 154 ≤ j → m_sc (d_clt g u) (150 + 154 * u) (nI 1) j = g j := fun j hj => by rw [m_sc_ne (by omega), d_clt_o hj]
  obtain ⟨l1, l2, l3, l4, l5, l6⟩ := hL
  obtain ⟨d, o, a1, a2, a3, a4, a5, a6, a7, a8, a9, a10, a11⟩ := l2 u hu
  obtain ⟨n6, n9, n12, n15, nr⟩ := a10 hs
  have f15 : m_sc f (3 + u) (nI 1) (15 + u) = -1 := (F _ (by omega)).trans n15
  have hC : rl_C (m_sc f (3 + u) (nI 1)) u := rl_C_fr a9 (F _ (by omega)) (fun j j1 j2 => F j (by omega))
  have hth : rl_tb (m_sc f (3 + u) (nI 1)) (m_sc (d_clt g u) (150 + 154 * u) (nI 1)) u c 0 0 := rl_tb_new (g := g) hu (m_sc_self.trans m_sc_self.symm) ((F _ (by omega)).trans n6) ((F _ (by omega)).trans n9) ((F _ (by omega)).trans n12) f15 (fun r hr => (F _ (by omega)).trans (nr r hr)) (by rw [F _ (by omega)]; exact a8.2.1) hC (fun j j1 j2 => m_sc_ne (by omega)) ((F _ (by omega)).trans a1.2.2.2)
  refine ⟨⟨rl_gl_fr l1 (F _ (by omega)) (F _ (by omega)) (F _ (by omega)) (F _ (by omega)) (fun j j1 j2 => G j (by omega)) rfl, fun w hw => ?_, fun x hx => rl_cl_fr hx (l3 x hx) (fun j j1 j2 => F j (by omega)) (fun j j1 j2 => G j (by omega)), rl_ow_fr l4 (fun j j1 j2 => F j (by omega)) (fun u hu => F _ (by omega)), ?_, ?_⟩, ?_⟩
  · by_cases hwu : w = u
    · subst hwu
      exact ⟨0, 0, hth⟩
    · exact rl_th_fr (l2 w hw) (fun j hj => F j (by unfold rl_ci at hj; omega)) (fun j j1 j2 => G j (by omega))
  · intro z w hw z1 z2
    have hwu : w ≠ u := fun q => z1 (by rw [q]; exact f15)
    rw [F _ (by omega)] at z
    rw [F _ (by omega)] at z1
    rw [F _ (by omega)] at z2
    obtain ⟨q1, q2⟩ := l5 z w hw z1 z2
    rw [F 1 (by omega)]
    refine ⟨q1, fun x hx => ?_⟩
    rw [F _ (by omega), F _ (by omega)]
    exact q2 x hx
  · obtain ⟨g1, g2, g3⟩ := l6
    refine ⟨(F _ (by omega)).trans g1, g2, fun w hw z => ?_⟩
    have hwu : w ≠ u := fun q => z (by rw [q]; exact f15)
    rw [F _ (by omega)] at z
    obtain ⟨q1, q2, q3⟩ := g3 w hw z
    rw [F _ (by omega), G _ (by omega)]
    refine ⟨q1, q2, fun v hv z2 => ?_⟩
    have hvu : v ≠ u := fun q => z2 (by rw [q]; exact f15)
    rw [F _ (by omega)] at z2
    rw [F _ (by omega), G _ (by omega)]
    exact q3 v hv z2
  · obtain ⟨o1, o2⟩ := hO
    refine ⟨(F _ (by omega)).trans o1, fun w hw => ?_⟩
    obtain ⟨p1, p2, p3, p4⟩ := o2 w hw
    rw [F _ (by omega), F _ (by omega), F _ (by omega)]
    by_cases hwu : w = u
    · subst hwu
      obtain ⟨r1, r2, r3⟩ := p4 hs
      rw [m_sc_ne (by omega), m_sc_ne (by omega), m_sc_ne (by omega), d_clt_0 (by omega) (by omega) (by omega), d_clt_0 (by omega) (by omega) (by omega), d_clt_0 (by omega) (by omega) (by omega), m_sc_self]
      exact ⟨r1, r2, r3, fun q => absurd q (by decide)⟩
    · rw [G _ (by omega), G _ (by omega), G _ (by omega), F _ (by omega)]
      exact ⟨p1, p2, p3, p4⟩
end RZK0
section RZK
variable {V : m_V} {m n : Nat} {ls st : List Value} {t N M : Nat} {I I' : m_I} {R : m_R} {L L' : m_L} {e : Option Nat} {b u : Nat} {Q : Option Value → Nat → m_I → m_L → m_R → Prop}
theorem mM_sc {G : Nat → Int32} : mM I 28 G (I 27) I = m_sc I 28 G := by
  funext k
  unfold mM
  by_cases h1 : k = 28
  · subst h1; rw [if_pos rfl, m_sc_self]
  · rw [if_neg h1, m_sc_ne h1]
    by_cases h2 : k = 27
    · subst h2; rw [if_pos rfl]
    · rw [if_neg h2]
      by_cases h3 : 40 ≤ k ∧ k ≤ 44
      · rw [if_pos h3]
      · rw [if_neg h3]
theorem w116s (ht : 55 ≤ t) (hu : u < 3) : WP V 116 0 (m_loc 116 [.ref 27, .int (nI u)]) [] t I L (m_RR e 28 b) Q = Q none t (m_sc I 28 (d_clear (I 28) u)) L (m_RR e 28 b) := by
  have q := w116 (V := V) (L := L) (e := e) (b := b) (Q := Q) (J := I) (g := I 28) (h := I 27) (o := I) ht hu aa28
  rw [mM_self, mM_sc] at q
  exact q
theorem c116s (ht : 55 ≤ t) (hu : u < 3) : WPC V 116 [.ref 27, .int (nI u)] m n ls st t I L (m_RR e 28 b) Q = WP V m n ls st t (m_sc I 28 (d_clear (I 28) u)) L (m_RR e 28 b) Q := wpc_of (fun Q => w116s ht hu)
theorem w115_12 (ht : 55 ≤ t) (hu : u < 3) {y : Int32} : ∀ c x, x + c = 154 → WP V 115 12 [.ref 27, .int (nI u), .int (nI (150 + 154 * u)), .int y, .int (nI x)] [] t (m_sc I 28 (d_z (150 + 154 * u) x (I 28))) L (m_RR e 28 b) Q = WP V 115 24 [.ref 27, .int (nI u), .int (nI (150 + 154 * u)), .int y, .int (nI 154)] [] t (m_sc I 28 (d_z (150 + 154 * u) 154 (I 28))) L (m_RR e 28 b) Q := by
  have hA := aa28
  intro c
  induction c with
  | zero =>
    intro x hx
    obtain rfl : x = 154 := by omega
    have hh : 154 ≤ 154 := Nat.le_refl _
    rw [i115_12]
    simp (disch := first | assumption | omega | decide) only [nI_add, n_mul, n_sub, n_le, n_lt, n_eq, n_ne1, n_0, m_bl_t, m_bl_f, if_true, if_false, Nat.reduceAdd, Nat.reduceMul, Nat.reduceSub, Nat.reduceLeDiff, Nat.reduceEqDiff, Nat.add_zero, Nat.add_sub_cancel, Option.toList, List.cons_append, List.nil_append, i115_13, i115_14, hh]
  | succ c ih =>
    intro x hx
    have hh : ¬ 154 ≤ x := by omega
    have hj : 150 + 154 * u + x < 612 := by omega
    rw [i115_12]
    simp (disch := first | assumption | omega | decide) only [nI_add, n_mul, n_sub, n_le, n_lt, n_eq, n_ne1, n_0, m_bl_t, m_bl_f, if_true, if_false, Nat.reduceAdd, Nat.reduceMul, Nat.reduceSub, Nat.reduceLeDiff, Nat.reduceEqDiff, Nat.add_zero, Nat.add_sub_cancel, Option.toList, List.cons_append, List.nil_append, i115_13, i115_14, i115_15, i115_16, i115_17, i115_18, i115_19, i115_20, i115_21, i115_22, i115_23, rv_27_0, hh, m_sc_self, s_scc, d_z1]
    exact ih (x + 1) (by omega)
theorem w115 (ht : 55 ≤ t) (hu : u < 3) : WP V 115 0 (m_loc 115 [.ref 27, .int (nI u)]) [] t I L (m_RR e 28 b) Q = Q none t (m_sc I 28 (d_clt (I 28) u)) L (m_RR e 28 b) := by
  have hA := aa28
  rw [show m_loc 115 [.ref 27, .int (nI u)] = [.ref 27, .int (nI u), m_u, m_u, m_u] from rfl]
  have hz := w115_12 (V := V) (I := I) (L := L) (e := e) (b := b) (Q := Q) (y := I 28 (150 + 154 * u + 7)) ht hu 154 0 rfl
  rw [d_z0, sc_id] at hz
  simp (disch := first | assumption | omega | decide) only [nI_add, n_mul, n_sub, n_le, n_lt, n_eq, n_ne1, n_0, m_bl_t, m_bl_f, if_true, if_false, Nat.reduceAdd, Nat.reduceMul, Nat.reduceSub, Nat.reduceLeDiff, Nat.reduceEqDiff, Nat.add_zero, Nat.add_sub_cancel, Option.toList, List.cons_append, List.nil_append, i115_0, i115_1, i115_2, i115_3, i115_4, i115_5, i115_6, i115_7, i115_8, i115_9, i115_10, i115_11, rv_27_0, c113]
  refine Eq.trans hz ?_
  simp (disch := first | assumption | omega | decide) only [nI_add, n_mul, n_sub, n_le, n_lt, n_eq, n_ne1, n_0, m_bl_t, m_bl_f, if_true, if_false, Nat.reduceAdd, Nat.reduceMul, Nat.reduceSub, Nat.reduceLeDiff, Nat.reduceEqDiff, Nat.add_zero, Nat.add_sub_cancel, Option.toList, List.cons_append, List.nil_append, i115_24, i115_25, i115_26, i115_27, i115_28, i115_29, i115_30, i115_31, i115_32, rv_27_0, m_sc_self, s_scc]
  simp (disch := first | assumption | omega | decide) only [nI_add, n_mul, n_sub, n_le, n_lt, n_eq, n_ne1, n_0, m_bl_t, m_bl_f, if_true, if_false, Nat.reduceAdd, Nat.reduceMul, Nat.reduceSub, Nat.reduceLeDiff, Nat.reduceEqDiff, Nat.add_zero, Nat.add_sub_cancel, Option.toList, List.cons_append, List.nil_append, i115_33, i115_34, c116s ht hu, m_sc_self, s_scc]
  rfl
theorem c115 (ht : 55 ≤ t) (hu : u < 3) : WPC V 115 [.ref 27, .int (nI u)] m n ls st t I L (m_RR e 28 b) Q = WP V m n ls st t (m_sc I 28 (d_clt (I 28) u)) L (m_RR e 28 b) Q := wpc_of (fun Q => w115 ht hu)
theorem p_start (hT : TP N e I L) (ht : 55 ≤ t) (v0 : Int32) : pair_ok V t e N I L 94 [.int v0] 134 [.int v0] := by
  obtain ⟨i1, i2⟩ := n_inx (m := 2) (by omega) v0
  have eC : m_loc 94 (.ref 0 :: [.int v0]) = [.ref 0, .int v0] := rfl
  have eD : m_loc 134 (.ref 27 :: [.int v0]) = [.ref 27, .int v0] := rfl
  have hA := aa28
  cases hin : d_in v0 (nI 0) (nI 2)
  · rw [hin] at i1
    refine pair_v (v := .int (-101)) hT (fun Q => ?_) (fun Q => ?_)
    · rw [eC]
      simp (disch := first | assumption | omega | decide) only [nI_add, n_mul, n_sub, n_le, n_lt, n_eq, n_ne1, n_0, m_bl_t, m_bl_f, if_true, if_false, Nat.reduceAdd, Nat.reduceMul, Nat.reduceSub, Nat.reduceLeDiff, Nat.reduceEqDiff, Nat.add_zero, Nat.add_sub_cancel, Option.toList, List.cons_append, List.nil_append, i94_0, i94_1, i94_2, i94_3, i94_4, i94_5, c109, b_0, ← i1]
    · rw [eD]
      simp (disch := first | assumption | omega | decide) only [nI_add, n_mul, n_sub, n_le, n_lt, n_eq, n_ne1, n_0, m_bl_t, m_bl_f, if_true, if_false, Nat.reduceAdd, Nat.reduceMul, Nat.reduceSub, Nat.reduceLeDiff, Nat.reduceEqDiff, Nat.add_zero, Nat.add_sub_cancel, Option.toList, List.cons_append, List.nil_append, i134_0, i134_1, i134_2, i134_3, i134_4, c122, b_0, hin]
  · obtain ⟨u, hu, rfl⟩ := i2 hin
    have hu3 : u < 3 := by omega
    have hb : (decide (0 ≤ u) && decide (u < 3)) = true := by simp [hu3]
    obtain ⟨c, b, k, n, c1, b1, k1, hL, n3, h5, hNt, hO⟩ := XX_get hT.1.1
    obtain ⟨d, o, a1, arest⟩ := hL.2.1 u hu3
    by_cases hs : I 2 (3 + u) = nI 0
    · have hs2 : I 28 (150 + 154 * u) = nI 0 := a1.1.symm.trans hs
      have O : ∀ k, k ≠ 2 → k ≠ 28 → m_sc (m_sc I 2 (m_sc (I 2) (3 + u) (nI 1))) 28 (m_sc (d_clt (I 28) u) (150 + 154 * u) (nI 1)) k = I k := fun k h1 h2 => by rw [m_sc_ne h2, m_sc_ne h1]
      refine ⟨.int (nI 0), m_sc I 2 (m_sc (I 2) (3 + u) (nI 1)), L, m_sc (m_sc I 2 (m_sc (I 2) (3 + u) (nI 1))) 28 (m_sc (d_clt (I 28) u) (150 + 154 * u) (nI 1)), L, fun Q => ?_, fun Q => ?_, ?_⟩
      · rw [eC]
        simp (disch := first | assumption | omega | decide) only [nI_add, n_mul, n_sub, n_le, n_lt, n_eq, n_ne1, n_0, m_bl_t, m_bl_f, if_true, if_false, Nat.reduceAdd, Nat.reduceMul, Nat.reduceSub, Nat.reduceLeDiff, Nat.reduceEqDiff, Nat.add_zero, Nat.add_sub_cancel, Option.toList, List.cons_append, List.nil_append, i94_0, i94_1, i94_2, i94_3, i94_6, i94_7, i94_8, i94_9, i94_10, i94_11, i94_12, i94_13, rv_0_0, rv_13_0, rv_1_0, c109, b_0, hb, Bool.true_eq_false, hs]
        simp (disch := first | assumption | omega | decide) only [nI_add, n_mul, n_sub, n_le, n_lt, n_eq, n_ne1, n_0, m_bl_t, m_bl_f, if_true, if_false, Nat.reduceAdd, Nat.reduceMul, Nat.reduceSub, Nat.reduceLeDiff, Nat.reduceEqDiff, Nat.add_zero, Nat.add_sub_cancel, Option.toList, List.cons_append, List.nil_append, i94_16, i94_17, i94_18, i94_19, i94_20, i94_21, i94_22, i94_23, i94_24, i94_25, rv_0_0, rv_13_0, rv_1_0]
      · rw [eD]
        have e28 : m_sc I 2 (m_sc (I 2) (3 + u) (nI 1)) 28 = I 28 := m_sc_ne (by omega)
        simp (disch := first | assumption | omega | decide) only [nI_add, n_mul, n_sub, n_le, n_lt, n_eq, n_ne1, n_0, m_bl_t, m_bl_f, if_true, if_false, Nat.reduceAdd, Nat.reduceMul, Nat.reduceSub, Nat.reduceLeDiff, Nat.reduceEqDiff, Nat.add_zero, Nat.add_sub_cancel, Option.toList, List.cons_append, List.nil_append, i134_0, i134_1, i134_2, i134_5, i134_6, i134_7, i134_8, i134_9, i134_10, i134_11, i134_12, rv_27_0, c122, c113, b_0, hin, Bool.true_eq_false, e28, hs2]
        simp (disch := first | assumption | omega | decide) only [nI_add, n_mul, n_sub, n_le, n_lt, n_eq, n_ne1, n_0, m_bl_t, m_bl_f, if_true, if_false, Nat.reduceAdd, Nat.reduceMul, Nat.reduceSub, Nat.reduceLeDiff, Nat.reduceEqDiff, Nat.add_zero, Nat.add_sub_cancel, Option.toList, List.cons_append, List.nil_append, i134_15, i134_16, i134_17, c115 ht hu3, e28]
        simp (disch := first | assumption | omega | decide) only [nI_add, n_mul, n_sub, n_le, n_lt, n_eq, n_ne1, n_0, m_bl_t, m_bl_f, if_true, if_false, Nat.reduceAdd, Nat.reduceMul, Nat.reduceSub, Nat.reduceLeDiff, Nat.reduceEqDiff, Nat.add_zero, Nat.add_sub_cancel, Option.toList, List.cons_append, List.nil_append, i134_18, i134_19, i134_20, i134_21, i134_22, i134_23, i134_24, i134_25, i134_26, i134_27, rv_27_0, c113, m_sc_self, s_scc]
      · have q2 : m_sc (m_sc I 2 (m_sc (I 2) (3 + u) (nI 1))) 28 (m_sc (d_clt (I 28) u) (150 + 154 * u) (nI 1)) 2 = m_sc (I 2) (3 + u) (nI 1) := by rw [m_sc_ne (by omega), m_sc_self]
        have q28 : m_sc (m_sc I 2 (m_sc (I 2) (3 + u) (nI 1))) 28 (m_sc (d_clt (I 28) u) (150 + 154 * u) (nI 1)) 28 = m_sc (d_clt (I 28) u) (150 + 154 * u) (nI 1) := m_sc_self
        obtain ⟨hL', hO'⟩ := rl_goes hL hO hu3 hs
        have hX : rl_XX (m_sc (I 2) (3 + u) (nI 1)) (I 10) (I 11) (I 27) I N (m_sc (I 2) (3 + u) (nI 1)) (m_sc (d_clt (I 28) u) (150 + 154 * u) (nI 1)) (I 27) (I 10) (I 11) I := XX_mk c1 b1 k1 hL' n3 h5 hNt hO'
        refine TP_of hT ⟨?_, ro_cell hT.1.2.1 (O _ (by omega) (by omega)) (O _ (by omega) (by omega)) (O _ (by omega) (by omega)) (O _ (by omega) (by omega)) (O _ (by omega) (by omega)) rfl rfl, cd_cell hT.1.2.2.1 (O _ (by omega) (by omega)) (O _ (by omega) (by omega)) (O _ (by omega) (by omega)) (O _ (by omega) (by omega)) (O _ (by omega) (by omega)) (O _ (by omega) (by omega)) (O _ (by omega) (by omega)), fun x hx => ?_⟩ (O _ (by omega) (by omega)) (fun j hj => by rw [O 27 (by omega) (by omega)]) (O _ (by omega) (by omega)) (O _ (by omega) (by omega)) (O _ (by omega) (by omega)) (fun k hk => O _ (by unfold cellK at hk; omega) (by unfold cellK at hk; omega)) rfl rfl (Nat.le_add_right _ _)
        · rw [q2, q28, O 10 (by omega) (by omega), O 11 (by omega) (by omega), O 27 (by omega) (by omega)]
          exact rl_XX_le (XX_o hX (O _ (by omega) (by omega)) (O _ (by omega) (by omega)) (O _ (by omega) (by omega)) (O _ (by omega) (by omega))) (Nat.le_add_right _ _)
        · rw [q2, O 38 (by omega) (by omega), O 39 (by omega) (by omega), m_sc_ne (by omega), m_sc_ne (by omega)]
          exact hT.1.2.2.2 x hx
    · have hs2 : ¬ I 28 (150 + 154 * u) = nI 0 := fun q => hs (a1.1.trans q)
      refine pair_v (v := .int (-103)) hT (fun Q => ?_) (fun Q => ?_)
      · rw [eC]
        simp (disch := first | assumption | omega | decide) only [nI_add, n_mul, n_sub, n_le, n_lt, n_eq, n_ne1, n_0, m_bl_t, m_bl_f, if_true, if_false, Nat.reduceAdd, Nat.reduceMul, Nat.reduceSub, Nat.reduceLeDiff, Nat.reduceEqDiff, Nat.add_zero, Nat.add_sub_cancel, Option.toList, List.cons_append, List.nil_append, i94_0, i94_1, i94_2, i94_3, i94_6, i94_7, i94_8, i94_9, i94_10, i94_11, i94_12, i94_13, i94_14, i94_15, rv_0_0, rv_13_0, rv_1_0, c109, b_0, hb, Bool.true_eq_false, hs]
      · rw [eD]
        simp (disch := first | assumption | omega | decide) only [nI_add, n_mul, n_sub, n_le, n_lt, n_eq, n_ne1, n_0, m_bl_t, m_bl_f, if_true, if_false, Nat.reduceAdd, Nat.reduceMul, Nat.reduceSub, Nat.reduceLeDiff, Nat.reduceEqDiff, Nat.add_zero, Nat.add_sub_cancel, Option.toList, List.cons_append, List.nil_append, i134_0, i134_1, i134_2, i134_5, i134_6, i134_7, i134_8, i134_9, i134_10, i134_11, i134_12, i134_13, i134_14, rv_27_0, c122, c113, b_0, hin, Bool.true_eq_false, hs2]
end RZK
