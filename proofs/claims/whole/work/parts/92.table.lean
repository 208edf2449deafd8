/-! explore: the table of houses that were met -/
section RBD
variable {V : m_V} {t m n : Nat} {ls st : List Value} {I J : m_I} {L : m_L} {R : m_R} {e : Option Nat} {a b : Nat} {Q : Option Value → Nat → m_I → m_L → m_R → Prop} {u x k s c i y d : Nat} {p f tb hs mt : Nat → Int32} {h : Int32}
theorem n_a10 : ∀ s, s < 1024 → nI (s + 1) &&& nI 1023 = nI ((s + 1) % 1024) := by
  have key : ∀ a : Fin 1024, nI (a.val + 1) &&& nI 1023 = nI ((a.val + 1) % 1024) := by decide +kernel
  exact fun s hs => key ⟨s, hs⟩
theorem n_a1023 (z : Int32) : ∃ j, j < 1024 ∧ z &&& nI 1023 = nI j := by
  refine ⟨(z.toBitVec &&& 1023#32).toNat, ?_, ?_⟩
  · rw [BitVec.toNat_and]
    exact Nat.lt_of_le_of_lt Nat.and_le_right (by decide)
  · apply Int32.toBitVec_inj.1
    rw [Int32.toBitVec_and, show (nI 1023).toBitVec = 1023#32 from rfl]
    show _ = BitVec.ofNat 32 _
    rw [BitVec.ofNat_toNat, BitVec.setWidth_eq]
/-- how many places below k are taken -/
def z_ct (f : Nat → Int32) : Nat → Nat
  | 0 => 0
  | k + 1 => z_ct f k + (if f k = nI 0 then 0 else 1)
theorem z_ct_0 : ∀ k, (∀ j, j < k → f j = nI 0) → z_ct f k = 0 := by
  intro k
  induction k with
  | zero => intro _; rfl
  | succ k ih =>
    intro h
    show z_ct f k + (if f k = nI 0 then 0 else 1) = 0
    rw [ih (fun j hj => h j (by omega)), if_pos (h k (by omega))]
theorem z_ct_all : ∀ k, (∀ j, j < k → ¬ f j = nI 0) → z_ct f k = k := by
  intro k
  induction k with
  | zero => intro _; rfl
  | succ k ih =>
    intro h
    show z_ct f k + (if f k = nI 0 then 0 else 1) = k + 1
    rw [ih (fun j hj => h j (by omega)), if_neg (h k (by omega))]
theorem z_ct_lo {v : Int32} : ∀ k, k ≤ s → z_ct (m_sc f s v) k = z_ct f k := by
  intro k
  induction k with
  | zero => intro _; rfl
  | succ k ih =>
    intro h
    show z_ct (m_sc f s v) k + (if m_sc f s v k = nI 0 then 0 else 1) = z_ct f k + (if f k = nI 0 then 0 else 1)
    rw [ih (by omega), m_sc_ne (by omega)]
theorem z_ct_put {v : Int32} (h0 : f s = nI 0) (hv : ¬ v = nI 0) : ∀ k, s < k → z_ct (m_sc f s v) k = z_ct f k + 1 := by
  intro k
  induction k with
  | zero => intro h; omega
  | succ k ih =>
    intro h
    show z_ct (m_sc f s v) k + (if m_sc f s v k = nI 0 then 0 else 1) = z_ct f k + (if f k = nI 0 then 0 else 1) + 1
    by_cases hk : k = s
    · subst hk
      rw [z_ct_lo k (Nat.le_refl _), m_sc_self, if_neg hv, if_pos h0]
    · rw [ih (by omega), m_sc_ne hk]
      omega
def z_E (tb : Nat → Int32) (s : Nat) : Nat := (tb s - nI 1).toNatClampNeg
/-- the search from a place on -/
def z_fd (tb hs mt f : Nat → Int32) (h : Int32) : Nat → Nat → Bool × Nat
  | 0, s => (false, s)
  | c + 1, s => if tb s = nI 0 then (false, s) else if hs (z_E tb s) = h ∧ z_lb mt f (z_E tb s * 581) = true then (true, s) else z_fd tb hs mt f h c ((s + 1) % 1024)
theorem z_fd_t : ∀ c s, (z_fd tb hs mt f h c s).1 = true → s < 1024 → ∃ s', s' < 1024 ∧ ¬ tb s' = nI 0 ∧ z_lb mt f (z_E tb s' * 581) = true := by
  intro c
  induction c with
  | zero => intro s q; exact absurd q Bool.false_ne_true
  | succ c ih =>
    intro s q hs4
    unfold z_fd at q
    by_cases h1 : tb s = nI 0
    · rw [if_pos h1] at q; exact absurd q Bool.false_ne_true
    · rw [if_neg h1] at q
      by_cases h2 : hs (z_E tb s) = h ∧ z_lb mt f (z_E tb s * 581) = true
      · exact ⟨s, hs4, h1, h2.2⟩
      · rw [if_neg h2] at q
        exact ih _ q (Nat.mod_lt _ (by omega))
theorem z_fd_f : ∀ c s, s < 1024 → (z_fd tb hs mt f h c s).1 = false → (∃ d, d < c ∧ (z_fd tb hs mt f h c s).2 = (s + d) % 1024 ∧ tb ((s + d) % 1024) = nI 0 ∧ ∀ d', d' < d → ¬ tb ((s + d') % 1024) = nI 0) ∨ ∀ d', d' < c → ¬ tb ((s + d') % 1024) = nI 0 := by
  intro c
  induction c with
  | zero => intro s _ _; exact Or.inr (fun d' q => by omega)
  | succ c ih =>
    intro s hs4 q
    have e0 : (s + 0) % 1024 = s := by rw [Nat.add_zero]; exact Nat.mod_eq_of_lt hs4
    unfold z_fd at q ⊢
    by_cases h1 : tb s = nI 0
    · rw [if_pos h1]
      exact Or.inl ⟨0, by omega, e0.symm, by rw [e0]; exact h1, fun d' q => by omega⟩
    · rw [if_neg h1] at q ⊢
      by_cases h2 : hs (z_E tb s) = h ∧ z_lb mt f (z_E tb s * 581) = true
      · rw [if_pos h2] at q; exact absurd q.symm Bool.false_ne_true
      · rw [if_neg h2] at q ⊢
        have e1 : ∀ d, ((s + 1) % 1024 + d) % 1024 = (s + (d + 1)) % 1024 := fun d => by omega
        rcases ih _ (Nat.mod_lt _ (by omega)) q with ⟨d, d1, d2, d3, d4⟩ | d4
        · rw [e1 d] at d2 d3
          refine Or.inl ⟨d + 1, by omega, d2, d3, fun d' hd => ?_⟩
          by_cases hd0 : d' = 0
          · rw [hd0, e0]; exact h1
          · have := d4 (d' - 1) (by omega)
            rw [e1 (d' - 1), show d' - 1 + 1 = d' by omega] at this
            exact this
        · refine Or.inr (fun d' hd => ?_)
          by_cases hd0 : d' = 0
          · rw [hd0, e0]; exact h1
          · have := d4 (d' - 1) (by omega)
            rw [e1 (d' - 1), show d' - 1 + 1 = d' by omega] at this
            exact this
theorem z_fd_c {E : Nat} : ∀ d c s, s < 1024 → d < c → (∀ d', d' < d → ¬ tb ((s + d') % 1024) = nI 0) → ¬ tb ((s + d) % 1024) = nI 0 → z_E tb ((s + d) % 1024) = E → hs E = h → z_lb mt f (E * 581) = true → (z_fd tb hs mt f h c s).1 = true := by
  intro d
  induction d with
  | zero =>
    intro c s hs4 hc _ h2 h3 h4 h5
    obtain ⟨c, rfl⟩ : ∃ c', c = c' + 1 := ⟨c - 1, by omega⟩
    have e0 : (s + 0) % 1024 = s := by rw [Nat.add_zero]; exact Nat.mod_eq_of_lt hs4
    rw [e0] at h2 h3
    unfold z_fd
    rw [if_neg h2, h3, if_pos ⟨h4, h5⟩]
  | succ d ih =>
    intro c s hs4 hc h1 h2 h3 h4 h5
    obtain ⟨c, rfl⟩ : ∃ c', c = c' + 1 := ⟨c - 1, by omega⟩
    have e0 : (s + 0) % 1024 = s := by rw [Nat.add_zero]; exact Nat.mod_eq_of_lt hs4
    have e1 : ∀ d, ((s + 1) % 1024 + d) % 1024 = (s + (d + 1)) % 1024 := fun d => by omega
    have q := h1 0 (by omega)
    rw [e0] at q
    unfold z_fd
    rw [if_neg q]
    by_cases h6 : hs (z_E tb s) = h ∧ z_lb mt f (z_E tb s * 581) = true
    · rw [if_pos h6]
    · rw [if_neg h6]
      refine ih c _ (Nat.mod_lt _ (by omega)) (by omega) (fun d' hd => ?_) ?_ ?_ h4 h5
      · rw [e1]; exact h1 (d' + 1) (by omega)
      · rw [e1]; exact h2
      · rw [e1]; exact h3
theorem w35_11 (ht : 62 ≤ t) {N : Nat} (hD : z_D4 (I 2)) (hy : y ≤ 400) (htb : ∀ s, s < 1024 → ∃ E, E ≤ y ∧ I 60 s = nI E) : ∀ c d s (w5 : Value), d + c = 1024 → s < 1024 → ∃ (w4 : Int32) (w6 : Value), ∀ Q, WP V 35 11 [.ref 55, .int (nI N), .int h, .int (nI s), .int (nI d), w5] [] t I L (m_RR e a b) Q = if (z_fd (I 60) (I 58) (I 57) (I 2) h c s).1 = true then Q (some (.int (nI 1))) t I L (m_RR e a b) else WP V 35 48 [.ref 55, .int (nI N), .int h, .int (nI (z_fd (I 60) (I 58) (I 57) (I 2) h c s).2), .int w4, w6] [] t I L (m_RR e a b) Q := by
  intro c
  have ff : ¬ (false = true) := by decide
  induction c with
  | zero =>
    intro d s w5 hd hs4
    obtain rfl : d = 1024 := by omega
    refine ⟨nI 1024, w5, fun Q => ?_⟩
    unfold z_fd
    rw [if_neg ff, i35_11]
    simp (disch := first | assumption | omega | decide) only [nI_add, n_mul, n_sub, n_le, n_lt, n_eq, n_ne1, n_0, m_bl_t, m_bl_f, if_true, if_false, Nat.reduceAdd, Nat.reduceMul, Nat.reduceSub, Nat.reduceLeDiff, Nat.reduceEqDiff, Nat.add_zero, Nat.add_sub_cancel, Option.toList, List.cons_append, List.nil_append, i35_12, i35_13, Nat.le_refl]
  | succ c ih =>
    intro d s w5 hd hs4
    have hd4 : ¬ 1024 ≤ d := by omega
    obtain ⟨E, hE, hE2⟩ := htb s hs4
    have hand := n_a10 s hs4
    unfold z_fd
    by_cases h0 : E = 0
    · subst h0
      refine ⟨nI d, w5, fun Q => ?_⟩
      rw [if_pos hE2, if_neg ff, i35_11]
      simp (disch := first | assumption | omega | decide) only [nI_add, n_mul, n_sub, n_le, n_lt, n_eq, n_ne1, n_0, m_bl_t, m_bl_f, if_true, if_false, Nat.reduceAdd, Nat.reduceMul, Nat.reduceSub, Nat.reduceLeDiff, Nat.reduceEqDiff, Nat.add_zero, Nat.add_sub_cancel, Option.toList, List.cons_append, List.nil_append, i35_12, i35_13, i35_14, i35_15, i35_16, i35_17, i35_18, rv_55_7, hd4, hE2]
    · obtain ⟨E, rfl⟩ : ∃ E', E = E' + 1 := ⟨E - 1, by omega⟩
      have n0 : ¬ E + 1 = 0 := by omega
      have hz : z_E (I 60) s = E := by unfold z_E; rw [hE2, n_sub (by omega), nI_clamp (by omega)]; omega
      have nz : ¬ I 60 s = nI 0 := by rw [hE2, n_eq (by omega) (by omega)]; omega
      have hsl : E * 581 + 581 ≤ 232400 := by omega
      have c1 : ∀ {m n : Nat} {ls st : List Value} {Q : Option Value → Nat → m_I → m_L → m_R → Prop}, WPC V 39 [.ref 55, .int (nI (E * 581))] m n ls st t I L (m_RR e a b) Q = WP V m n ls (.int (m_bl (z_lb (I 57) (I 2) (E * 581))) :: st) t I L (m_RR e a b) Q := fun {m n ls st Q} => c39 ht hsl hD
      rw [if_neg nz, hz]
      by_cases h1 : I 58 E = h
      · cases h2 : z_lb (I 57) (I 2) (E * 581)
        · obtain ⟨w4, w6, hw⟩ := ih (d + 1) ((s + 1) % 1024) (.int (nI E)) (by omega) (Nat.mod_lt _ (by omega))
          refine ⟨w4, w6, fun Q => ?_⟩
          have n2 : ¬ (I 58 E = h ∧ false = true) := fun q => ff q.2
          rw [if_neg n2, ← hw Q, i35_11]
          simp (disch := first | assumption | omega | decide) only [nI_add, n_mul, n_sub, n_le, n_lt, n_eq, n_ne1, n_0, m_bl_t, m_bl_f, if_true, if_false, Nat.reduceAdd, Nat.reduceMul, Nat.reduceSub, Nat.reduceLeDiff, Nat.reduceEqDiff, Nat.add_zero, Nat.add_sub_cancel, Option.toList, List.cons_append, List.nil_append, i35_12, i35_13, i35_14, i35_15, i35_16, i35_17, i35_18, i35_19, i35_20, i35_21, i35_22, i35_23, i35_24, i35_25, i35_26, i35_27, i35_28, i35_29, i35_30, rv_55_5, rv_55_7, hd4, hE2, n0]
          rw [i35_31, if_pos h1]
          simp (disch := first | assumption | omega | decide) only [nI_add, n_mul, n_sub, n_le, n_lt, n_eq, n_ne1, n_0, m_bl_t, m_bl_f, if_true, if_false, Nat.reduceAdd, Nat.reduceMul, Nat.reduceSub, Nat.reduceLeDiff, Nat.reduceEqDiff, Nat.add_zero, Nat.add_sub_cancel, Option.toList, List.cons_append, List.nil_append, i35_32, i35_33, i35_34, i35_35, i35_36, i35_37, i35_40, i35_41, i35_42, i35_43, i35_44, i35_45, i35_46, i35_47, c1, h2, b_0, hand]
        · refine ⟨0, m_u, fun Q => ?_⟩
          have p2 : I 58 E = h ∧ true = true := ⟨h1, rfl⟩
          rw [if_pos p2, if_pos rfl, i35_11]
          simp (disch := first | assumption | omega | decide) only [nI_add, n_mul, n_sub, n_le, n_lt, n_eq, n_ne1, n_0, m_bl_t, m_bl_f, if_true, if_false, Nat.reduceAdd, Nat.reduceMul, Nat.reduceSub, Nat.reduceLeDiff, Nat.reduceEqDiff, Nat.add_zero, Nat.add_sub_cancel, Option.toList, List.cons_append, List.nil_append, i35_12, i35_13, i35_14, i35_15, i35_16, i35_17, i35_18, i35_19, i35_20, i35_21, i35_22, i35_23, i35_24, i35_25, i35_26, i35_27, i35_28, i35_29, i35_30, rv_55_5, rv_55_7, hd4, hE2, n0]
          rw [i35_31, if_pos h1]
          simp (disch := first | assumption | omega | decide) only [nI_add, n_mul, n_sub, n_le, n_lt, n_eq, n_ne1, n_0, m_bl_t, m_bl_f, if_true, if_false, Nat.reduceAdd, Nat.reduceMul, Nat.reduceSub, Nat.reduceLeDiff, Nat.reduceEqDiff, Nat.add_zero, Nat.add_sub_cancel, Option.toList, List.cons_append, List.nil_append, i35_32, i35_33, i35_34, i35_35, i35_36, i35_37, i35_38, i35_39, c1, h2, b_0, Bool.true_eq_false]
      · obtain ⟨w4, w6, hw⟩ := ih (d + 1) ((s + 1) % 1024) (.int (nI E)) (by omega) (Nat.mod_lt _ (by omega))
        refine ⟨w4, w6, fun Q => ?_⟩
        have n2 : ¬ (I 58 E = h ∧ z_lb (I 57) (I 2) (E * 581) = true) := fun q => h1 q.1
        rw [if_neg n2, ← hw Q, i35_11]
        simp (disch := first | assumption | omega | decide) only [nI_add, n_mul, n_sub, n_le, n_lt, n_eq, n_ne1, n_0, m_bl_t, m_bl_f, if_true, if_false, Nat.reduceAdd, Nat.reduceMul, Nat.reduceSub, Nat.reduceLeDiff, Nat.reduceEqDiff, Nat.add_zero, Nat.add_sub_cancel, Option.toList, List.cons_append, List.nil_append, i35_12, i35_13, i35_14, i35_15, i35_16, i35_17, i35_18, i35_19, i35_20, i35_21, i35_22, i35_23, i35_24, i35_25, i35_26, i35_27, i35_28, i35_29, i35_30, rv_55_5, rv_55_7, hd4, hE2, n0]
        rw [i35_31, if_neg h1]
        simp (disch := first | assumption | omega | decide) only [nI_add, n_mul, n_sub, n_le, n_lt, n_eq, n_ne1, n_0, m_bl_t, m_bl_f, if_true, if_false, Nat.reduceAdd, Nat.reduceMul, Nat.reduceSub, Nat.reduceLeDiff, Nat.reduceEqDiff, Nat.add_zero, Nat.add_sub_cancel, Option.toList, List.cons_append, List.nil_append, i35_40, i35_41, i35_42, i35_43, i35_44, i35_45, i35_46, i35_47, hand]
/-- the house of number i -/
def z_row (p : Nat → Int32) (i : Nat) : Nat → Int32 := fun j => p (i * 581 + j)
/-- y houses were met -/
def z_HT (I : m_I) (y : Nat) : Prop := I 55 8 = nI y ∧ (∀ i, i < y → I 58 i = z_h (z_row (I 57) i)) ∧ (∀ s, s < 1024 → ∃ E, E ≤ y ∧ I 60 s = nI E) ∧ (∀ i, i < y → ∃ s d, s < 1024 ∧ d < 1024 ∧ I 58 i &&& nI 1023 = nI s ∧ I 60 ((s + d) % 1024) = nI (i + 1) ∧ ∀ d', d' < d → ¬ I 60 ((s + d') % 1024) = nI 0) ∧ z_ct (I 60) 1024 = y
def z_put (I : m_I) (y s : Nat) (h : Int32) : m_I := m_sc (m_sc (m_sc (m_sc I 57 (va_cpy (I 2) (I 57) 0 (y * 581) 581)) 58 (m_sc (I 58) y h)) 55 (m_sc (I 55) 8 (nI (y + 1)))) 60 (m_sc (I 60) s (nI (y + 1)))
theorem w35_48 (ht : 62 ≤ t) {N : Nat} (hN : N ≤ 400) (hy : y ≤ N) (h8 : I 55 8 = nI y) (hs4 : s < 1024) {w4 w5 : Value} : WP V 35 48 [.ref 55, .int (nI N), .int h, .int (nI s), w4, w5] [] t I L (m_RR e a b) Q = if y < N then Q (some (.int (nI 1))) t (z_put I y s h) L (m_RR e a b) else Q (some (.int (nI 0))) t I L (m_RR e a b) := by
  have hy4 : y ≤ 400 := by omega
  rw [i35_48]
  by_cases h1 : y < N
  · have hyl : y < 400 := by omega
    have hyl2 : y * 581 + 581 ≤ 232400 := by omega
    rw [if_pos h1]
    simp (disch := first | assumption | omega | decide) only [nI_add, n_mul, n_sub, n_le, n_lt, n_eq, n_ne1, n_0, m_bl_t, m_bl_f, if_true, if_false, Nat.reduceAdd, Nat.reduceMul, Nat.reduceSub, Nat.reduceLeDiff, Nat.reduceEqDiff, Nat.add_zero, Nat.add_sub_cancel, Option.toList, List.cons_append, List.nil_append, i35_49, i35_50, i35_51, i35_54, i35_55, i35_56, i35_57, i35_58, i35_59, i35_60, i35_61, i35_62, i35_63, i35_64, i35_65, i35_66, i35_67, i35_68, i35_69, i35_70, i35_71, i35_72, i35_73, i35_74, i35_75, i35_76, i35_77, i35_78, i35_79, i35_80, i35_81, i35_82, i35_83, rv_55_2, rv_55_4, rv_55_5, rv_55_7, h8, h1, m_sc_ne]
    rfl
  · rw [if_neg h1]
    simp (disch := first | assumption | omega | decide) only [nI_add, n_mul, n_sub, n_le, n_lt, n_eq, n_ne1, n_0, m_bl_t, m_bl_f, if_true, if_false, Nat.reduceAdd, Nat.reduceMul, Nat.reduceSub, Nat.reduceLeDiff, Nat.reduceEqDiff, Nat.add_zero, Nat.add_sub_cancel, Option.toList, List.cons_append, List.nil_append, i35_49, i35_50, i35_51, i35_52, i35_53, h8, h1]
end RBD
