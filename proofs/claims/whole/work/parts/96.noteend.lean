/-! explore: the model's noteEnd() -/
section RBH
variable {V : m_V} {t m n : Nat} {ls st : List Value} {I J : m_I} {L : m_L} {R : m_R} {e : Option Nat} {a b : Nat} {Q : Option Value → Nat → m_I → m_L → m_R → Prop} {u v x k s c i y d hh o at' : Nat} {p f g F F' r G : Nat → Int32} {h : Int32} {w1 w4 w5 : Value}
def d_erw (p : Nat → Int32) (hh : Nat) : Nat → Int32 := fun j => if j < 8 then p (612 * hh + 18 * j) else if j < 16 then p (612 * hh + 18 * (j - 8) + 1) else p (612 * hh + (150 + 154 * (j - 16)))
def d_p1 (r F : Nat → Int32) (at' x : Nat) : Nat → Int32 := fun k => if (at' ≤ k ∧ k < at' + x) ∨ (at' + 8 ≤ k ∧ k < at' + 8 + x) then r (k - at') else F k
def d_p2 (r F : Nat → Int32) (at' x : Nat) : Nat → Int32 := fun k => if at' ≤ k ∧ k < at' + 16 + x then r (k - at') else F k
theorem d_p1_s (hx : x < 8) : m_sc (m_sc (d_p1 r F at' x) (at' + x) (r x)) (at' + 8 + x) (r (8 + x)) = d_p1 r F at' (x + 1) := by
  funext k
  by_cases h1 : k = at' + 8 + x
  · subst h1
    rw [m_sc_self]
    unfold d_p1
    rw [if_pos (by omega), show at' + 8 + x - at' = 8 + x by omega]
  · rw [m_sc_ne h1]
    by_cases h2 : k = at' + x
    · subst h2
      rw [m_sc_self]
      unfold d_p1
      rw [if_pos (by omega), Nat.add_sub_cancel_left]
    · rw [m_sc_ne h2]
      unfold d_p1
      by_cases h3 : (at' ≤ k ∧ k < at' + x) ∨ (at' + 8 ≤ k ∧ k < at' + 8 + x)
      · rw [if_pos h3, if_pos (by omega)]
      · rw [if_neg h3, if_neg (by omega)]
theorem d_p1_0 : d_p1 r F at' 0 = F := by
  funext k
  unfold d_p1
  rw [if_neg (by omega)]
theorem d_p1_8 : d_p1 r F at' 8 = d_p2 r F at' 0 := by
  funext k
  unfold d_p1 d_p2
  by_cases h3 : at' ≤ k ∧ k < at' + 16 + 0
  · rw [if_pos h3, if_pos (by omega)]
  · rw [if_neg h3, if_neg (by omega)]
theorem d_p2_s : m_sc (d_p2 r F at' x) (at' + 16 + x) (r (16 + x)) = d_p2 r F at' (x + 1) := by
  funext k
  by_cases h1 : k = at' + 16 + x
  · subst h1
    rw [m_sc_self]
    unfold d_p2
    rw [if_pos (by omega), show at' + 16 + x - at' = 16 + x by omega]
  · rw [m_sc_ne h1]
    unfold d_p2
    by_cases h3 : at' ≤ k ∧ k < at' + 16 + x
    · rw [if_pos h3, if_pos (by omega)]
    · rw [if_neg h3, if_neg (by omega)]
theorem d_p2_3 : d_p2 r F at' 3 = e_wr r F at' := rfl
theorem w178_7 (ht : 55 ≤ t) (hh4 : hh < 400) (ha : at' + 19 ≤ 7700) : ∀ c x, x + c = 8 → WP V 178 7 [.ref 27, .int (nI hh), .int (nI at'), .int (nI x), w4, w5] [] t (m_sc I 47 (d_p1 (d_erw (I 45) hh) F at' x)) L (m_RR e 48 b) Q = WP V 178 48 [.ref 27, .int (nI hh), .int (nI at'), .int (nI 0), w4, w5] [] t (m_sc I 47 (d_p2 (d_erw (I 45) hh) F at' 0)) L (m_RR e 48 b) Q := by
  intro c
  induction c with
  | zero =>
    intro x hx
    obtain rfl : x = 8 := by omega
    rw [d_p1_8, i178_7]
    simp (disch := first | assumption | omega | decide) only [nI_add, n_mul, n_sub, n_le, n_lt, n_eq, n_ne1, n_0, m_bl_t, m_bl_f, if_true, if_false, Nat.reduceAdd, Nat.reduceMul, Nat.reduceSub, Nat.reduceLeDiff, Nat.reduceEqDiff, Nat.add_zero, Nat.add_sub_cancel, Option.toList, List.cons_append, List.nil_append, i178_8, i178_9, i178_46, i178_47, Nat.le_refl]
  | succ c ih =>
    intro x hx
    have hx8 : ¬ 8 ≤ x := by omega
    have hx7 : x < 8 := by omega
    have e1 : I 45 (612 * hh + 18 * x) = d_erw (I 45) hh x := by unfold d_erw; rw [if_pos hx7]
    have e2 : I 45 (612 * hh + 18 * x + 1) = d_erw (I 45) hh (8 + x) := by unfold d_erw; rw [if_neg (by omega), if_pos (by omega), Nat.add_sub_cancel_left]
    rw [← ih (x + 1) (by omega), ← d_p1_s hx7, i178_7]
    simp (disch := first | assumption | omega | decide) only [nI_add, n_mul, n_sub, n_le, n_lt, n_eq, n_ne1, n_0, m_bl_t, m_bl_f, if_true, if_false, Nat.reduceAdd, Nat.reduceMul, Nat.reduceSub, Nat.reduceLeDiff, Nat.reduceEqDiff, Nat.add_zero, Nat.add_sub_cancel, Option.toList, List.cons_append, List.nil_append, i178_8, i178_9, i178_10, i178_11, i178_12, i178_13, i178_14, i178_15, i178_16, i178_17, i178_18, i178_19, i178_20, i178_21, i178_22, i178_23, i178_24, i178_25, i178_26, i178_27, i178_28, i178_29, i178_30, i178_31, i178_32, i178_33, i178_34, i178_35, i178_36, i178_37, i178_38, i178_39, i178_40, i178_41, i178_42, i178_43, i178_44, i178_45, rv_27_26, rv_27_31, hx8, c112, m_sc_ne, m_sc_self, s_scc, e1, e2]
theorem w178_48 (ht : 55 ≤ t) (hh4 : hh < 400) (ha : at' + 19 ≤ 7700) : ∀ c x, x + c = 3 → WP V 178 48 [.ref 27, .int (nI hh), .int (nI at'), .int (nI x), w4, w5] [] t (m_sc I 47 (d_p2 (d_erw (I 45) hh) F at' x)) L (m_RR e 48 b) Q = WP V 178 74 [.ref 27, .int (nI hh), .int (nI at'), .int (nI 0), w4, w5] [] t (m_sc I 47 (e_wr (d_erw (I 45) hh) F at')) L (m_RR e 48 b) Q := by
  intro c
  induction c with
  | zero =>
    intro x hx
    obtain rfl : x = 3 := by omega
    rw [d_p2_3, i178_48]
    simp (disch := first | assumption | omega | decide) only [nI_add, n_mul, n_sub, n_le, n_lt, n_eq, n_ne1, n_0, m_bl_t, m_bl_f, if_true, if_false, Nat.reduceAdd, Nat.reduceMul, Nat.reduceSub, Nat.reduceLeDiff, Nat.reduceEqDiff, Nat.add_zero, Nat.add_sub_cancel, Option.toList, List.cons_append, List.nil_append, i178_49, i178_50, i178_72, i178_73, Nat.le_refl]
  | succ c ih =>
    intro x hx
    have hx8 : ¬ 3 ≤ x := by omega
    have e1 : I 45 (612 * hh + (150 + 154 * x)) = d_erw (I 45) hh (16 + x) := by unfold d_erw; rw [if_neg (by omega), if_neg (by omega), Nat.add_sub_cancel_left]
    rw [← ih (x + 1) (by omega), ← d_p2_s, i178_48]
    simp (disch := first | assumption | omega | decide) only [nI_add, n_mul, n_sub, n_le, n_lt, n_eq, n_ne1, n_0, m_bl_t, m_bl_f, if_true, if_false, Nat.reduceAdd, Nat.reduceMul, Nat.reduceSub, Nat.reduceLeDiff, Nat.reduceEqDiff, Nat.add_zero, Nat.add_sub_cancel, Option.toList, List.cons_append, List.nil_append, i178_49, i178_50, i178_51, i178_52, i178_53, i178_54, i178_55, i178_56, i178_57, i178_58, i178_59, i178_60, i178_61, i178_62, i178_63, i178_64, i178_65, i178_66, i178_67, i178_68, i178_69, i178_70, i178_71, rv_27_26, rv_27_31, hx8, c113, m_sc_ne, m_sc_self, s_scc, e1]
theorem w178_82 (ht : 55 ≤ t) (ha : 19 * k + 19 ≤ 7700) (ho : o < k) : ∀ c j (same : Bool), j + c = 19 → WP V 178 82 [.ref 27, w1, .int (nI (19 * k)), .int (nI o), .int (m_bl same), .int (nI j)] [] t I L (m_RR e 48 b) Q = WP V 178 108 [.ref 27, w1, .int (nI (19 * k)), .int (nI o), .int (m_bl (same && z_sm (I 47) (fun j => I 47 (19 * k + j)) (19 * o) j c)), .int (nI 19)] [] t I L (m_RR e 48 b) Q := by
  intro c
  induction c with
  | zero =>
    intro j same hj
    obtain rfl : j = 19 := by omega
    have e0 : z_sm (I 47) (fun j => I 47 (19 * k + j)) (19 * o) 19 0 = true := rfl
    rw [e0, Bool.and_true, i178_82]
    simp (disch := first | assumption | omega | decide) only [nI_add, n_mul, n_sub, n_le, n_lt, n_eq, n_ne1, n_0, m_bl_t, m_bl_f, if_true, if_false, Nat.reduceAdd, Nat.reduceMul, Nat.reduceSub, Nat.reduceLeDiff, Nat.reduceEqDiff, Nat.add_zero, Nat.add_sub_cancel, Option.toList, List.cons_append, List.nil_append, i178_83, i178_84, Nat.le_refl]
  | succ c ih =>
    intro j same hj
    have hj9 : ¬ 19 ≤ j := by omega
    have e0 : z_sm (I 47) (fun j => I 47 (19 * k + j)) (19 * o) j (c + 1) = (decide (I 47 (19 * o + j) = I 47 (19 * k + j)) && z_sm (I 47) (fun j => I 47 (19 * k + j)) (19 * o) (j + 1) c) := rfl
    cases same
    · have e1 := ih (j + 1) false (by omega)
      rw [Bool.false_and] at e1 ⊢
      rw [← e1, i178_82]
      simp (disch := first | assumption | omega | decide) only [nI_add, n_mul, n_sub, n_le, n_lt, n_eq, n_ne1, n_0, m_bl_t, m_bl_f, if_true, if_false, Nat.reduceAdd, Nat.reduceMul, Nat.reduceSub, Nat.reduceLeDiff, Nat.reduceEqDiff, Nat.add_zero, Nat.add_sub_cancel, Option.toList, List.cons_append, List.nil_append, i178_83, i178_84, i178_85, i178_86, i178_104, i178_105, i178_106, i178_107, hj9]
    · by_cases h1 : I 47 (19 * o + j) = I 47 (19 * k + j)
      · have e1 := ih (j + 1) true (by omega)
        rw [e0, decide_eq_true h1, Bool.true_and, ← e1, i178_82]
        simp (disch := first | assumption | omega | decide) only [nI_add, n_mul, n_sub, n_le, n_lt, n_eq, n_ne1, n_0, m_bl_t, m_bl_f, if_true, if_false, Nat.reduceAdd, Nat.reduceMul, Nat.reduceSub, Nat.reduceLeDiff, Nat.reduceEqDiff, Nat.add_zero, Nat.add_sub_cancel, Option.toList, List.cons_append, List.nil_append, i178_83, i178_84, i178_85, i178_86, i178_87, i178_88, i178_89, i178_90, i178_91, i178_92, i178_93, i178_94, i178_95, i178_96, i178_97, i178_98, i178_99, i178_100, rv_27_31, hj9]
        rw [i178_101, if_pos h1]
        simp (disch := first | assumption | omega | decide) only [nI_add, n_mul, n_sub, n_le, n_lt, n_eq, n_ne1, n_0, m_bl_t, m_bl_f, if_true, if_false, Nat.reduceAdd, Nat.reduceMul, Nat.reduceSub, Nat.reduceLeDiff, Nat.reduceEqDiff, Nat.add_zero, Nat.add_sub_cancel, Option.toList, List.cons_append, List.nil_append, i178_102, i178_103, i178_105, i178_106, i178_107]
      · have e1 := ih (j + 1) false (by omega)
        rw [Bool.false_and] at e1
        rw [e0, decide_eq_false h1, Bool.false_and, Bool.and_false, ← e1, i178_82]
        simp (disch := first | assumption | omega | decide) only [nI_add, n_mul, n_sub, n_le, n_lt, n_eq, n_ne1, n_0, m_bl_t, m_bl_f, if_true, if_false, Nat.reduceAdd, Nat.reduceMul, Nat.reduceSub, Nat.reduceLeDiff, Nat.reduceEqDiff, Nat.add_zero, Nat.add_sub_cancel, Option.toList, List.cons_append, List.nil_append, i178_83, i178_84, i178_85, i178_86, i178_87, i178_88, i178_89, i178_90, i178_91, i178_92, i178_93, i178_94, i178_95, i178_96, i178_97, i178_98, i178_99, i178_100, rv_27_31, hj9]
        rw [i178_101, if_neg h1]
        simp (disch := first | assumption | omega | decide) only [nI_add, n_mul, n_sub, n_le, n_lt, n_eq, n_ne1, n_0, m_bl_t, m_bl_f, if_true, if_false, Nat.reduceAdd, Nat.reduceMul, Nat.reduceSub, Nat.reduceLeDiff, Nat.reduceEqDiff, Nat.add_zero, Nat.add_sub_cancel, Option.toList, List.cons_append, List.nil_append, i178_104, i178_105, i178_106, i178_107]
theorem w178_74 (ht : 55 ≤ t) (ha : 19 * k + 19 ≤ 7700) (hk : I 27 32 = nI k) : ∀ c o (w4 w5 : Value), o + c = k → WP V 178 74 [.ref 27, w1, .int (nI (19 * k)), .int (nI o), w4, w5] [] t I L (m_RR e 48 b) Q = if s_any (e_al (I 47) k) o c = true then Q none t I L (m_RR e 48 b) else Q none t (m_sc I 27 (m_sc (I 27) 32 (nI (k + 1)))) L (m_RR e 48 b) := by
  intro c
  induction c with
  | zero =>
    intro o w4 w5 ho
    obtain rfl : o = k := by omega
    have e0 : s_any (e_al (I 47) o) o 0 = false := rfl
    rw [e0, if_neg Bool.false_ne_true, i178_74]
    simp (disch := first | assumption | omega | decide) only [nI_add, n_mul, n_sub, n_le, n_lt, n_eq, n_ne1, n_0, m_bl_t, m_bl_f, if_true, if_false, Nat.reduceAdd, Nat.reduceMul, Nat.reduceSub, Nat.reduceLeDiff, Nat.reduceEqDiff, Nat.add_zero, Nat.add_sub_cancel, Option.toList, List.cons_append, List.nil_append, i178_75, i178_76, i178_77, i178_113, i178_114, i178_115, i178_116, i178_117, i178_118, i178_119, hk, Nat.le_refl]
  | succ c ih =>
    intro o w4 w5 ho
    have ho9 : ¬ k ≤ o := by omega
    have e0 : s_any (e_al (I 47) k) o (c + 1) = (e_al (I 47) k o || s_any (e_al (I 47) k) (o + 1) c) := rfl
    have e1 := fun Q => w178_82 (V := V) (I := I) (L := L) (e := e) (b := b) (w1 := w1) (Q := Q) ht ha (show o < k by omega) 19 0 true rfl
    have run : WP V 178 74 [.ref 27, w1, .int (nI (19 * k)), .int (nI o), w4, w5] [] t I L (m_RR e 48 b) Q = WP V 178 82 [.ref 27, w1, .int (nI (19 * k)), .int (nI o), .int (m_bl true), .int (nI 0)] [] t I L (m_RR e 48 b) Q := by
      rw [i178_74]
      simp (disch := first | assumption | omega | decide) only [nI_add, n_mul, n_sub, n_le, n_lt, n_eq, n_ne1, n_0, m_bl_t, m_bl_f, if_true, if_false, Nat.reduceAdd, Nat.reduceMul, Nat.reduceSub, Nat.reduceLeDiff, Nat.reduceEqDiff, Nat.add_zero, Nat.add_sub_cancel, Option.toList, List.cons_append, List.nil_append, i178_75, i178_76, i178_77, i178_78, i178_79, i178_80, i178_81, hk, ho9]
    rw [run, e1, e0, Bool.true_and]
    cases h1 : e_al (I 47) k o
    · unfold e_al at h1
      rw [h1, Bool.false_or, ← ih (o + 1) (.int (m_bl false)) (.int (nI 19)) (by omega)]
      simp (disch := first | assumption | omega | decide) only [nI_add, n_mul, n_sub, n_le, n_lt, n_eq, n_ne1, n_0, m_bl_t, m_bl_f, if_true, if_false, Nat.reduceAdd, Nat.reduceMul, Nat.reduceSub, Nat.reduceLeDiff, Nat.reduceEqDiff, Nat.add_zero, Nat.add_sub_cancel, Option.toList, List.cons_append, List.nil_append, i178_108, i178_109, i178_111, i178_112]
    · unfold e_al at h1
      rw [h1, Bool.true_or, if_pos rfl]
      simp (disch := first | assumption | omega | decide) only [nI_add, n_mul, n_sub, n_le, n_lt, n_eq, n_ne1, n_0, m_bl_t, m_bl_f, if_true, if_false, Nat.reduceAdd, Nat.reduceMul, Nat.reduceSub, Nat.reduceLeDiff, Nat.reduceEqDiff, Nat.add_zero, Nat.add_sub_cancel, Option.toList, List.cons_append, List.nil_append, i178_108, i178_109, i178_110]
def n_gm (I : m_I) (q : Nat × (Nat → Int32)) : m_I := m_sc (m_sc I 47 q.2) 27 (m_sc (I 27) 32 (nI q.1))
theorem w178 (ht : 55 ≤ t) (hh4 : hh < 400) (ha : 19 * k + 19 ≤ 7700) (hk : I 27 32 = nI k) : WP V 178 0 (m_loc 178 [.ref 27, .int (nI hh)]) [] t I L (m_RR e 48 b) Q = Q none t (n_gm I (e_st (d_erw (I 45) hh) (k, I 47))) L (m_RR e 48 b) := by
  rw [show m_loc 178 [.ref 27, .int (nI hh)] = [.ref 27, .int (nI hh), m_u, m_u, m_u, m_u] from rfl]
  have e1 := w178_7 (V := V) (I := I) (L := L) (e := e) (b := b) (Q := Q) (F := I 47) (w4 := m_u) (w5 := m_u) (hh := hh) ht hh4 ha 8 0 rfl
  rw [d_p1_0, s_sce, w178_48 ht hh4 ha 3 0 rfl] at e1
  obtain ⟨K, hK⟩ : ∃ K, K = m_sc I 47 (e_wr (d_erw (I 45) hh) (I 47) (19 * k)) := ⟨_, rfl⟩
  have k27 : K 27 = I 27 := by rw [hK, m_sc_ne (by omega)]
  have k47 : K 47 = e_wr (d_erw (I 45) hh) (I 47) (19 * k) := by rw [hK, m_sc_self]
  have e2 := w178_74 (V := V) (I := K) (L := L) (e := e) (b := b) (Q := Q) (w1 := .int (nI hh)) ht ha (by rw [k27]; exact hk) k 0 m_u m_u (Nat.zero_add k)
  rw [← hK, e2] at e1
  have run : WP V 178 0 [.ref 27, .int (nI hh), m_u, m_u, m_u, m_u] [] t I L (m_RR e 48 b) Q = WP V 178 7 [.ref 27, .int (nI hh), .int (nI (19 * k)), .int (nI 0), m_u, m_u] [] t I L (m_RR e 48 b) Q := by
    simp (disch := first | assumption | omega | decide) only [nI_add, n_mul, n_sub, n_le, n_lt, n_eq, n_ne1, n_0, m_bl_t, m_bl_f, if_true, if_false, Nat.reduceAdd, Nat.reduceMul, Nat.reduceSub, Nat.reduceLeDiff, Nat.reduceEqDiff, Nat.add_zero, Nat.add_sub_cancel, Option.toList, List.cons_append, List.nil_append, i178_0, i178_1, i178_2, i178_3, i178_4, i178_5, i178_6, hk]
  rw [run, e1, k27, k47]
  unfold n_gm e_st e_dup
  dsimp only
  by_cases hd : s_any (e_al (e_wr (d_erw (I 45) hh) (I 47) (19 * k)) k) 0 k = true
  · rw [if_pos hd, if_pos hd, ← hK, ← hk, s_sce, ← k27, s_sce]
  · rw [if_neg hd, if_neg hd, ← hK]
theorem c178 (ht : 55 ≤ t) (hh4 : hh < 400) (ha : 19 * k + 19 ≤ 7700) (hk : I 27 32 = nI k) : WPC V 178 [.ref 27, .int (nI hh)] m n ls st t I L (m_RR e 48 b) Q = WP V m n ls st t (n_gm I (e_st (d_erw (I 45) hh) (k, I 47))) L (m_RR e 48 b) Q := wpc_of (fun Q => w178 ht hh4 ha hk)
end RBH
