/-! specs: retry, waking, reading and writing acts of the model -/
def d_rda (g h : Nat → Int32) (o : m_I) (u i : Nat) (q : d_O) (d k c : Nat) : d_R :=
  if q.1 = nI 0 then
    (if q.2.2 22 = nI 1 then (nI 1, d_next (m_sc q.2.1 (150 + 154 * u + 3 + i) (q.2.2 23)) u, q.2.2, o)
     else d_fails q.2.1 q.2.2 o u (if q.2.2 22 = nI 0 then nI 1 else nI 3) d k c)
  else (if q.1 = nI 1 then nI 0 else nI 2, q.2.1, q.2.2, o)
def d_wra (g h : Nat → Int32) (o : m_I) (u x : Nat) (v z : Int32) (c w dw kw d k : Nat) : d_R :=
  if decide (g (150 + 154 * u + 101) = nI 1) && decide (g (150 + 154 * u + 102) = nI 1) then d_fails g h o u (nI 5) d k c
  else if (d_wr g h o u x v z c w dw kw).1 = nI 1 then (nI 0, (d_wr g h o u x v z c w dw kw).2)
  else (nI 1, d_next (d_wr g h o u x v z c w dw kw).2.1 u, (d_wr g h o u x v z c w dw kw).2.2)
def d_ita (J : m_I) (L : m_L) (o : m_I) (u i j : Nat) (q : d_O) (d k c : Nat) : d_R :=
  if q.1 = nI 0 then
    (if q.2.2 22 = nI 2 then
      (if J 34 (q.2.2 23).toNatClampNeg = nI 0 then d_fails q.2.1 q.2.2 o u (nI 1) d k c
       else if d_in (q.2.1 (150 + 154 * u + 3 + j)) (nI 0) (J 36 (q.2.2 23).toNatClampNeg - nI 1) then
         (nI 1, d_next (m_sc q.2.1 (150 + 154 * u + 3 + i) (L 37 (16 * (q.2.2 23).toNatClampNeg + (q.2.1 (150 + 154 * u + 3 + j)).toNatClampNeg)).toInt32) u, q.2.2, o)
       else d_fails q.2.1 q.2.2 o u (nI 2) d k c)
     else d_fails q.2.1 q.2.2 o u (if q.2.2 22 = nI 0 then nI 1 else nI 3) d k c)
  else (if q.1 = nI 1 then nI 0 else nI 2, q.2.1, q.2.2, o)
def d_goon (g : Nat → Int32) (u : Nat) : Bool := decide (g (150 + 154 * u) = nI 1) || decide (g (150 + 154 * u) = nI 4)
def d_std (q : d_R) (u : Nat) : d_R := (q.1, (if q.1 = nI 0 then m_sc q.2.1 (150 + 154 * u + 153) (q.2.1 (150 + 154 * u + 153) + nI 1) else m_sc q.2.1 (150 + 154 * u + 152) (q.2.1 (150 + 154 * u + 152) + nI 1)), q.2.2)
/-- what failing needs to know of where it begins -/
def d_fok (q : d_O) (u d k c : Nat) : Prop := q.1 = nI 0 → q.2.2 17 = nI c ∧ c ≤ 60 ∧ d ≤ 4 ∧ q.2.1 (150 + 154 * u + 8) = nI d ∧ k ≤ d ∧ q.2.1 (150 + 154 * u + 110) = nI k
theorem n_inm {v : Int32} {s : Nat} (hs : s ≤ 16) (h : d_in v (nI 0) (nI s - nI 1) = true) : ∃ z, z < s ∧ v = nI z := by
  unfold d_in at h
  rw [Bool.and_eq_true, decide_eq_true_eq, decide_eq_true_eq] at h
  obtain ⟨j, hj, e1⟩ := nI_of (x := v) (Int32.not_lt.mpr h.1)
  have h2 := h.2
  cases s with
  | zero =>
    rw [n_sm0, e1] at h2
    have h3 := n_lm1 hj
    exact absurd h2 (Int32.not_le.mpr (h3 ▸ trivial))
  | succ s =>
    rw [n_sub (by omega), Nat.add_sub_cancel, e1, n_le hj (by omega)] at h2
    exact ⟨j, by omega, e1⟩
section T35
variable {V : m_V} {t m n : Nat} {ls st : List Value} {I J : m_I} {g h : Nat → Int32} {o : m_I} {L : m_L} {R : m_R} {e : Option Nat} {a b : Nat} {Q : Option Value → Nat → m_I → m_L → m_R → Prop} {u x k : Nat}
theorem w160_32 (ht : 55 ≤ t) (hu : u < 3) (ha : m_aa a) (hk : k ≤ 4) (hg2 : g (150 + 154 * u + 110) = nI k) : ∀ (d : Nat), d ≤ 4 → WP V 160 32 [.ref 27, .int (nI u), .int (nI (150 + 154 * u)), .int (nI d - nI 1)] [] t (mM J a g h o) L (m_RR e a b) Q = (match d_rt g u k d with
    | some i => WP V 160 61 [.ref 27, .int (nI u), .int (nI (150 + 154 * u)), .int (nI i)] [] t (mM J a g h o) L (m_RR e a b) Q
    | none => WP V 160 89 [.ref 27, .int (nI u), .int (nI (150 + 154 * u)), .int (if d ≤ k then nI d - nI 1 else nI k - nI 1)] [] t (mM J a g h o) L (m_RR e a b) Q) := by
  have hA := mA_of ha
  have hat := mA_lt ha ht
  intro d
  induction d with
  | zero =>
    intro hd
    have h9 : (-1 : Int32) < nI k := by rw [n_lm1 (by omega)]; trivial
    rw [n_sm0, i160_32]
    simp (disch := first | assumption | omega | decide) only [nI_add, n_mul, n_sub, n_le, n_lt, n_eq, n_ne1, n_0, m_bl_t, m_bl_f, if_true, if_false, Nat.reduceAdd, Nat.reduceMul, Nat.reduceSub, Nat.reduceLeDiff, Nat.reduceEqDiff, Nat.add_zero, Nat.add_sub_cancel, Option.toList, List.cons_append, List.nil_append, i160_33, i160_34, i160_35, i160_36, i160_37, i160_38, i160_39, i160_53, i160_54, i160_55, i160_56, i160_57, i160_58, i160_59, i160_60, rv_27_0, mM_a, hg2, h9, d_rt, Nat.zero_le]
  | succ d ih =>
    intro hd
    have e0 : nI (d + 1) - nI 1 = nI d := by rw [n_sub (by omega), Nat.add_sub_cancel]
    rw [e0, i160_32, d_rt]
    by_cases h1 : d < k
    · have h2 : d + 1 ≤ k := by omega
      simp (disch := first | assumption | omega | decide) only [nI_add, n_mul, n_sub, n_le, n_lt, n_eq, n_ne1, n_0, m_bl_t, m_bl_f, if_true, if_false, Nat.reduceAdd, Nat.reduceMul, Nat.reduceSub, Nat.reduceLeDiff, Nat.reduceEqDiff, Nat.add_zero, Nat.add_sub_cancel, Option.toList, List.cons_append, List.nil_append, i160_33, i160_34, i160_35, i160_36, i160_37, i160_38, i160_39, i160_53, i160_54, i160_55, i160_56, i160_57, i160_58, i160_59, i160_60, rv_27_0, mM_a, hg2, h1, h2, e0]
    · have h2 : ¬ d + 1 ≤ k := by omega
      by_cases h3 : g (150 + 154 * u + 9 + 23 * d) = nI 0
      · simp (disch := first | assumption | omega | decide) only [nI_add, n_mul, n_sub, n_le, n_lt, n_eq, n_ne1, n_0, m_bl_t, m_bl_f, if_true, if_false, Nat.reduceAdd, Nat.reduceMul, Nat.reduceSub, Nat.reduceLeDiff, Nat.reduceEqDiff, Nat.add_zero, Nat.add_sub_cancel, Option.toList, List.cons_append, List.nil_append, i160_33, i160_34, i160_35, i160_36, i160_37, i160_38, i160_39, i160_40, i160_41, i160_42, i160_43, i160_44, i160_45, i160_46, i160_47, i160_48, i160_49, i160_50, i160_53, i160_54, i160_55, i160_56, i160_57, i160_58, i160_59, i160_60, rv_27_0, mM_a, hg2, h1, h3]
      · have h4 : (if d ≤ k then nI d - nI 1 else nI k - nI 1) = nI k - nI 1 := by
          by_cases h5 : d ≤ k
          · obtain rfl : d = k := by omega
            rw [if_pos h5]
          · rw [if_neg h5]
        simp (disch := first | assumption | omega | decide) only [nI_add, n_mul, n_sub, n_le, n_lt, n_eq, n_ne1, n_0, m_bl_t, m_bl_f, if_true, if_false, Nat.reduceAdd, Nat.reduceMul, Nat.reduceSub, Nat.reduceLeDiff, Nat.reduceEqDiff, Nat.add_zero, Nat.add_sub_cancel, Option.toList, List.cons_append, List.nil_append, i160_33, i160_34, i160_35, i160_36, i160_37, i160_38, i160_39, i160_40, i160_41, i160_42, i160_43, i160_44, i160_45, i160_46, i160_47, i160_48, i160_49, i160_50, i160_51, i160_52, rv_27_0, mM_a, hg2, h1, h2, h3, n_am1]
        rw [ih (by omega), h4]
theorem d_rt_lt {g : Nat → Int32} {u k i : Nat} : ∀ {d : Nat}, d_rt g u k d = some i → i < d
  | 0, h => by cases h
  | d + 1, h => by
    rw [d_rt] at h
    split at h
    · cases h
    · split at h
      · cases h; omega
      · have := d_rt_lt h; omega
theorem w160 (ht : 55 ≤ t) (hu : u < 3) (ha : m_aa a) {c d : Nat} (hi : g (150 + 154 * u + 101) = nI 1 ∨ g (150 + 154 * u + 101) = nI 0) (hn : h 17 = nI c) (hn2 : c ≤ 60) (hd : d ≤ 4) (hg : g (150 + 154 * u + 8) = nI d) (hk : k ≤ d) (hg2 : g (150 + 154 * u + 110) = nI k) : WP V 160 0 (m_loc 160 [.ref 27, .int (nI u)]) [] t (mM J a g h o) L (m_RR e a b) Q = Q (some (.int (d_retry g h o u d k c).1)) t (mM J a (d_retry g h o u d k c).2.1 (d_retry g h o u d k c).2.2.1 (d_retry g h o u d k c).2.2.2) L (m_RR e a b) := by
  have hA := mA_of ha
  have hat := mA_lt ha ht
  have hk4 : k ≤ 4 := by omega
  rw [show m_loc 160 [.ref 27, .int (nI u)] = [.ref 27, .int (nI u), m_u, m_u] from rfl]
  have fl : WP V 160 18 [.ref 27, .int (nI u), .int (nI (150 + 154 * u)), m_u] [] t (mM J a g h o) L (m_RR e a b) Q = Q (some (.int (d_fails g h o u (nI 5) d k c).1)) t (mM J a (d_fails g h o u (nI 5) d k c).2.1 (d_fails g h o u (nI 5) d k c).2.2.1 (d_fails g h o u (nI 5) d k c).2.2.2) L (m_RR e a b) := by
    simp (disch := first | assumption | omega | decide) only [nI_add, n_mul, n_sub, n_le, n_lt, n_eq, n_ne1, n_0, m_bl_t, m_bl_f, if_true, if_false, Nat.reduceAdd, Nat.reduceMul, Nat.reduceSub, Nat.reduceLeDiff, Nat.reduceEqDiff, Nat.add_zero, Nat.add_sub_cancel, Option.toList, List.cons_append, List.nil_append, i160_18, i160_19, i160_20, i160_21, i160_22, c155 (k := k) ht hu ha hn hn2 hd hg hk hg2]
  have h10 : ¬ nI 1 = nI 0 := by decide
  unfold d_retry
  rcases hi with h1 | h1
  · simp (disch := first | assumption | omega | decide) only [nI_add, n_mul, n_sub, n_le, n_lt, n_eq, n_ne1, n_0, m_bl_t, m_bl_f, if_true, if_false, Nat.reduceAdd, Nat.reduceMul, Nat.reduceSub, Nat.reduceLeDiff, Nat.reduceEqDiff, Nat.add_zero, Nat.add_sub_cancel, Option.toList, List.cons_append, List.nil_append, i160_0, i160_1, i160_2, i160_3, i160_4, i160_5, i160_6, i160_7, i160_8, i160_9, i160_10, i160_11, i160_12, i160_13, i160_14, i160_15, i160_16, rv_27_0, mM_a, c113, h1, h10]
    by_cases h2 : g (150 + 154 * u + 102) = nI 2
    · simp (disch := first | assumption | omega | decide) only [nI_add, n_mul, n_sub, n_le, n_lt, n_eq, n_ne1, n_0, m_bl_t, m_bl_f, if_true, if_false, Nat.reduceAdd, Nat.reduceMul, Nat.reduceSub, Nat.reduceLeDiff, Nat.reduceEqDiff, Nat.add_zero, Nat.add_sub_cancel, Option.toList, List.cons_append, List.nil_append, h2, i160_17, i160_23, i160_24, i160_25, i160_26, i160_27, i160_28, i160_29, i160_30, i160_31, rv_27_0, mM_a, hg, not_true, decide_false, Bool.or_false, Bool.false_eq_true]
      rw [w160_32 ht hu ha hk4 hg2 d hd]
      cases h3 : d_rt g u k d with
      | none =>
        dsimp only
        simp (disch := first | assumption | omega | decide) only [nI_add, n_mul, n_sub, n_le, n_lt, n_eq, n_ne1, n_0, m_bl_t, m_bl_f, if_true, if_false, Nat.reduceAdd, Nat.reduceMul, Nat.reduceSub, Nat.reduceLeDiff, Nat.reduceEqDiff, Nat.add_zero, Nat.add_sub_cancel, Option.toList, List.cons_append, List.nil_append, i160_89, i160_90, i160_91, i160_92, c140, b_0]
        cases h4 : d_ch g u
        · simp (disch := first | assumption | omega | decide) only [nI_add, n_mul, n_sub, n_le, n_lt, n_eq, n_ne1, n_0, m_bl_t, m_bl_f, if_true, if_false, Nat.reduceAdd, Nat.reduceMul, Nat.reduceSub, Nat.reduceLeDiff, Nat.reduceEqDiff, Nat.add_zero, Nat.add_sub_cancel, Option.toList, List.cons_append, List.nil_append, Bool.false_eq_true, i160_98, i160_99, i160_100, i160_101, i160_102, i160_103, i160_104, i160_105, i160_106, i160_107, i160_108, i160_109, i160_110, i160_111, i160_112, i160_113, i160_114, i160_115, rv_27_0, mM_a, mM_sa, c118, c138, c139]
          rfl
        · simp (disch := first | assumption | omega | decide) only [nI_add, n_mul, n_sub, n_le, n_lt, n_eq, n_ne1, n_0, m_bl_t, m_bl_f, if_true, if_false, Nat.reduceAdd, Nat.reduceMul, Nat.reduceSub, Nat.reduceLeDiff, Nat.reduceEqDiff, Nat.add_zero, Nat.add_sub_cancel, Option.toList, List.cons_append, List.nil_append, Bool.true_eq_false, i160_93, i160_94, i160_95, i160_96, i160_97, c142 ht hu ha hd hg hk hg2]
      | some i =>
        have hi2 := d_rt_lt h3
        have hi4 : i < 4 := by omega
        have e8 : m_sc (d_load g u i) (150 + 154 * u + 1) (d_load g u i (150 + 154 * u + 9 + 23 * i + 1)) (150 + 154 * u + 8) = nI d := by
          rw [m_sc_ne (by omega), d_load_o (by omega) (by omega), hg]
        dsimp only
        simp (disch := first | assumption | omega | decide) only [nI_add, n_mul, n_sub, n_le, n_lt, n_eq, n_ne1, n_0, m_bl_t, m_bl_f, if_true, if_false, Nat.reduceAdd, Nat.reduceMul, Nat.reduceSub, Nat.reduceLeDiff, Nat.reduceEqDiff, Nat.add_zero, Nat.add_sub_cancel, Option.toList, List.cons_append, List.nil_append, i160_61, i160_62, i160_63, i160_64, i160_65, i160_66, i160_67, i160_68, i160_69, i160_70, i160_71, i160_72, i160_73, i160_74, i160_75, i160_76, i160_77, i160_78, i160_79, i160_80, i160_81, i160_82, i160_83, i160_84, i160_85, i160_86, i160_87, i160_88, rv_27_0, mM_a, mM_sa, c154, c141 ht hu ha hd e8 (Nat.le_of_lt hi2)]
        rfl
    · simp (disch := first | assumption | omega | decide) only [nI_add, n_mul, n_sub, n_le, n_lt, n_eq, n_ne1, n_0, m_bl_t, m_bl_f, if_true, if_false, Nat.reduceAdd, Nat.reduceMul, Nat.reduceSub, Nat.reduceLeDiff, Nat.reduceEqDiff, Nat.add_zero, Nat.add_sub_cancel, Option.toList, List.cons_append, List.nil_append, h2, i160_17, fl, not_false_iff, decide_true, Bool.or_true]
  · simp (disch := first | assumption | omega | decide) only [nI_add, n_mul, n_sub, n_le, n_lt, n_eq, n_ne1, n_0, m_bl_t, m_bl_f, if_true, if_false, Nat.reduceAdd, Nat.reduceMul, Nat.reduceSub, Nat.reduceLeDiff, Nat.reduceEqDiff, Nat.add_zero, Nat.add_sub_cancel, Option.toList, List.cons_append, List.nil_append, i160_0, i160_1, i160_2, i160_3, i160_4, i160_5, i160_6, i160_7, i160_8, i160_9, rv_27_0, mM_a, c113, h1, fl, decide_true, Bool.true_or]
theorem c160 (ht : 55 ≤ t) (hu : u < 3) (ha : m_aa a) {c d : Nat} (hi : g (150 + 154 * u + 101) = nI 1 ∨ g (150 + 154 * u + 101) = nI 0) (hn : h 17 = nI c) (hn2 : c ≤ 60) (hd : d ≤ 4) (hg : g (150 + 154 * u + 8) = nI d) (hk : k ≤ d) (hg2 : g (150 + 154 * u + 110) = nI k) : WPC V 160 [.ref 27, .int (nI u)] m n ls st t (mM J a g h o) L (m_RR e a b) Q = WP V m n ls ((.int (d_retry g h o u d k c).1) :: st) t (mM J a (d_retry g h o u d k c).2.1 (d_retry g h o u d k c).2.2.1 (d_retry g h o u d k c).2.2.2) L (m_RR e a b) Q := wpc_of (fun Q => w160 ht hu ha hi hn hn2 hd hg hk hg2)
theorem w161_14 (ht : 55 ≤ t) (hu : u < 3) (ha : m_aa a) {d : Nat} (hd : d ≤ 4) (hg : g (150 + 154 * u + 8) = nI d) (hk : k ≤ d) (hg2 : g (150 + 154 * u + 110) = nI k) : WP V 161 14 [.ref 27, .int (nI u)] [] t (mM J a g h o) L (m_RR e a b) Q = Q (some (.int (nI 2))) t (mM J a (d_anew (d_wak g h u) u d k) (d_anh h) o) L (m_RR e a b) := by
  have hA := mA_of ha
  have hat := mA_lt ha ht
  have q1 : d_wak g h u (150 + 154 * u + 8) = nI d := by
    unfold d_wak
    rw [m_sc_ne (by omega)]
    split
    · rw [m_sc_ne (by omega), hg]
    · exact hg
  have q2 : d_wak g h u (150 + 154 * u + 110) = nI k := by
    unfold d_wak
    rw [m_sc_ne (by omega)]
    split
    · rw [m_sc_ne (by omega), hg2]
    · exact hg2
  have tail : ∀ G : Nat → Int32, m_sc G (150 + 154 * u) (nI 1) = d_wak g h u → WP V 161 23 [.ref 27, .int (nI u)] [] t (mM J a G h o) L (m_RR e a b) Q = Q (some (.int (nI 2))) t (mM J a (d_anew (d_wak g h u) u d k) (d_anh h) o) L (m_RR e a b) := by
    intro G hG
    simp (disch := first | assumption | omega | decide) only [nI_add, n_mul, n_sub, n_le, n_lt, n_eq, n_ne1, n_0, m_bl_t, m_bl_f, if_true, if_false, Nat.reduceAdd, Nat.reduceMul, Nat.reduceSub, Nat.reduceLeDiff, Nat.reduceEqDiff, Nat.add_zero, Nat.add_sub_cancel, Option.toList, List.cons_append, List.nil_append, i161_23, i161_24, i161_25, i161_26, i161_27, i161_28, i161_29, i161_30, i161_31, i161_32, i161_33, i161_34, i161_35, rv_27_0, mM_a, mM_sa, c113, hG, c142 ht hu ha hd q1 hk q2]
  by_cases h1 : h 1 = nI 3
  · have e1 : m_sc (m_sc g 145 (nI u)) (150 + 154 * u) (nI 1) = d_wak g h u := by unfold d_wak; rw [if_pos h1]
    simp (disch := first | assumption | omega | decide) only [nI_add, n_mul, n_sub, n_le, n_lt, n_eq, n_ne1, n_0, m_bl_t, m_bl_f, if_true, if_false, Nat.reduceAdd, Nat.reduceMul, Nat.reduceSub, Nat.reduceLeDiff, Nat.reduceEqDiff, Nat.add_zero, Nat.add_sub_cancel, Option.toList, List.cons_append, List.nil_append, i161_14, i161_15, i161_16, i161_17, i161_18, i161_19, i161_20, i161_21, i161_22, rv_27_0, mM_27, mM_a, mM_sa, h1, tail _ e1]
  · have e1 : m_sc g (150 + 154 * u) (nI 1) = d_wak g h u := by unfold d_wak; rw [if_neg h1]
    simp (disch := first | assumption | omega | decide) only [nI_add, n_mul, n_sub, n_le, n_lt, n_eq, n_ne1, n_0, m_bl_t, m_bl_f, if_true, if_false, Nat.reduceAdd, Nat.reduceMul, Nat.reduceSub, Nat.reduceLeDiff, Nat.reduceEqDiff, Nat.add_zero, Nat.add_sub_cancel, Option.toList, List.cons_append, List.nil_append, i161_14, i161_15, i161_16, i161_17, mM_27, mM_a, mM_sa, h1, tail _ e1]
theorem w161 (ht : 55 ≤ t) (hu : u < 3) (ha : m_aa a) {d : Nat} (hd : d ≤ 4) (hg : g (150 + 154 * u + 8) = nI d) (hk : k ≤ d) (hg2 : g (150 + 154 * u + 110) = nI k) : WP V 161 0 (m_loc 161 [.ref 27, .int (nI u)]) [] t (mM J a g h o) L (m_RR e a b) Q = Q (some (.int (d_wakes g h o u d k).1)) t (mM J a (d_wakes g h o u d k).2.1 (d_wakes g h o u d k).2.2.1 (d_wakes g h o u d k).2.2.2) L (m_RR e a b) := by
  have hA := mA_of ha
  have hat := mA_lt ha ht
  rw [show m_loc 161 [.ref 27, .int (nI u)] = [.ref 27, .int (nI u)] from rfl]
  unfold d_wakes
  simp (disch := first | assumption | omega | decide) only [nI_add, n_mul, n_sub, n_le, n_lt, n_eq, n_ne1, n_0, m_bl_t, m_bl_f, if_true, if_false, Nat.reduceAdd, Nat.reduceMul, Nat.reduceSub, Nat.reduceLeDiff, Nat.reduceEqDiff, Nat.add_zero, Nat.add_sub_cancel, Option.toList, List.cons_append, List.nil_append, i161_0, i161_1, i161_2, i161_3, c140, b_0]
  cases h1 : d_ch g u
  · simp (disch := first | assumption | omega | decide) only [nI_add, n_mul, n_sub, n_le, n_lt, n_eq, n_ne1, n_0, m_bl_t, m_bl_f, if_true, if_false, Nat.reduceAdd, Nat.reduceMul, Nat.reduceSub, Nat.reduceLeDiff, Nat.reduceEqDiff, Nat.add_zero, Nat.add_sub_cancel, Option.toList, List.cons_append, List.nil_append, i161_12, i161_13, decide_true, Bool.true_or]
  · simp (disch := first | assumption | omega | decide) only [nI_add, n_mul, n_sub, n_le, n_lt, n_eq, n_ne1, n_0, m_bl_t, m_bl_f, if_true, if_false, Nat.reduceAdd, Nat.reduceMul, Nat.reduceSub, Nat.reduceLeDiff, Nat.reduceEqDiff, Nat.add_zero, Nat.add_sub_cancel, Option.toList, List.cons_append, List.nil_append, Bool.true_eq_false, decide_false, Bool.false_or, i161_4, i161_5, i161_6, i161_7, mM_27]
    by_cases h2 : h 1 = nI 3
    · simp (disch := first | assumption | omega | decide) only [nI_add, n_mul, n_sub, n_le, n_lt, n_eq, n_ne1, n_0, m_bl_t, m_bl_f, if_true, if_false, Nat.reduceAdd, Nat.reduceMul, Nat.reduceSub, Nat.reduceLeDiff, Nat.reduceEqDiff, Nat.add_zero, Nat.add_sub_cancel, Option.toList, List.cons_append, List.nil_append, h2, i161_8, i161_9, i161_10, i161_11, c148, b_0, decide_true, Bool.true_and]
      cases h3 : d_lkd g u
      · simp (disch := first | assumption | omega | decide) only [nI_add, n_mul, n_sub, n_le, n_lt, n_eq, n_ne1, n_0, m_bl_t, m_bl_f, if_true, if_false, Nat.reduceAdd, Nat.reduceMul, Nat.reduceSub, Nat.reduceLeDiff, Nat.reduceEqDiff, Nat.add_zero, Nat.add_sub_cancel, Option.toList, List.cons_append, List.nil_append, Bool.false_eq_true, w161_14 ht hu ha hd hg hk hg2]
      · simp (disch := first | assumption | omega | decide) only [nI_add, n_mul, n_sub, n_le, n_lt, n_eq, n_ne1, n_0, m_bl_t, m_bl_f, if_true, if_false, Nat.reduceAdd, Nat.reduceMul, Nat.reduceSub, Nat.reduceLeDiff, Nat.reduceEqDiff, Nat.add_zero, Nat.add_sub_cancel, Option.toList, List.cons_append, List.nil_append, Bool.true_eq_false, i161_12, i161_13]
    · simp (disch := first | assumption | omega | decide) only [nI_add, n_mul, n_sub, n_le, n_lt, n_eq, n_ne1, n_0, m_bl_t, m_bl_f, if_true, if_false, Nat.reduceAdd, Nat.reduceMul, Nat.reduceSub, Nat.reduceLeDiff, Nat.reduceEqDiff, Nat.add_zero, Nat.add_sub_cancel, Option.toList, List.cons_append, List.nil_append, h2, w161_14 ht hu ha hd hg hk hg2, decide_false, Bool.false_and, Bool.false_eq_true]
theorem c161 (ht : 55 ≤ t) (hu : u < 3) (ha : m_aa a) {d : Nat} (hd : d ≤ 4) (hg : g (150 + 154 * u + 8) = nI d) (hk : k ≤ d) (hg2 : g (150 + 154 * u + 110) = nI k) : WPC V 161 [.ref 27, .int (nI u)] m n ls st t (mM J a g h o) L (m_RR e a b) Q = WP V m n ls ((.int (d_wakes g h o u d k).1) :: st) t (mM J a (d_wakes g h o u d k).2.1 (d_wakes g h o u d k).2.2.1 (d_wakes g h o u d k).2.2.2) L (m_RR e a b) Q := wpc_of (fun Q => w161 ht hu ha hd hg hk hg2)
theorem w165 (ht : 55 ≤ t) (hu : u < 3) (ha : m_aa a) {i : Nat} (hi : i < 4) (hx : x < 8) {d w dw kw cf df kf cx : Nat} (hc : g (18 * x + 15) = nI cx) (hc2 : cx ≤ 4) (hd : d ≤ 4) (hg : g (150 + 154 * u + 8) = nI d) (hk : k ≤ d) (hg2 : g (150 + 154 * u + 110) = nI k) (hw : d_own g h u x w dw kw) (hf : d_fok (d_reads g h u x cx d k w dw kw) u df kf cf) : WP V 165 0 (m_loc 165 [.ref 27, .int (nI u), .int (nI i), .int (nI x)]) [] t (mM J a g h o) L (m_RR e a b) Q = Q (some (.int (d_rda g h o u i (d_reads g h u x cx d k w dw kw) df kf cf).1)) t (mM J a (d_rda g h o u i (d_reads g h u x cx d k w dw kw) df kf cf).2.1 (d_rda g h o u i (d_reads g h u x cx d k w dw kw) df kf cf).2.2.1 (d_rda g h o u i (d_reads g h u x cx d k w dw kw) df kf cf).2.2.2) L (m_RR e a b) := by
  have hA := mA_of ha
  have hat := mA_lt ha ht
  rw [show m_loc 165 [.ref 27, .int (nI u), .int (nI i), .int (nI x)] = [.ref 27, .int (nI u), .int (nI i), .int (nI x), m_u] from rfl]
  simp (disch := first | assumption | omega | decide) only [nI_add, n_mul, n_sub, n_le, n_lt, n_eq, n_ne1, n_0, m_bl_t, m_bl_f, if_true, if_false, Nat.reduceAdd, Nat.reduceMul, Nat.reduceSub, Nat.reduceLeDiff, Nat.reduceEqDiff, Nat.add_zero, Nat.add_sub_cancel, Option.toList, List.cons_append, List.nil_append, i165_0, i165_1, i165_2, i165_3, i165_4, i165_5, i165_6, c149 ht hu ha hx hc hc2 hd hg hk hg2 hw]
  obtain ⟨q, hq⟩ : ∃ q, q = d_reads g h u x cx d k w dw kw := ⟨_, rfl⟩
  rw [← hq] at hf ⊢
  unfold d_rda
  by_cases h1 : q.1 = nI 0
  · obtain ⟨f1, f2, f3, f4, f5, f6⟩ := hf h1
    rw [if_pos h1]
    simp (disch := first | assumption | omega | decide) only [nI_add, n_mul, n_sub, n_le, n_lt, n_eq, n_ne1, n_0, m_bl_t, m_bl_f, if_true, if_false, Nat.reduceAdd, Nat.reduceMul, Nat.reduceSub, Nat.reduceLeDiff, Nat.reduceEqDiff, Nat.add_zero, Nat.add_sub_cancel, Option.toList, List.cons_append, List.nil_append, h1, i165_14, i165_15, i165_16, i165_17, mM_27]
    by_cases h2 : q.2.2 22 = nI 1
    · simp (disch := first | assumption | omega | decide) only [nI_add, n_mul, n_sub, n_le, n_lt, n_eq, n_ne1, n_0, m_bl_t, m_bl_f, if_true, if_false, Nat.reduceAdd, Nat.reduceMul, Nat.reduceSub, Nat.reduceLeDiff, Nat.reduceEqDiff, Nat.add_zero, Nat.add_sub_cancel, Option.toList, List.cons_append, List.nil_append, h2, i165_28, i165_29, i165_30, i165_31, i165_32, i165_33, i165_34, i165_35, i165_36, i165_37, i165_38, i165_39, i165_40, i165_41, i165_42, rv_27_0, mM_27, mM_a, mM_sa, c113, c162]
    · simp (disch := first | assumption | omega | decide) only [nI_add, n_mul, n_sub, n_le, n_lt, n_eq, n_ne1, n_0, m_bl_t, m_bl_f, if_true, if_false, Nat.reduceAdd, Nat.reduceMul, Nat.reduceSub, Nat.reduceLeDiff, Nat.reduceEqDiff, Nat.add_zero, Nat.add_sub_cancel, Option.toList, List.cons_append, List.nil_append, h2, i165_18, i165_19, i165_20, i165_21, i165_22, mM_27]
      by_cases h3 : q.2.2 22 = nI 0
      · simp (disch := first | assumption | omega | decide) only [nI_add, n_mul, n_sub, n_le, n_lt, n_eq, n_ne1, n_0, m_bl_t, m_bl_f, if_true, if_false, Nat.reduceAdd, Nat.reduceMul, Nat.reduceSub, Nat.reduceLeDiff, Nat.reduceEqDiff, Nat.add_zero, Nat.add_sub_cancel, Option.toList, List.cons_append, List.nil_append, h3, i165_23, i165_24, i165_26, i165_27, c155 (k := kf) ht hu ha f1 f2 f3 f4 f5 f6]
      · simp (disch := first | assumption | omega | decide) only [nI_add, n_mul, n_sub, n_le, n_lt, n_eq, n_ne1, n_0, m_bl_t, m_bl_f, if_true, if_false, Nat.reduceAdd, Nat.reduceMul, Nat.reduceSub, Nat.reduceLeDiff, Nat.reduceEqDiff, Nat.add_zero, Nat.add_sub_cancel, Option.toList, List.cons_append, List.nil_append, h3, i165_25, i165_26, i165_27, c155 (k := kf) ht hu ha f1 f2 f3 f4 f5 f6]
  · rw [if_neg h1]
    simp (disch := first | assumption | omega | decide) only [nI_add, n_mul, n_sub, n_le, n_lt, n_eq, n_ne1, n_0, m_bl_t, m_bl_f, if_true, if_false, Nat.reduceAdd, Nat.reduceMul, Nat.reduceSub, Nat.reduceLeDiff, Nat.reduceEqDiff, Nat.add_zero, Nat.add_sub_cancel, Option.toList, List.cons_append, List.nil_append, h1, i165_7, i165_8, i165_9]
    by_cases h2 : q.1 = nI 1
    · simp (disch := first | assumption | omega | decide) only [nI_add, n_mul, n_sub, n_le, n_lt, n_eq, n_ne1, n_0, m_bl_t, m_bl_f, if_true, if_false, Nat.reduceAdd, Nat.reduceMul, Nat.reduceSub, Nat.reduceLeDiff, Nat.reduceEqDiff, Nat.add_zero, Nat.add_sub_cancel, Option.toList, List.cons_append, List.nil_append, h2, i165_10, i165_11, i165_13]
    · simp (disch := first | assumption | omega | decide) only [nI_add, n_mul, n_sub, n_le, n_lt, n_eq, n_ne1, n_0, m_bl_t, m_bl_f, if_true, if_false, Nat.reduceAdd, Nat.reduceMul, Nat.reduceSub, Nat.reduceLeDiff, Nat.reduceEqDiff, Nat.add_zero, Nat.add_sub_cancel, Option.toList, List.cons_append, List.nil_append, h2, i165_12, i165_13]
theorem c165 (ht : 55 ≤ t) (hu : u < 3) (ha : m_aa a) {i : Nat} (hi : i < 4) (hx : x < 8) {d w dw kw cf df kf cx : Nat} (hc : g (18 * x + 15) = nI cx) (hc2 : cx ≤ 4) (hd : d ≤ 4) (hg : g (150 + 154 * u + 8) = nI d) (hk : k ≤ d) (hg2 : g (150 + 154 * u + 110) = nI k) (hw : d_own g h u x w dw kw) (hf : d_fok (d_reads g h u x cx d k w dw kw) u df kf cf) : WPC V 165 [.ref 27, .int (nI u), .int (nI i), .int (nI x)] m n ls st t (mM J a g h o) L (m_RR e a b) Q = WP V m n ls ((.int (d_rda g h o u i (d_reads g h u x cx d k w dw kw) df kf cf).1) :: st) t (mM J a (d_rda g h o u i (d_reads g h u x cx d k w dw kw) df kf cf).2.1 (d_rda g h o u i (d_reads g h u x cx d k w dw kw) df kf cf).2.2.1 (d_rda g h o u i (d_reads g h u x cx d k w dw kw) df kf cf).2.2.2) L (m_RR e a b) Q := wpc_of (fun Q => w165 ht hu ha hi hx hc hc2 hd hg hk hg2 hw hf)
theorem w166 (ht : 55 ≤ t) (hu : u < 3) (ha : m_aa a) (hx : x < 8) {c d w dw kw : Nat} {v z : Int32} (hn : h 17 = nI c) (hn2 : c ≤ 60) (hd : d ≤ 4) (hg : g (150 + 154 * u + 8) = nI d) (hk : k ≤ d) (hg2 : g (150 + 154 * u + 110) = nI k) (hw : d_own g h u x w dw kw) : WP V 166 0 (m_loc 166 [.ref 27, .int (nI u), .int (nI x), .int v, .int z]) [] t (mM J a g h o) L (m_RR e a b) Q = Q (some (.int (d_wra g h o u x v z c w dw kw d k).1)) t (mM J a (d_wra g h o u x v z c w dw kw d k).2.1 (d_wra g h o u x v z c w dw kw d k).2.2.1 (d_wra g h o u x v z c w dw kw d k).2.2.2) L (m_RR e a b) := by
  have hA := mA_of ha
  have hat := mA_lt ha ht
  rw [show m_loc 166 [.ref 27, .int (nI u), .int (nI x), .int v, .int z] = [.ref 27, .int (nI u), .int (nI x), .int v, .int z, m_u] from rfl]
  have two : WP V 166 24 [.ref 27, .int (nI u), .int (nI x), .int v, .int z, .int (nI (150 + 154 * u))] [] t (mM J a g h o) L (m_RR e a b) Q = Q (some (.int (if (d_wr g h o u x v z c w dw kw).1 = nI 1 then (nI 0, (d_wr g h o u x v z c w dw kw).2) else (nI 1, d_next (d_wr g h o u x v z c w dw kw).2.1 u, (d_wr g h o u x v z c w dw kw).2.2)).1)) t (mM J a (if (d_wr g h o u x v z c w dw kw).1 = nI 1 then (nI 0, (d_wr g h o u x v z c w dw kw).2) else (nI 1, d_next (d_wr g h o u x v z c w dw kw).2.1 u, (d_wr g h o u x v z c w dw kw).2.2)).2.1 (if (d_wr g h o u x v z c w dw kw).1 = nI 1 then (nI 0, (d_wr g h o u x v z c w dw kw).2) else (nI 1, d_next (d_wr g h o u x v z c w dw kw).2.1 u, (d_wr g h o u x v z c w dw kw).2.2)).2.2.1 (if (d_wr g h o u x v z c w dw kw).1 = nI 1 then (nI 0, (d_wr g h o u x v z c w dw kw).2) else (nI 1, d_next (d_wr g h o u x v z c w dw kw).2.1 u, (d_wr g h o u x v z c w dw kw).2.2)).2.2.2) L (m_RR e a b) := by
    simp (disch := first | assumption | omega | decide) only [nI_add, n_mul, n_sub, n_le, n_lt, n_eq, n_ne1, n_0, m_bl_t, m_bl_f, if_true, if_false, Nat.reduceAdd, Nat.reduceMul, Nat.reduceSub, Nat.reduceLeDiff, Nat.reduceEqDiff, Nat.add_zero, Nat.add_sub_cancel, Option.toList, List.cons_append, List.nil_append, i166_24, i166_25, i166_26, i166_27, i166_28, i166_29, i166_30, c152 ht hu ha hx hn hn2 hw]
    by_cases h1 : (d_wr g h o u x v z c w dw kw).1 = nI 1
    · simp (disch := first | assumption | omega | decide) only [nI_add, n_mul, n_sub, n_le, n_lt, n_eq, n_ne1, n_0, m_bl_t, m_bl_f, if_true, if_false, Nat.reduceAdd, Nat.reduceMul, Nat.reduceSub, Nat.reduceLeDiff, Nat.reduceEqDiff, Nat.add_zero, Nat.add_sub_cancel, Option.toList, List.cons_append, List.nil_append, h1, i166_31, i166_32, i166_33, i166_37]
    · simp (disch := first | assumption | omega | decide) only [nI_add, n_mul, n_sub, n_le, n_lt, n_eq, n_ne1, n_0, m_bl_t, m_bl_f, if_true, if_false, Nat.reduceAdd, Nat.reduceMul, Nat.reduceSub, Nat.reduceLeDiff, Nat.reduceEqDiff, Nat.add_zero, Nat.add_sub_cancel, Option.toList, List.cons_append, List.nil_append, h1, i166_31, i166_34, i166_35, i166_36, i166_37, c162]
  unfold d_wra
  simp (disch := first | assumption | omega | decide) only [nI_add, n_mul, n_sub, n_le, n_lt, n_eq, n_ne1, n_0, m_bl_t, m_bl_f, if_true, if_false, Nat.reduceAdd, Nat.reduceMul, Nat.reduceSub, Nat.reduceLeDiff, Nat.reduceEqDiff, Nat.add_zero, Nat.add_sub_cancel, Option.toList, List.cons_append, List.nil_append, i166_0, i166_1, i166_2, i166_3, i166_4, i166_5, i166_6, i166_7, i166_8, i166_9, rv_27_0, mM_a, c113]
  by_cases h1 : g (150 + 154 * u + 101) = nI 1
  · simp (disch := first | assumption | omega | decide) only [nI_add, n_mul, n_sub, n_le, n_lt, n_eq, n_ne1, n_0, m_bl_t, m_bl_f, if_true, if_false, Nat.reduceAdd, Nat.reduceMul, Nat.reduceSub, Nat.reduceLeDiff, Nat.reduceEqDiff, Nat.add_zero, Nat.add_sub_cancel, Option.toList, List.cons_append, List.nil_append, h1, i166_10, i166_11, i166_12, i166_13, i166_14, i166_15, i166_16, i166_17, rv_27_0, mM_a, decide_true, Bool.true_and]
    by_cases h2 : g (150 + 154 * u + 102) = nI 1
    · simp (disch := first | assumption | omega | decide) only [nI_add, n_mul, n_sub, n_le, n_lt, n_eq, n_ne1, n_0, m_bl_t, m_bl_f, if_true, if_false, Nat.reduceAdd, Nat.reduceMul, Nat.reduceSub, Nat.reduceLeDiff, Nat.reduceEqDiff, Nat.add_zero, Nat.add_sub_cancel, Option.toList, List.cons_append, List.nil_append, h2, i166_18, i166_19, i166_20, i166_21, i166_22, i166_23, decide_true, c155 (k := k) ht hu ha hn hn2 hd hg hk hg2]
    · simp (disch := first | assumption | omega | decide) only [nI_add, n_mul, n_sub, n_le, n_lt, n_eq, n_ne1, n_0, m_bl_t, m_bl_f, if_true, if_false, Nat.reduceAdd, Nat.reduceMul, Nat.reduceSub, Nat.reduceLeDiff, Nat.reduceEqDiff, Nat.add_zero, Nat.add_sub_cancel, Option.toList, List.cons_append, List.nil_append, h2, i166_18, decide_false, Bool.false_eq_true, two]
  · simp (disch := first | assumption | omega | decide) only [nI_add, n_mul, n_sub, n_le, n_lt, n_eq, n_ne1, n_0, m_bl_t, m_bl_f, if_true, if_false, Nat.reduceAdd, Nat.reduceMul, Nat.reduceSub, Nat.reduceLeDiff, Nat.reduceEqDiff, Nat.add_zero, Nat.add_sub_cancel, Option.toList, List.cons_append, List.nil_append, h1, i166_10, two, decide_false, Bool.false_and, Bool.false_eq_true]
theorem c166 (ht : 55 ≤ t) (hu : u < 3) (ha : m_aa a) (hx : x < 8) {c d w dw kw : Nat} {v z : Int32} (hn : h 17 = nI c) (hn2 : c ≤ 60) (hd : d ≤ 4) (hg : g (150 + 154 * u + 8) = nI d) (hk : k ≤ d) (hg2 : g (150 + 154 * u + 110) = nI k) (hw : d_own g h u x w dw kw) : WPC V 166 [.ref 27, .int (nI u), .int (nI x), .int v, .int z] m n ls st t (mM J a g h o) L (m_RR e a b) Q = WP V m n ls ((.int (d_wra g h o u x v z c w dw kw d k).1) :: st) t (mM J a (d_wra g h o u x v z c w dw kw d k).2.1 (d_wra g h o u x v z c w dw kw d k).2.2.1 (d_wra g h o u x v z c w dw kw d k).2.2.2) L (m_RR e a b) Q := wpc_of (fun Q => w166 ht hu ha hx hn hn2 hd hg hk hg2 hw)
theorem w167 (ht : 55 ≤ t) (hu : u < 3) (ha : m_aa a) {i j : Nat} (hi : i < 4) (hj : j < 4) (hx : x < 8) {d w dw kw cf df kf cx : Nat} (hc : g (18 * x + 15) = nI cx) (hc2 : cx ≤ 4) (hd : d ≤ 4) (hg : g (150 + 154 * u + 8) = nI d) (hk : k ≤ d) (hg2 : g (150 + 154 * u + 110) = nI k) (hw : d_own g h u x w dw kw) (hf : d_fok (d_reads g h u x cx d k w dw kw) u df kf cf) (hrow : (d_reads g h u x cx d k w dw kw).1 = nI 0 → (d_reads g h u x cx d k w dw kw).2.2 22 = nI 2 → ∃ y, y < 6 ∧ (d_reads g h u x cx d k w dw kw).2.2 23 = nI y) (hs : ∀ y, y < 6 → ∃ s, s ≤ 16 ∧ J 36 y = nI s) : WP V 167 0 (m_loc 167 [.ref 27, .int (nI u), .int (nI i), .int (nI x), .int (nI j)]) [] t (mM J a g h o) L (m_RR e a b) Q = Q (some (.int (d_ita J L o u i j (d_reads g h u x cx d k w dw kw) df kf cf).1)) t (mM J a (d_ita J L o u i j (d_reads g h u x cx d k w dw kw) df kf cf).2.1 (d_ita J L o u i j (d_reads g h u x cx d k w dw kw) df kf cf).2.2.1 (d_ita J L o u i j (d_reads g h u x cx d k w dw kw) df kf cf).2.2.2) L (m_RR e a b) := by
  have hA := mA_of ha
  have hat := mA_lt ha ht
  rw [show m_loc 167 [.ref 27, .int (nI u), .int (nI i), .int (nI x), .int (nI j)] = [.ref 27, .int (nI u), .int (nI i), .int (nI x), .int (nI j), m_u, m_u, m_u] from rfl]
  simp (disch := first | assumption | omega | decide) only [nI_add, n_mul, n_sub, n_le, n_lt, n_eq, n_ne1, n_0, m_bl_t, m_bl_f, if_true, if_false, Nat.reduceAdd, Nat.reduceMul, Nat.reduceSub, Nat.reduceLeDiff, Nat.reduceEqDiff, Nat.add_zero, Nat.add_sub_cancel, Option.toList, List.cons_append, List.nil_append, i167_0, i167_1, i167_2, i167_3, i167_4, i167_5, i167_6, c149 ht hu ha hx hc hc2 hd hg hk hg2 hw]
  obtain ⟨q, hq⟩ : ∃ q, q = d_reads g h u x cx d k w dw kw := ⟨_, rfl⟩
  rw [← hq] at hf hrow ⊢
  unfold d_ita
  by_cases h1 : q.1 = nI 0
  · obtain ⟨f1, f2, f3, f4, f5, f6⟩ := hf h1
    rw [if_pos h1]
    simp (disch := first | assumption | omega | decide) only [nI_add, n_mul, n_sub, n_le, n_lt, n_eq, n_ne1, n_0, m_bl_t, m_bl_f, if_true, if_false, Nat.reduceAdd, Nat.reduceMul, Nat.reduceSub, Nat.reduceLeDiff, Nat.reduceEqDiff, Nat.add_zero, Nat.add_sub_cancel, Option.toList, List.cons_append, List.nil_append, h1, i167_14, i167_15, i167_16, i167_17, mM_27]
    by_cases h2 : q.2.2 22 = nI 2
    · obtain ⟨y, hy, hy2⟩ := hrow h1 h2
      obtain ⟨s, hs1, hs2⟩ := hs y hy
      have ey : (nI y).toNatClampNeg = y := nI_clamp (by omega)
      rw [hy2, ey, hs2]
      simp (disch := first | assumption | omega | decide) only [nI_add, n_mul, n_sub, n_le, n_lt, n_eq, n_ne1, n_0, m_bl_t, m_bl_f, if_true, if_false, Nat.reduceAdd, Nat.reduceMul, Nat.reduceSub, Nat.reduceLeDiff, Nat.reduceEqDiff, Nat.add_zero, Nat.add_sub_cancel, Option.toList, List.cons_append, List.nil_append, h2, i167_28, i167_29, i167_30, i167_31, i167_32, i167_33, rv_27_11, mM_27, mM_j, hy2]
      by_cases h3 : J 34 y = nI 0
      · simp (disch := first | assumption | omega | decide) only [nI_add, n_mul, n_sub, n_le, n_lt, n_eq, n_ne1, n_0, m_bl_t, m_bl_f, if_true, if_false, Nat.reduceAdd, Nat.reduceMul, Nat.reduceSub, Nat.reduceLeDiff, Nat.reduceEqDiff, Nat.add_zero, Nat.add_sub_cancel, Option.toList, List.cons_append, List.nil_append, h3, i167_34, i167_35, i167_36, i167_37, i167_38, c155 (k := kf) ht hu ha f1 f2 f3 f4 f5 f6]
      · simp (disch := first | assumption | omega | decide) only [nI_add, n_mul, n_sub, n_le, n_lt, n_eq, n_ne1, n_0, m_bl_t, m_bl_f, if_true, if_false, Nat.reduceAdd, Nat.reduceMul, Nat.reduceSub, Nat.reduceLeDiff, Nat.reduceEqDiff, Nat.add_zero, Nat.add_sub_cancel, Option.toList, List.cons_append, List.nil_append, h3, i167_39, i167_40, i167_41, i167_42, i167_43, i167_44, i167_45, i167_46, i167_47, i167_48, i167_49, i167_50, rv_27_0, mM_a, c113]
        simp (disch := first | assumption | omega | decide) only [i167_51, i167_52, i167_53, i167_54, i167_55, i167_56, i167_57, i167_58, i167_59, i167_60, i167_61, rv_27_13, mM_27, mM_j, hy2, hs2, c111, b_0, n_0]
        cases h4 : d_in (q.2.1 (150 + 154 * u + 3 + j)) (nI 0) (nI s - nI 1)
        · simp (disch := first | assumption | omega | decide) only [nI_add, n_mul, n_sub, n_le, n_lt, n_eq, n_ne1, n_0, m_bl_t, m_bl_f, if_true, if_false, Nat.reduceAdd, Nat.reduceMul, Nat.reduceSub, Nat.reduceLeDiff, Nat.reduceEqDiff, Nat.add_zero, Nat.add_sub_cancel, Option.toList, List.cons_append, List.nil_append, Bool.false_eq_true, i167_62, i167_63, i167_64, i167_65, i167_66, c155 (k := kf) ht hu ha f1 f2 f3 f4 f5 f6]
        · obtain ⟨z, hz, hz2⟩ := n_inm hs1 h4
          have ez : (nI z).toNatClampNeg = z := nI_clamp (by omega)
          rw [hz2, ez]
          simp (disch := first | assumption | omega | decide) only [nI_add, n_mul, n_sub, n_le, n_lt, n_eq, n_ne1, n_0, m_bl_t, m_bl_f, if_true, if_false, Nat.reduceAdd, Nat.reduceMul, Nat.reduceSub, Nat.reduceLeDiff, Nat.reduceEqDiff, Nat.add_zero, Nat.add_sub_cancel, Option.toList, List.cons_append, List.nil_append, Bool.true_eq_false, i167_67, i167_68, i167_69, i167_70, i167_71, i167_72, i167_73, i167_74, i167_75, i167_76, i167_77, i167_78, i167_79, i167_80, i167_81, i167_82, i167_83, i167_84, i167_85, i167_86, i167_87, i167_88, rv_27_0, rv_27_14, mM_27, mM_a, mM_sa, hy2, c162]
    · simp (disch := first | assumption | omega | decide) only [nI_add, n_mul, n_sub, n_le, n_lt, n_eq, n_ne1, n_0, m_bl_t, m_bl_f, if_true, if_false, Nat.reduceAdd, Nat.reduceMul, Nat.reduceSub, Nat.reduceLeDiff, Nat.reduceEqDiff, Nat.add_zero, Nat.add_sub_cancel, Option.toList, List.cons_append, List.nil_append, h2, i167_18, i167_19, i167_20, i167_21, i167_22, mM_27]
      by_cases h3 : q.2.2 22 = nI 0
      · simp (disch := first | assumption | omega | decide) only [nI_add, n_mul, n_sub, n_le, n_lt, n_eq, n_ne1, n_0, m_bl_t, m_bl_f, if_true, if_false, Nat.reduceAdd, Nat.reduceMul, Nat.reduceSub, Nat.reduceLeDiff, Nat.reduceEqDiff, Nat.add_zero, Nat.add_sub_cancel, Option.toList, List.cons_append, List.nil_append, h3, i167_23, i167_24, i167_26, i167_27, c155 (k := kf) ht hu ha f1 f2 f3 f4 f5 f6]
      · simp (disch := first | assumption | omega | decide) only [nI_add, n_mul, n_sub, n_le, n_lt, n_eq, n_ne1, n_0, m_bl_t, m_bl_f, if_true, if_false, Nat.reduceAdd, Nat.reduceMul, Nat.reduceSub, Nat.reduceLeDiff, Nat.reduceEqDiff, Nat.add_zero, Nat.add_sub_cancel, Option.toList, List.cons_append, List.nil_append, h3, i167_25, i167_26, i167_27, c155 (k := kf) ht hu ha f1 f2 f3 f4 f5 f6]
  · rw [if_neg h1]
    simp (disch := first | assumption | omega | decide) only [nI_add, n_mul, n_sub, n_le, n_lt, n_eq, n_ne1, n_0, m_bl_t, m_bl_f, if_true, if_false, Nat.reduceAdd, Nat.reduceMul, Nat.reduceSub, Nat.reduceLeDiff, Nat.reduceEqDiff, Nat.add_zero, Nat.add_sub_cancel, Option.toList, List.cons_append, List.nil_append, h1, i167_7, i167_8, i167_9]
    by_cases h2 : q.1 = nI 1
    · simp (disch := first | assumption | omega | decide) only [nI_add, n_mul, n_sub, n_le, n_lt, n_eq, n_ne1, n_0, m_bl_t, m_bl_f, if_true, if_false, Nat.reduceAdd, Nat.reduceMul, Nat.reduceSub, Nat.reduceLeDiff, Nat.reduceEqDiff, Nat.add_zero, Nat.add_sub_cancel, Option.toList, List.cons_append, List.nil_append, h2, i167_10, i167_11, i167_13]
    · simp (disch := first | assumption | omega | decide) only [nI_add, n_mul, n_sub, n_le, n_lt, n_eq, n_ne1, n_0, m_bl_t, m_bl_f, if_true, if_false, Nat.reduceAdd, Nat.reduceMul, Nat.reduceSub, Nat.reduceLeDiff, Nat.reduceEqDiff, Nat.add_zero, Nat.add_sub_cancel, Option.toList, List.cons_append, List.nil_append, h2, i167_12, i167_13]
theorem c167 (ht : 55 ≤ t) (hu : u < 3) (ha : m_aa a) {i j : Nat} (hi : i < 4) (hj : j < 4) (hx : x < 8) {d w dw kw cf df kf cx : Nat} (hc : g (18 * x + 15) = nI cx) (hc2 : cx ≤ 4) (hd : d ≤ 4) (hg : g (150 + 154 * u + 8) = nI d) (hk : k ≤ d) (hg2 : g (150 + 154 * u + 110) = nI k) (hw : d_own g h u x w dw kw) (hf : d_fok (d_reads g h u x cx d k w dw kw) u df kf cf) (hrow : (d_reads g h u x cx d k w dw kw).1 = nI 0 → (d_reads g h u x cx d k w dw kw).2.2 22 = nI 2 → ∃ y, y < 6 ∧ (d_reads g h u x cx d k w dw kw).2.2 23 = nI y) (hs : ∀ y, y < 6 → ∃ s, s ≤ 16 ∧ J 36 y = nI s) : WPC V 167 [.ref 27, .int (nI u), .int (nI i), .int (nI x), .int (nI j)] m n ls st t (mM J a g h o) L (m_RR e a b) Q = WP V m n ls ((.int (d_ita J L o u i j (d_reads g h u x cx d k w dw kw) df kf cf).1) :: st) t (mM J a (d_ita J L o u i j (d_reads g h u x cx d k w dw kw) df kf cf).2.1 (d_ita J L o u i j (d_reads g h u x cx d k w dw kw) df kf cf).2.2.1 (d_ita J L o u i j (d_reads g h u x cx d k w dw kw) df kf cf).2.2.2) L (m_RR e a b) Q := wpc_of (fun Q => w167 ht hu ha hi hj hx hc hc2 hd hg hk hg2 hw hf hrow hs)
theorem w168 (ht : 55 ≤ t) (hu : u < 3) (ha : m_aa a) : WP V 168 0 (m_loc 168 [.ref 27, .int (nI u)]) [] t (mM J a g h o) L (m_RR e a b) Q = Q (some (.int (m_bl (d_goon g u)))) t (mM J a g h o) L (m_RR e a b) := by
  have hA := mA_of ha
  have hat := mA_lt ha ht
  rw [show m_loc 168 [.ref 27, .int (nI u)] = [.ref 27, .int (nI u), m_u] from rfl]
  simp (disch := first | assumption | omega | decide) only [nI_add, n_mul, n_sub, n_le, n_lt, n_eq, n_ne1, n_0, m_bl_t, m_bl_f, if_true, if_false, Nat.reduceAdd, Nat.reduceMul, Nat.reduceSub, Nat.reduceLeDiff, Nat.reduceEqDiff, Nat.add_zero, Nat.add_sub_cancel, Option.toList, List.cons_append, List.nil_append, i168_0, i168_1, i168_2, i168_3, i168_4, i168_5, i168_6, i168_7, i168_8, i168_9, i168_10, i168_11, i168_12, i168_13, i168_14, i168_15, i168_16, i168_17, rv_27_0, mM_a, c113]
  unfold d_goon
  by_cases h1 : g (150 + 154 * u) = nI 1
  · simp [h1, m_bl]
  · by_cases h2 : g (150 + 154 * u) = nI 4
    · have h3 : ¬ nI 4 = nI 1 := by decide
      simp [h2, h3, m_bl]
    · simp [h1, h2, m_bl]
theorem c168 (ht : 55 ≤ t) (hu : u < 3) (ha : m_aa a) : WPC V 168 [.ref 27, .int (nI u)] m n ls st t (mM J a g h o) L (m_RR e a b) Q = WP V m n ls ((.int (m_bl (d_goon g u))) :: st) t (mM J a g h o) L (m_RR e a b) Q := wpc_of (fun Q => w168 ht hu ha)
end T35
