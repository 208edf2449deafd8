/-! one step of both, at the memory -/
section T53
variable {V : m_V} {t m n : Nat} {ls st : List Value} {I J : m_I} {g h : Nat → Int32} {o : m_I} {L : m_L} {R : m_R} {e : Option Nat} {a b : Nat} {Q : Option Value → Nat → m_I → m_L → m_R → Prop} {u x k : Nat}
theorem w164b (ht : 55 ≤ t) (hu : u < 3) (ha : m_aa a) {cc pp i1 i2 i3 d c s : Nat} {cx wx dx kx : Nat → Nat} {B : Int32} (hi : g (150 + 154 * u + 101) = nI 1 ∨ g (150 + 154 * u + 101) = nI 0) (hn : h 17 = nI c) (hn2 : c ≤ 60) (hd : d ≤ 4) (hg : g (150 + 154 * u + 8) = nI d) (hk : k ≤ d) (hg2 : g (150 + 154 * u + 110) = nI k) (hc : ∀ x, x < 8 → g (18 * x + 15) = nI (cx x) ∧ cx x ≤ 4) (hw : ∀ x, x < 8 → d_own g h u x (wx x) (dx x) (kx x)) (hs : ∀ y, y < 6 → ∃ s, s ≤ 16 ∧ J 36 y = nI s) {kk : Nat} (hcc : g (150 + 154 * u + 7) = nI cc) (hcc2 : cc < 6) (hpp : g (150 + 154 * u + 1) = nI pp) (hpp2 : pp < 1000) (hsz : J 29 cc = nI s) (hs2 : s ≤ 40) (hact : pp < s → kk ≤ 21 ∧ d_act J (40 * cc + pp) kk i1 i2 i3 B) (hrow : ¬ g (150 + 154 * u) = nI 4 → pp < s → kk = 8 → (d_reads g h u i2 (cx i2) d k (wx i2) (dx i2) (kx i2)).1 = nI 0 → (d_reads g h u i2 (cx i2) d k (wx i2) (dx i2) (kx i2)).2.2 22 = nI 2 → ∃ y, y < 6 ∧ (d_reads g h u i2 (cx i2) d k (wx i2) (dx i2) (kx i2)).2.2 23 = nI y): WP V 164 0 (m_loc 164 [.ref 27, .int (nI u)]) [] t (mM J a g h o) L (m_RR e a b) Q = Q (some (.int (d_take J L g h o u (decide (pp < s)) kk i1 i2 i3 d k c cx wx dx kx B).1)) t (mM J a (d_take J L g h o u (decide (pp < s)) kk i1 i2 i3 d k c cx wx dx kx B).2.1 (d_take J L g h o u (decide (pp < s)) kk i1 i2 i3 d k c cx wx dx kx B).2.2.1 (d_take J L g h o u (decide (pp < s)) kk i1 i2 i3 d k c cx wx dx kx B).2.2.2) L (m_RR e a b) := by
  have hA := mA_of ha
  have hat := mA_lt ha ht
  rw [show m_loc 164 [.ref 27, .int (nI u)] = [.ref 27, .int (nI u), m_u, m_u, m_u, m_u, m_u, m_u, m_u, m_u] from rfl]
  unfold d_take
  simp (disch := first | assumption | omega | decide) only [nI_add, n_mul, n_sub, n_le, n_lt, n_eq, n_ne1, n_0, m_bl_t, m_bl_f, if_true, if_false, Nat.reduceAdd, Nat.reduceMul, Nat.reduceSub, Nat.reduceLeDiff, Nat.reduceEqDiff, Nat.add_zero, Nat.add_sub_cancel, Option.toList, List.cons_append, List.nil_append, i164_0, i164_1, i164_2, i164_3, i164_4, i164_5, i164_6, i164_7, i164_8, i164_9, rv_27_0, mM_a, c113]
  by_cases h4 : g (150 + 154 * u) = nI 4
  · simp (disch := first | assumption | omega | decide) only [nI_add, n_mul, n_sub, n_le, n_lt, n_eq, n_ne1, n_0, m_bl_t, m_bl_f, if_true, if_false, Nat.reduceAdd, Nat.reduceMul, Nat.reduceSub, Nat.reduceLeDiff, Nat.reduceEqDiff, Nat.add_zero, Nat.add_sub_cancel, Option.toList, List.cons_append, List.nil_append, h4, i164_10, i164_11, i164_12, i164_13, i164_14, c161 ht hu ha hd hg hk hg2]
  · simp (disch := first | assumption | omega | decide) only [nI_add, n_mul, n_sub, n_le, n_lt, n_eq, n_ne1, n_0, m_bl_t, m_bl_f, if_true, if_false, Nat.reduceAdd, Nat.reduceMul, Nat.reduceSub, Nat.reduceLeDiff, Nat.reduceEqDiff, Nat.add_zero, Nat.add_sub_cancel, Option.toList, List.cons_append, List.nil_append, h4, i164_10, i164_15, i164_16, i164_17, i164_18, i164_19, i164_20, i164_21, i164_22, i164_23, i164_24, i164_25, i164_26, i164_27, i164_28, i164_29, i164_30, i164_31, i164_32, i164_33, rv_27_0, rv_27_6, mM_a, mM_j, hcc, hpp, hsz]
    by_cases h5 : pp < s
    · have hp9 : 40 * cc + pp < 240 := by omega
      obtain ⟨hk1, hk2⟩ := hact h5
      simp (disch := first | assumption | omega | decide) only [nI_add, n_mul, n_sub, n_le, n_lt, n_eq, n_ne1, n_0, m_bl_t, m_bl_f, if_true, if_false, Nat.reduceAdd, Nat.reduceMul, Nat.reduceSub, Nat.reduceLeDiff, Nat.reduceEqDiff, Nat.add_zero, Nat.add_sub_cancel, Option.toList, List.cons_append, List.nil_append, h5, i164_34, i164_64, i164_65, i164_66, i164_67, i164_68, i164_69, decide_true, w164_k ht hu ha hi hn hn2 hd hg hk hg2 hc hw hs hp9 hk1 hk2 (hrow h4 h5)]
    · have h10 : ¬ nI 1 = nI 0 := by decide
      have h01 : ¬ nI 0 = nI 1 := by decide
      simp (disch := first | assumption | omega | decide) only [nI_add, n_mul, n_sub, n_le, n_lt, n_eq, n_ne1, n_0, m_bl_t, m_bl_f, if_true, if_false, Nat.reduceAdd, Nat.reduceMul, Nat.reduceSub, Nat.reduceLeDiff, Nat.reduceEqDiff, Nat.add_zero, Nat.add_sub_cancel, Option.toList, List.cons_append, List.nil_append, h5, i164_34, i164_35, i164_36, i164_37, i164_38, i164_39, i164_40, i164_41, rv_27_0, mM_a, decide_false, Bool.false_eq_true]
      by_cases h6 : g (150 + 154 * u + 101) = nI 1
      · simp (disch := first | assumption | omega | decide) only [nI_add, n_mul, n_sub, n_le, n_lt, n_eq, n_ne1, n_0, m_bl_t, m_bl_f, if_true, if_false, Nat.reduceAdd, Nat.reduceMul, Nat.reduceSub, Nat.reduceLeDiff, Nat.reduceEqDiff, Nat.add_zero, Nat.add_sub_cancel, Option.toList, List.cons_append, List.nil_append, h6, i164_42, i164_50, i164_51, i164_52, i164_53, i164_54, decide_true, Bool.true_or, c155 (k := k) ht hu ha hn hn2 hd hg hk hg2]
      · simp (disch := first | assumption | omega | decide) only [nI_add, n_mul, n_sub, n_le, n_lt, n_eq, n_ne1, n_0, m_bl_t, m_bl_f, if_true, if_false, Nat.reduceAdd, Nat.reduceMul, Nat.reduceSub, Nat.reduceLeDiff, Nat.reduceEqDiff, Nat.add_zero, Nat.add_sub_cancel, Option.toList, List.cons_append, List.nil_append, h6, i164_42, i164_43, i164_44, i164_45, i164_46, i164_47, i164_48, rv_27_0, mM_a, hg, decide_false, Bool.false_or]
        by_cases h7 : d = 0
        · subst h7
          simp (disch := first | assumption | omega | decide) only [nI_add, n_mul, n_sub, n_le, n_lt, n_eq, n_ne1, n_0, m_bl_t, m_bl_f, if_true, if_false, Nat.reduceAdd, Nat.reduceMul, Nat.reduceSub, Nat.reduceLeDiff, Nat.reduceEqDiff, Nat.add_zero, Nat.add_sub_cancel, Option.toList, List.cons_append, List.nil_append, i164_49, i164_55, i164_56, i164_57, i164_58, i164_59, i164_60, i164_61, i164_62, i164_63, rv_27_0, mM_a, mM_sa, Nat.le_refl, Nat.lt_irrefl, decide_false, Bool.false_eq_true]
        · have h8 : 0 < d := by omega
          have h9 : ¬ d ≤ 0 := by omega
          simp (disch := first | assumption | omega | decide) only [nI_add, n_mul, n_sub, n_le, n_lt, n_eq, n_ne1, n_0, m_bl_t, m_bl_f, if_true, if_false, Nat.reduceAdd, Nat.reduceMul, Nat.reduceSub, Nat.reduceLeDiff, Nat.reduceEqDiff, Nat.add_zero, Nat.add_sub_cancel, Option.toList, List.cons_append, List.nil_append, h8, h9, i164_49, i164_50, i164_51, i164_52, i164_53, i164_54, decide_true, c155 (k := k) ht hu ha hn hn2 hd hg hk hg2]
theorem c164b (ht : 55 ≤ t) (hu : u < 3) (ha : m_aa a) {cc pp i1 i2 i3 d c s : Nat} {cx wx dx kx : Nat → Nat} {B : Int32} (hi : g (150 + 154 * u + 101) = nI 1 ∨ g (150 + 154 * u + 101) = nI 0) (hn : h 17 = nI c) (hn2 : c ≤ 60) (hd : d ≤ 4) (hg : g (150 + 154 * u + 8) = nI d) (hk : k ≤ d) (hg2 : g (150 + 154 * u + 110) = nI k) (hc : ∀ x, x < 8 → g (18 * x + 15) = nI (cx x) ∧ cx x ≤ 4) (hw : ∀ x, x < 8 → d_own g h u x (wx x) (dx x) (kx x)) (hs : ∀ y, y < 6 → ∃ s, s ≤ 16 ∧ J 36 y = nI s) {kk : Nat} (hcc : g (150 + 154 * u + 7) = nI cc) (hcc2 : cc < 6) (hpp : g (150 + 154 * u + 1) = nI pp) (hpp2 : pp < 1000) (hsz : J 29 cc = nI s) (hs2 : s ≤ 40) (hact : pp < s → kk ≤ 21 ∧ d_act J (40 * cc + pp) kk i1 i2 i3 B) (hrow : ¬ g (150 + 154 * u) = nI 4 → pp < s → kk = 8 → (d_reads g h u i2 (cx i2) d k (wx i2) (dx i2) (kx i2)).1 = nI 0 → (d_reads g h u i2 (cx i2) d k (wx i2) (dx i2) (kx i2)).2.2 22 = nI 2 → ∃ y, y < 6 ∧ (d_reads g h u i2 (cx i2) d k (wx i2) (dx i2) (kx i2)).2.2 23 = nI y) : WPC V 164 [.ref 27, .int (nI u)] m n ls st t (mM J a g h o) L (m_RR e a b) Q = WP V m n ls ((.int (d_take J L g h o u (decide (pp < s)) kk i1 i2 i3 d k c cx wx dx kx B).1) :: st) t (mM J a (d_take J L g h o u (decide (pp < s)) kk i1 i2 i3 d k c cx wx dx kx B).2.1 (d_take J L g h o u (decide (pp < s)) kk i1 i2 i3 d k c cx wx dx kx B).2.2.1 (d_take J L g h o u (decide (pp < s)) kk i1 i2 i3 d k c cx wx dx kx B).2.2.2) L (m_RR e a b) Q := wpc_of (fun Q => w164b ht hu ha hi hn hn2 hd hg hk hg2 hc hw hs hcc hcc2 hpp hpp2 hsz hs2 hact hrow)
theorem w169b (ht : 55 ≤ t) (hu : u < 3) (ha : m_aa a) {cc pp i1 i2 i3 d c s : Nat} {cx wx dx kx : Nat → Nat} {B : Int32} (hi : g (150 + 154 * u + 101) = nI 1 ∨ g (150 + 154 * u + 101) = nI 0) (hn : h 17 = nI c) (hn2 : c ≤ 60) (hd : d ≤ 4) (hg : g (150 + 154 * u + 8) = nI d) (hk : k ≤ d) (hg2 : g (150 + 154 * u + 110) = nI k) (hc : ∀ x, x < 8 → g (18 * x + 15) = nI (cx x) ∧ cx x ≤ 4) (hw : ∀ x, x < 8 → d_own g h u x (wx x) (dx x) (kx x)) (hs : ∀ y, y < 6 → ∃ s, s ≤ 16 ∧ J 36 y = nI s) {kk : Nat} (hcc : g (150 + 154 * u + 7) = nI cc) (hcc2 : cc < 6) (hpp : g (150 + 154 * u + 1) = nI pp) (hpp2 : pp < 1000) (hsz : J 29 cc = nI s) (hs2 : s ≤ 40) (hact : pp < s → kk ≤ 21 ∧ d_act J (40 * cc + pp) kk i1 i2 i3 B) (hrow : ¬ g (150 + 154 * u) = nI 4 → pp < s → kk = 8 → (d_reads g h u i2 (cx i2) d k (wx i2) (dx i2) (kx i2)).1 = nI 0 → (d_reads g h u i2 (cx i2) d k (wx i2) (dx i2) (kx i2)).2.2 22 = nI 2 → ∃ y, y < 6 ∧ (d_reads g h u i2 (cx i2) d k (wx i2) (dx i2) (kx i2)).2.2 23 = nI y) : WP V 169 0 (m_loc 169 [.ref 27, .int (nI u)]) [] t (mM J a g h o) L (m_RR e a b) Q = Q (some (.int (d_std (d_take J L g h o u (decide (pp < s)) kk i1 i2 i3 d k c cx wx dx kx B) u).1)) t (mM J a (d_std (d_take J L g h o u (decide (pp < s)) kk i1 i2 i3 d k c cx wx dx kx B) u).2.1 (d_std (d_take J L g h o u (decide (pp < s)) kk i1 i2 i3 d k c cx wx dx kx B) u).2.2.1 (d_std (d_take J L g h o u (decide (pp < s)) kk i1 i2 i3 d k c cx wx dx kx B) u).2.2.2) L (m_RR e a b) := by
  have hA := mA_of ha
  have hat := mA_lt ha ht
  rw [show m_loc 169 [.ref 27, .int (nI u)] = [.ref 27, .int (nI u), m_u] from rfl]
  simp (disch := first | assumption | omega | decide) only [nI_add, n_mul, n_sub, n_le, n_lt, n_eq, n_ne1, n_0, m_bl_t, m_bl_f, if_true, if_false, Nat.reduceAdd, Nat.reduceMul, Nat.reduceSub, Nat.reduceLeDiff, Nat.reduceEqDiff, Nat.add_zero, Nat.add_sub_cancel, Option.toList, List.cons_append, List.nil_append, i169_0, i169_1, i169_2, c164b ht hu ha hi hn hn2 hd hg hk hg2 hc hw hs hcc hcc2 hpp hpp2 hsz hs2 hact hrow]
  obtain ⟨q, hq⟩ : ∃ q, q = (d_take J L g h o u (decide (pp < s)) kk i1 i2 i3 d k c cx wx dx kx B) := ⟨_, rfl⟩
  rw [← hq]
  unfold d_std
  simp (disch := first | assumption | omega | decide) only [nI_add, n_mul, n_sub, n_le, n_lt, n_eq, n_ne1, n_0, m_bl_t, m_bl_f, if_true, if_false, Nat.reduceAdd, Nat.reduceMul, Nat.reduceSub, Nat.reduceLeDiff, Nat.reduceEqDiff, Nat.add_zero, Nat.add_sub_cancel, Option.toList, List.cons_append, List.nil_append, i169_3, i169_4, i169_5, i169_6, i169_7, i169_8, rv_27_0, mM_a, c113]
  by_cases h1 : q.1 = nI 0
  · simp (disch := first | assumption | omega | decide) only [nI_add, n_mul, n_sub, n_le, n_lt, n_eq, n_ne1, n_0, m_bl_t, m_bl_f, if_true, if_false, Nat.reduceAdd, Nat.reduceMul, Nat.reduceSub, Nat.reduceLeDiff, Nat.reduceEqDiff, Nat.add_zero, Nat.add_sub_cancel, Option.toList, List.cons_append, List.nil_append, h1, i169_9, i169_10, i169_11, i169_13, i169_14, i169_15, i169_16, i169_17, i169_18, i169_19, i169_20, mM_a, mM_sa]
  · simp (disch := first | assumption | omega | decide) only [nI_add, n_mul, n_sub, n_le, n_lt, n_eq, n_ne1, n_0, m_bl_t, m_bl_f, if_true, if_false, Nat.reduceAdd, Nat.reduceMul, Nat.reduceSub, Nat.reduceLeDiff, Nat.reduceEqDiff, Nat.add_zero, Nat.add_sub_cancel, Option.toList, List.cons_append, List.nil_append, h1, i169_9, i169_12, i169_13, i169_14, i169_15, i169_16, i169_17, i169_18, i169_19, i169_20, mM_a, mM_sa]
theorem c169b (ht : 55 ≤ t) (hu : u < 3) (ha : m_aa a) {cc pp i1 i2 i3 d c s : Nat} {cx wx dx kx : Nat → Nat} {B : Int32} (hi : g (150 + 154 * u + 101) = nI 1 ∨ g (150 + 154 * u + 101) = nI 0) (hn : h 17 = nI c) (hn2 : c ≤ 60) (hd : d ≤ 4) (hg : g (150 + 154 * u + 8) = nI d) (hk : k ≤ d) (hg2 : g (150 + 154 * u + 110) = nI k) (hc : ∀ x, x < 8 → g (18 * x + 15) = nI (cx x) ∧ cx x ≤ 4) (hw : ∀ x, x < 8 → d_own g h u x (wx x) (dx x) (kx x)) (hs : ∀ y, y < 6 → ∃ s, s ≤ 16 ∧ J 36 y = nI s) {kk : Nat} (hcc : g (150 + 154 * u + 7) = nI cc) (hcc2 : cc < 6) (hpp : g (150 + 154 * u + 1) = nI pp) (hpp2 : pp < 1000) (hsz : J 29 cc = nI s) (hs2 : s ≤ 40) (hact : pp < s → kk ≤ 21 ∧ d_act J (40 * cc + pp) kk i1 i2 i3 B) (hrow : ¬ g (150 + 154 * u) = nI 4 → pp < s → kk = 8 → (d_reads g h u i2 (cx i2) d k (wx i2) (dx i2) (kx i2)).1 = nI 0 → (d_reads g h u i2 (cx i2) d k (wx i2) (dx i2) (kx i2)).2.2 22 = nI 2 → ∃ y, y < 6 ∧ (d_reads g h u i2 (cx i2) d k (wx i2) (dx i2) (kx i2)).2.2 23 = nI y) : WPC V 169 [.ref 27, .int (nI u)] m n ls st t (mM J a g h o) L (m_RR e a b) Q = WP V m n ls ((.int (d_std (d_take J L g h o u (decide (pp < s)) kk i1 i2 i3 d k c cx wx dx kx B) u).1) :: st) t (mM J a (d_std (d_take J L g h o u (decide (pp < s)) kk i1 i2 i3 d k c cx wx dx kx B) u).2.1 (d_std (d_take J L g h o u (decide (pp < s)) kk i1 i2 i3 d k c cx wx dx kx B) u).2.2.1 (d_std (d_take J L g h o u (decide (pp < s)) kk i1 i2 i3 d k c cx wx dx kx B) u).2.2.2) L (m_RR e a b) Q := wpc_of (fun Q => w169b ht hu ha hi hn hn2 hd hg hk hg2 hc hw hs hcc hcc2 hpp hpp2 hsz hs2 hact hrow)
theorem d_do_cg {kk i1 i2 i3 d c : Nat} {cx wx dx kx wx' dx' kx' : Nat → Nat} {B : Int32} (h1 : kk = 5 ∨ kk = 6 ∨ kk = 7 → i1 < 8) (h2 : kk = 4 ∨ kk = 8 → i2 < 8) (hw : ∀ x, x < 8 → wx x = wx' x ∧ dx x = dx' x ∧ kx x = kx' x) : d_do J L g h o u kk i1 i2 i3 d k c cx wx dx kx B = d_do J L g h o u kk i1 i2 i3 d k c cx wx' dx' kx' B := by
  by_cases q4 : kk = 4
  · subst q4
    obtain ⟨e1, e2, e3⟩ := hw i2 (h2 (by omega))
    show d_rda g h o u i1 (d_reads g h u i2 (cx i2) d k (wx i2) (dx i2) (kx i2)) d k c = _
    rw [e1, e2, e3]; rfl
  · by_cases q8 : kk = 8
    · subst q8
      obtain ⟨e1, e2, e3⟩ := hw i2 (h2 (by omega))
      show d_ita J L o u i1 i3 (d_reads g h u i2 (cx i2) d k (wx i2) (dx i2) (kx i2)) d k c = _
      rw [e1, e2, e3]; rfl
    · by_cases q5 : kk = 5
      · subst q5
        obtain ⟨e1, e2, e3⟩ := hw i1 (h1 (by omega))
        show d_wra g h o u i1 (nI 1) (g (150 + 154 * u + 3 + i2)) c (wx i1) (dx i1) (kx i1) d k = _
        rw [e1, e2, e3]; rfl
      · by_cases q6 : kk = 6
        · subst q6
          obtain ⟨e1, e2, e3⟩ := hw i1 (h1 (by omega))
          show d_wra g h o u i1 (nI 2) B c (wx i1) (dx i1) (kx i1) d k = _
          rw [e1, e2, e3]; rfl
        · by_cases q7 : kk = 7
          · subst q7
            obtain ⟨e1, e2, e3⟩ := hw i1 (h1 (by omega))
            show d_wra g h o u i1 (nI 0) (nI 0) c (wx i1) (dx i1) (kx i1) d k = _
            rw [e1, e2, e3]; rfl
          · unfold d_do
            split <;> first | rfl | omega
end T53
def cs_cc (f : Nat → Int32) (u : Nat) : Nat := (f (561 + u)).toNatClampNeg
def cs_pp (f : Nat → Int32) (u : Nat) : Nat := (f (6 + u)).toNatClampNeg
def cs_q (f : Nat → Int32) (u : Nat) : Nat := (cs_cc f u * 40 + cs_pp f u) * 4
def cs_d (f : Nat → Int32) (u : Nat) : Nat := (f (12 + u)).toNatClampNeg
def cs_o (f : Nat → Int32) (u : Nat) : Nat := (c_outer f u).toNatClampNeg
def c_tk (J : m_I) (L : m_L) (f g nn ww : Nat → Int32) (u : Nat) : c_R := c_take J L f g nn ww u (decide (cs_pp f u < (J 5 (cs_cc f u)).toNatClampNeg)) (J 4 (cs_q f u)).toNatClampNeg (J 4 (cs_q f u + 1)).toNatClampNeg (J 4 (cs_q f u + 2)).toNatClampNeg (J 4 (cs_q f u + 3)).toNatClampNeg (cs_d f u) (cs_o f u) (nn 2).toNatClampNeg (J 4 (cs_q f u + 2))
/-- a step of the class, but for what it counts -/
def c_st3 (J : m_I) (L : m_L) (f g nn ww : Nat → Int32) (u : Nat) : c_R := c_ad3 (c_ad2 (c_ad1 (c_tk J L f g nn ww u) u (cs_d f u) (cs_o f u) (nn 2).toNatClampNeg) u) u
def c_stp (J : m_I) (L : m_L) (f g nn ww : Nat → Int32) (u : Nat) : c_R := c_ad4 (c_st3 J L f g nn ww u) u
def ds_cc (g : Nat → Int32) (u : Nat) : Nat := (g (150 + 154 * u + 7)).toNatClampNeg
def ds_pp (g : Nat → Int32) (u : Nat) : Nat := (g (150 + 154 * u + 1)).toNatClampNeg
def ds_p (g : Nat → Int32) (u : Nat) : Nat := 40 * ds_cc g u + ds_pp g u
def ds_d (g : Nat → Int32) (u : Nat) : Nat := (g (150 + 154 * u + 8)).toNatClampNeg
def ds_o (g : Nat → Int32) (u : Nat) : Nat := (g (150 + 154 * u + 110)).toNatClampNeg
def ds_w (g : Nat → Int32) (x : Nat) : Nat := (g (18 * x + 16)).toNatClampNeg
/-- a step of the model -/
def d_stq (J : m_I) (L : m_L) (g h : Nat → Int32) (o : m_I) (u : Nat) : d_R := d_take J L g h o u (decide (ds_pp g u < (J 29 (ds_cc g u)).toNatClampNeg)) (J 30 (ds_p g u)).toNatClampNeg (J 31 (ds_p g u)).toNatClampNeg (J 32 (ds_p g u)).toNatClampNeg (J 33 (ds_p g u)).toNatClampNeg (ds_d g u) (ds_o g u) (h 17).toNatClampNeg (fun x => (g (18 * x + 15)).toNatClampNeg) (ds_w g) (fun x => ds_d g (ds_w g x)) (fun x => ds_o g (ds_w g x)) (J 32 (ds_p g u))
/-- the codes -/
def rl_cd (I : m_I) : Prop := ∀ cc, cc < 6 → ∃ s, s ≤ 40 ∧ I 5 cc = nI s ∧ I 29 cc = nI s ∧ ∀ p, p < s → (I 4 ((cc * 40 + p) * 4) = I 30 (40 * cc + p) ∧ I 4 ((cc * 40 + p) * 4 + 1) = I 31 (40 * cc + p) ∧ I 4 ((cc * 40 + p) * 4 + 2) = I 32 (40 * cc + p) ∧ I 4 ((cc * 40 + p) * 4 + 3) = I 33 (40 * cc + p)) ∧ ∃ kk i1 i2 i3, kk ≤ 21 ∧ c_act (I 4) ((cc * 40 + p) * 4) kk i1 i2 i3 (I 4 ((cc * 40 + p) * 4 + 2))
section RLY
variable {V : m_V} {t m : Nat} {ls st : List Value} {ex : Bool} {J J' I : m_I} {L : m_L} {e : Option Nat} {a : Nat} {Q : Option Value → Nat → m_I → m_L → m_R → Prop} {f g h f' g' h' nn ww f0 nn0 ww0 h0 g26 : Nat → Int32} {oo o0 : m_I} {u v w x k r c c' b b2 bb d o n p j pp i1 i2 i3 kk : Nat} {y z va B : Int32}
/-- an act, read off -/
theorem rl_actx (hc : rl_cd J) {cc : Nat} (hcc : cc < 6) (hp : p < (J 5 cc).toNatClampNeg) : (J 4 ((cc * 40 + p) * 4)).toNatClampNeg ≤ 21 ∧ c_act (J 4) ((cc * 40 + p) * 4) (J 4 ((cc * 40 + p) * 4)).toNatClampNeg (J 4 ((cc * 40 + p) * 4 + 1)).toNatClampNeg (J 4 ((cc * 40 + p) * 4 + 2)).toNatClampNeg (J 4 ((cc * 40 + p) * 4 + 3)).toNatClampNeg (J 4 ((cc * 40 + p) * 4 + 2)) ∧ d_act J (40 * cc + p) (J 4 ((cc * 40 + p) * 4)).toNatClampNeg (J 4 ((cc * 40 + p) * 4 + 1)).toNatClampNeg (J 4 ((cc * 40 + p) * 4 + 2)).toNatClampNeg (J 4 ((cc * 40 + p) * 4 + 3)).toNatClampNeg (J 4 ((cc * 40 + p) * 4 + 2)) := by
  obtain ⟨s, s1, s2, s3, s4⟩ := hc cc hcc
  rw [s2, nI_clamp (by omega)] at hp
  obtain ⟨⟨e0, e1, e2, e3⟩, kk, i1, i2, i3, hkk, a0, a2, a1, ab, ac⟩ := s4 p hp
  have lim : ∀ T : Nat, ∀ i : Nat, i < (m_Bl T).getD kk 0 → T < 1003 → i < 2147483648 := by
    intro T i hi hT
    have : (m_Bl T).getD kk 0 < 2147483648 := by
      have hall : ∀ l : List Nat, (∀ z ∈ l, z < 2147483648) → l.getD kk 0 < 2147483648 := by
        intro l hl
        rw [List.getD_eq_getElem?_getD]
        cases hq : l[kk]? with
        | none => decide
        | some z => exact hl z (List.mem_of_getElem? hq)
      refine hall _ ?_
      by_cases h1 : T = 1000
      · subst h1; decide
      · by_cases h2 : T = 1001
        · subst h2; decide
        · by_cases h3 : T = 1002
          · subst h3; decide
          · intro z hz
            unfold m_Bl at hz
            simp [h1, h2, h3] at hz
            omega
    omega
  have c0 : (J 4 ((cc * 40 + p) * 4)).toNatClampNeg = kk := by rw [a0]; exact nI_clamp (by omega)
  rw [c0]
  refine ⟨hkk, ⟨a0, rfl, fun q => ?_, fun q => ?_, fun q => ?_⟩, ⟨e0.symm.trans a0, e2.symm, fun q => ?_, fun q => ?_, fun q => ?_⟩⟩
  · obtain ⟨b1, b2⟩ := a1 q
    have : (J 4 ((cc * 40 + p) * 4 + 1)).toNatClampNeg = i1 := by rw [b1]; exact nI_clamp (lim 1000 i1 b2 (by omega))
    rw [this]; exact ⟨b1, b2⟩
  · obtain ⟨b1, b2⟩ := ab q
    have : (J 4 ((cc * 40 + p) * 4 + 2)).toNatClampNeg = i2 := by rw [b1]; exact nI_clamp (lim 1001 i2 b2 (by omega))
    rw [this]; exact ⟨b1, b2⟩
  · obtain ⟨b1, b2⟩ := ac q
    have : (J 4 ((cc * 40 + p) * 4 + 3)).toNatClampNeg = i3 := by rw [b1]; exact nI_clamp (lim 1002 i3 b2 (by omega))
    rw [this]; exact ⟨b1, b2⟩
  · obtain ⟨b1, b2⟩ := a1 q
    have : (J 4 ((cc * 40 + p) * 4 + 1)).toNatClampNeg = i1 := by rw [b1]; exact nI_clamp (lim 1000 i1 b2 (by omega))
    rw [this]; exact ⟨e1.symm.trans b1, b2⟩
  · obtain ⟨b1, b2⟩ := ab q
    have : (J 4 ((cc * 40 + p) * 4 + 2)).toNatClampNeg = i2 := by rw [b1]; exact nI_clamp (lim 1001 i2 b2 (by omega))
    rw [this]; exact ⟨b1, b2⟩
  · obtain ⟨b1, b2⟩ := ac q
    have : (J 4 ((cc * 40 + p) * 4 + 3)).toNatClampNeg = i3 := by rw [b1]; exact nI_clamp (lim 1002 i3 b2 (by omega))
    rw [this]; exact ⟨e3.symm.trans b1, b2⟩
set_option maxRecDepth 100000 in
theorem rl_st (hro : rl_ro J L) (hcd : rl_cd J) (hL : rl_L f g h c b b2) (hE : rl_E ex f0 nn0 ww0 h0 o0 f g h nn ww oo b b2 k n) (hu : u < 3) (hs : f (3 + u) = nI 1 ∨ f (3 + u) = nI 4) (hc : c < 1000000000) (hb : b < 1000000000) (hb2 : b2 < 1000000000) (hk : k < 1000000) (ht : 55 ≤ t) (ha : m_aa a) :
    (∀ Q, WP V 70 0 (m_loc 70 [.ref 25, .int (nI u)]) [] t (mC J f g26 nn ww) L (m_RR e a bb) Q = Q (some (.int (c_stp J L f g26 nn ww u).1)) t (mC J (c_stp J L f g26 nn ww u).2.1 (c_stp J L f g26 nn ww u).2.2.1 (c_stp J L f g26 nn ww u).2.2.2.1 (c_stp J L f g26 nn ww u).2.2.2.2) L (m_RR e a bb)) ∧
    (∀ Q, WP V 164 0 (m_loc 164 [.ref 27, .int (nI u)]) [] t (mM J a g h oo) L (m_RR e a bb) Q = Q (some (.int (d_stq J L g h oo u).1)) t (mM J a (d_stq J L g h oo u).2.1 (d_stq J L g h oo u).2.2.1 (d_stq J L g h oo u).2.2.2) L (m_RR e a bb)) ∧
    (∀ Q, WP V 169 0 (m_loc 169 [.ref 27, .int (nI u)]) [] t (mM J a g h oo) L (m_RR e a bb) Q = Q (some (.int (d_std (d_stq J L g h oo u) u).1)) t (mM J a (d_std (d_stq J L g h oo u) u).2.1 (d_std (d_stq J L g h oo u) u).2.2.1 (d_std (d_stq J L g h oo u) u).2.2.2) L (m_RR e a bb)) ∧
    rl_R ex f0 nn0 ww0 h0 o0 c b b2 k (c_st3 J L f g26 nn ww u) (d_stq J L g h oo u) := by
  obtain ⟨d, o, htb⟩ := hL.2.1 u hu
  obtain ⟨d1, d2, d3, d4, d5, d6⟩ := htb.2.2.2.1
  obtain ⟨⟨pp, pp40, hpp⟩, ⟨cc, cc6, hcc⟩, _⟩ := htb.2.2.2.2.2.2.2.1
  obtain ⟨A1, A2, A3, A4⟩ := htb.1
  obtain ⟨s, s1, s2, s3, s4⟩ := hcd cc cc6
  obtain ⟨k1, n1, n60⟩ := hE.2.2.2.1
  have q1 : cs_cc f u = cc := by unfold cs_cc; rw [hcc]; exact nI_clamp (by omega)
  have q2 : cs_pp f u = pp := by unfold cs_pp; rw [hpp]; exact nI_clamp (by omega)
  have q3 : cs_d f u = d := by unfold cs_d; rw [d1]; exact nI_clamp (by omega)
  have q4 : cs_o f u = o := by unfold cs_o; rw [d5]; exact nI_clamp (by omega)
  have q5 : ds_cc g u = cc := by unfold ds_cc; rw [← A4, hcc]; exact nI_clamp (by omega)
  have q6 : ds_pp g u = pp := by unfold ds_pp; rw [← A2, hpp]; exact nI_clamp (by omega)
  have q7 : ds_d g u = d := by unfold ds_d; rw [d2]; exact nI_clamp (by omega)
  have q8 : ds_o g u = o := by unfold ds_o; rw [d6]; exact nI_clamp (by omega)
  have q9 : (nn 2).toNatClampNeg = k := by rw [k1]; exact nI_clamp (by omega)
  have q10 : (h 17).toNatClampNeg = n := by rw [n1]; exact nI_clamp (by omega)
  have q11 : (J 5 cc).toNatClampNeg = s := by rw [s2]; exact nI_clamp (by omega)
  have q12 : (J 29 cc).toNatClampNeg = s := by rw [s3]; exact nI_clamp (by omega)
  have own3 : ∀ x, x < 8 → c_own f x < 3 ∧ ds_w g x = c_own f x := by
    intro x hx
    obtain ⟨v1, v2, v3, v4, v5, v6⟩ := rl_cv hL hx
    refine ⟨?_, by unfold ds_w c_own; rw [v6]⟩
    unfold c_own
    rcases hL.2.2.2.1 x hx with q | ⟨w, w1, w2, _⟩
    · rw [q]; decide
    · rw [w2, nI_clamp (by omega)]; exact w1
  have dds : ∀ w, w < 3 → (f (12 + w)).toNatClampNeg = ds_d g w ∧ (c_outer f w).toNatClampNeg = ds_o g w := by
    intro w hw
    obtain ⟨dw, ow, tw⟩ := hL.2.1 w hw
    obtain ⟨b1, b3, b4, b5, b6, b7⟩ := tw.2.2.2.1
    unfold ds_d ds_o
    rw [b1, b3, b6, b7]
    exact ⟨rfl, rfl⟩
  have hcx : ∀ x, x < 8 → g (18 * x + 15) = nI ((g (18 * x + 15)).toNatClampNeg) ∧ (g (18 * x + 15)).toNatClampNeg ≤ 4 := by
    intro x hx
    obtain ⟨m, hm⟩ := hL.2.2.1 x hx
    rw [hm.2.2.1, nI_clamp (by have := hm.2.1; omega)]
    exact ⟨rfl, hm.2.1⟩
  have hact : pp < s → (J 4 ((cc * 40 + pp) * 4)).toNatClampNeg ≤ 21 ∧ c_act (J 4) ((cc * 40 + pp) * 4) (J 4 ((cc * 40 + pp) * 4)).toNatClampNeg (J 4 ((cc * 40 + pp) * 4 + 1)).toNatClampNeg (J 4 ((cc * 40 + pp) * 4 + 2)).toNatClampNeg (J 4 ((cc * 40 + pp) * 4 + 3)).toNatClampNeg (J 4 ((cc * 40 + pp) * 4 + 2)) ∧ d_act J (40 * cc + pp) (J 4 ((cc * 40 + pp) * 4)).toNatClampNeg (J 4 ((cc * 40 + pp) * 4 + 1)).toNatClampNeg (J 4 ((cc * 40 + pp) * 4 + 2)).toNatClampNeg (J 4 ((cc * 40 + pp) * 4 + 3)).toNatClampNeg (J 4 ((cc * 40 + pp) * 4 + 2)) := fun q => rl_actx hcd cc6 (by rw [q11]; exact q)
  -- the model's own numbers, where an act stands
  have hmod : pp < s → (J 30 (40 * cc + pp)).toNatClampNeg = (J 4 ((cc * 40 + pp) * 4)).toNatClampNeg ∧ (J 31 (40 * cc + pp)).toNatClampNeg = (J 4 ((cc * 40 + pp) * 4 + 1)).toNatClampNeg ∧ (J 32 (40 * cc + pp)).toNatClampNeg = (J 4 ((cc * 40 + pp) * 4 + 2)).toNatClampNeg ∧ (J 33 (40 * cc + pp)).toNatClampNeg = (J 4 ((cc * 40 + pp) * 4 + 3)).toNatClampNeg ∧ J 32 (40 * cc + pp) = J 4 ((cc * 40 + pp) * 4 + 2) := by
    intro q
    obtain ⟨⟨e0, e1, e2, e3⟩, _⟩ := s4 pp q
    rw [e0, e1, e2, e3]
    exact ⟨rfl, rfl, rfl, rfl, rfl⟩
  have hsz8 : ∀ y, y < 6 → ∃ s, s ≤ 16 ∧ J 8 y = nI s := fun y hy => by
    obtain ⟨_, ⟨s, a1, a2, _⟩, _⟩ := hro y hy
    exact ⟨s, a1, a2⟩
  have hsz36 : ∀ y, y < 6 → ∃ s, s ≤ 16 ∧ J 36 y = nI s := fun y hy => by
    obtain ⟨_, ⟨s, a1, _, a2⟩, _⟩ := hro y hy
    exact ⟨s, a1, a2⟩
  have htk : c_tk J L f g26 nn ww u = c_take J L f g26 nn ww u (decide (pp < s)) (J 4 ((cc * 40 + pp) * 4)).toNatClampNeg (J 4 ((cc * 40 + pp) * 4 + 1)).toNatClampNeg (J 4 ((cc * 40 + pp) * 4 + 2)).toNatClampNeg (J 4 ((cc * 40 + pp) * 4 + 3)).toNatClampNeg d o k (J 4 ((cc * 40 + pp) * 4 + 2)) := by
    unfold c_tk cs_q
    rw [q1, q2, q3, q4, q9, q11]
  have hdq : d_stq J L g h oo u = d_take J L g h oo u (decide (pp < s)) (J 4 ((cc * 40 + pp) * 4)).toNatClampNeg (J 4 ((cc * 40 + pp) * 4 + 1)).toNatClampNeg (J 4 ((cc * 40 + pp) * 4 + 2)).toNatClampNeg (J 4 ((cc * 40 + pp) * 4 + 3)).toNatClampNeg d o n (fun x => (g (18 * x + 15)).toNatClampNeg) (c_own f) (rl_dw f) (rl_kw f) (J 4 ((cc * 40 + pp) * 4 + 2)) := by
    unfold d_stq ds_p
    rw [q5, q6, q7, q8, q10, q12]
    by_cases hps : pp < s
    · obtain ⟨m0, m1, m2, m3, m4⟩ := hmod hps
      obtain ⟨x1, x2, x3⟩ := hact hps
      rw [m0, m1, m2, m3, m4]
      unfold d_take
      rw [decide_eq_true hps, if_pos rfl, if_pos rfl]
      by_cases h4 : g (150 + 154 * u) = nI 4
      · rw [if_pos h4, if_pos h4]
      · rw [if_neg h4, if_neg h4]
        refine d_do_cg (fun q => ?_) (fun q => ?_) (fun x hx => ?_)
        · have l1 := x2.2.2.1
          rcases q with q | q | q <;> rw [q] at l1 <;> exact (l1 (by decide)).2
        · have l1 := x2.2.2.2.1
          rcases q with q | q <;> rw [q] at l1 <;> exact (l1 (by decide)).2
        · obtain ⟨o1, o2⟩ := own3 x hx
          obtain ⟨o3, o4⟩ := dds _ o1
          refine ⟨o2, ?_, ?_⟩
          · rw [o2, ← o3]; rfl
          · rw [o2, ← o4]; rfl
    · have ff : ¬ (false = true) := by decide
      unfold d_take
      rw [decide_eq_false hps, if_neg ff, if_neg ff]
  have main := rl_take (g26 := g26) (bw := decide (pp < s)) (cx := fun x => (g (18 * x + 15)).toNatClampNeg) hro hL hE htb hu hs hpp (fun q => by have := of_decide_eq_true q; omega) hc hb hb2 hk (fun q => (hact (of_decide_eq_true q)).1) (fun q z => ((hact (of_decide_eq_true q)).2.1.2.2.1 z).2) (fun q z => (hact (of_decide_eq_true q)).2.1.2.2.2.1 z) (fun q z => ((hact (of_decide_eq_true q)).2.1.2.2.2.2 z).2) hcx
  obtain ⟨hR, hq⟩ := main
  rw [← htk, ← hdq] at hR
  rw [← htk] at hq
  have e3 : c_st3 J L f g26 nn ww u = c_ad3 (c_ad2 (c_ad1 (c_tk J L f g26 nn ww u) u d o k) u) u := by
    unfold c_st3
    rw [q3, q4, q9]
  have e4 : c_stp J L f g26 nn ww u = c_adv (c_tk J L f g26 nn ww u) u d o k := by
    unfold c_stp c_adv
    rw [e3]
  have hdown : ∀ x, x < 8 → d_own g h u x (c_own f x) (rl_dw f x) (rl_kw f x) := fun x hx => rl_down hL hx
  have hi : g (150 + 154 * u + 101) = nI 1 ∨ g (150 + 154 * u + 101) = nI 0 := by
    rcases rl_g101 htb with ⟨_, q⟩ | ⟨_, q, _⟩
    · exact Or.inr q
    · exact Or.inl q
  have hrow : ¬ g (150 + 154 * u) = nI 4 → pp < s → (J 4 ((cc * 40 + pp) * 4)).toNatClampNeg = 8 → (d_reads g h u (J 4 ((cc * 40 + pp) * 4 + 2)).toNatClampNeg ((fun x => (g (18 * x + 15)).toNatClampNeg) (J 4 ((cc * 40 + pp) * 4 + 2)).toNatClampNeg) d o (c_own f (J 4 ((cc * 40 + pp) * 4 + 2)).toNatClampNeg) (rl_dw f (J 4 ((cc * 40 + pp) * 4 + 2)).toNatClampNeg) (rl_kw f (J 4 ((cc * 40 + pp) * 4 + 2)).toNatClampNeg)).1 = nI 0 → (d_reads g h u (J 4 ((cc * 40 + pp) * 4 + 2)).toNatClampNeg ((fun x => (g (18 * x + 15)).toNatClampNeg) (J 4 ((cc * 40 + pp) * 4 + 2)).toNatClampNeg) d o (c_own f (J 4 ((cc * 40 + pp) * 4 + 2)).toNatClampNeg) (rl_dw f (J 4 ((cc * 40 + pp) * 4 + 2)).toNatClampNeg) (rl_kw f (J 4 ((cc * 40 + pp) * 4 + 2)).toNatClampNeg)).2.2 22 = nI 2 → ∃ y, y < 6 ∧ (d_reads g h u (J 4 ((cc * 40 + pp) * 4 + 2)).toNatClampNeg ((fun x => (g (18 * x + 15)).toNatClampNeg) (J 4 ((cc * 40 + pp) * 4 + 2)).toNatClampNeg) d o (c_own f (J 4 ((cc * 40 + pp) * 4 + 2)).toNatClampNeg) (rl_dw f (J 4 ((cc * 40 + pp) * 4 + 2)).toNatClampNeg) (rl_kw f (J 4 ((cc * 40 + pp) * 4 + 2)).toNatClampNeg)).2.2 23 = nI y := by
    intro hn4 hps h8 r1 r2
    · obtain ⟨x1, x2, x3⟩ := hact hps
      have l1 := x2.2.2.2.1
      rw [h8] at l1
      have l2 : (J 4 ((cc * 40 + pp) * 4 + 2)).toNatClampNeg < 8 := (l1 (by decide)).2
      have hcbx := rl_cb_of hL (hcx _ l2).1 (hcx _ l2).2 l2 rfl
      have lk := rl_look (g26 := g26) hL hE htb hu l2 (by omega) rfl (by rw [A1]; exact hn4) hc hcbx
      rcases lk with ⟨_, z1, _⟩ | ⟨_, _, _, _, _, z2, z3, z4, _⟩ | ⟨_, z1, _⟩
      · rw [z1] at r1; exact absurd r1 (by decide)
      · rw [z2] at r2
        rw [r2] at z4
        rcases z4 with z4 | z4 | ⟨_, y, y1, y2⟩
        · exact absurd z4 (by decide)
        · exact absurd z4 (by decide)
        · exact ⟨y, y1, z3.trans y2⟩
      · rw [z1] at r1; exact absurd r1 (by decide)
  refine ⟨fun Q => ?_, fun Q => ?_, fun Q => ?_, ?_⟩
  · rw [e4]
    rw [htk] at hq ⊢
    exact w70 ht hu hcc cc6 hpp (by omega) s2 s1 (fun q => ⟨(hact q).1, (hact q).2.1⟩) (fun x hx => by
      rcases hL.2.2.2.1 x hx with q | ⟨w, w1, w2, _⟩
      · exact Or.inl q
      · exact Or.inr ⟨w, w1, w2⟩) hsz8 k1 hk d3 d1 d5 d4 hq
  · rw [hdq]
    exact w164b ht hu ha hi n1 n60 d3 d2 d4 d6 hcx hdown hsz36 (A4.symm.trans hcc) cc6 (A2.symm.trans hpp) (by omega) s3 s1 (fun q => ⟨(hact q).1, (hact q).2.2⟩) hrow
  · rw [hdq]
    exact w169b ht hu ha hi n1 n60 d3 d2 d4 d6 hcx hdown hsz36 (A4.symm.trans hcc) cc6 (A2.symm.trans hpp) (by omega) s3 s1 (fun q => ⟨(hact q).1, (hact q).2.2⟩) hrow
  · rw [e3]
    exact hR
end RLY
