/-! specs: the model's acts, but one step whole -/
theorem mM_j {J : m_I} {a k : Nat} {g h : Nat → Int32} {o : m_I} (ha : m_aa a) (hk : (k ≠ 28 ∧ k ≠ 48) ∧ k ≠ 27 ∧ (k < 40 ∨ 44 < k)) : mM J a g h o k = J k := mM_o (by rcases ha with rfl | rfl <;> omega) hk.2.1 (by omega)
abbrev d_R : Type := Int32 × (Nat → Int32) × (Nat → Int32) × m_I
def d_psh (g : Nat → Int32) (u v p d : Nat) : Nat → Int32 :=
  let g1 := m_sc (m_sc (m_sc g (150 + 154 * u + 9 + 23 * d) (nI v)) (150 + 154 * u + 9 + 23 * d + 1) (nI p)) (150 + 154 * u + 9 + 23 * d + 2) (g (150 + 154 * u + 101))
  m_sc (if v = 2 then g1 else d_cp (d_cp g1 (150 + 154 * u + 3) (150 + 154 * u + 9 + 23 * d + 3) 4) (150 + 154 * u + 135) (150 + 154 * u + 9 + 23 * d + 7) 16) (150 + 154 * u + 8) (nI (d + 1))
def d_push (g : Nat → Int32) (u v p d : Nat) : Bool × (Nat → Int32) := if d < 4 then (true, d_psh g u v p d) else (false, g)
def d_pop (g : Nat → Int32) (u v fl : Nat) : Nat → Bool × (Nat → Int32)
  | 0 => (false, g)
  | d + 1 => if d < fl then (false, g) else if g (150 + 154 * u + 9 + 23 * d) = nI v then (true, d_drop g u (d + 1) d) else (false, g)
def d_fl (g : Nat → Int32) (u k : Nat) : Nat := if g (150 + 154 * u + 101) = nI 1 then k else 0
def d_bgn (g h : Nat → Int32) (u v : Nat) : Nat → Int32 :=
  let g1 := if h 1 = nI 3 then m_sc g 145 (nI u) else g
  let g2 := d_clear (if v = 3 then m_sc g1 146 (nI u) else g1) u
  let g3 := m_sc (m_sc (m_sc (m_sc g2 (150 + 154 * u + 101) (nI 1)) (150 + 154 * u + 102) (nI v)) (150 + 154 * u + 103) (g2 144)) (150 + 154 * u + 104) (h 2)
  let g4 := m_sc (m_sc g3 (150 + 154 * u + 1) (g2 (150 + 154 * u + 1) + nI 1)) (150 + 154 * u + 105) (g2 (150 + 154 * u + 1) + nI 1)
  m_sc (d_cp g4 (150 + 154 * u + 3) (150 + 154 * u + 106) 4) (150 + 154 * u + 110) (g2 (150 + 154 * u + 8))
def d_begin (g h : Nat → Int32) (o : m_I) (u v d k c : Nat) : d_R :=
  if g (150 + 154 * u + 101) = nI 1 then d_fails g h o u (nI 5) d k c
  else if (decide (h 1 = nI 3) && d_lkd g u) || (decide (v = 3) && decide (¬ g 146 = -1)) then (nI 0, g, h, o)
  else (nI 1, d_bgn g h u v, m_sc h 2 (h 2 + nI 1), o)
def d_next (g : Nat → Int32) (u : Nat) : Nat → Int32 := m_sc g (150 + 154 * u + 1) (g (150 + 154 * u + 1) + nI 1)
def d_goes (g : Nat → Int32) (u : Nat) (v : Int32) : Nat → Int32 := m_sc g (150 + 154 * u + 1) v
def d_mh (g : Nat → Int32) (u x : Nat) : Bool := (decide (¬ g (150 + 154 * u + 111 + x) = -1) || decide (¬ g (150 + 154 * u + 135 + 2 * x) = -1)) && d_held g u x
def d_meets (g : Nat → Int32) (u : Nat) : Bool := s_any (d_mh g u) 0 8
def d_enda (g h : Nat → Int32) (o : m_I) (u d k c : Nat) : d_R :=
  if decide (g (150 + 154 * u + 101) = nI 0) || decide (k < d) then d_fails g h o u (nI 5) d k c
  else if decide (¬ h 1 = nI 3) && (decide (¬ g (150 + 154 * u + 102) = nI 3) && d_meets g u) then (nI 0, g, h, o)
  else if decide (¬ h 1 = nI 3) && (decide (¬ g (150 + 154 * u + 102) = nI 3) && d_ch g u) then (nI 2, d_anew g u d k, d_anh h, o)
  else (nI 1, d_next (d_end (d_ct g u) u) u, d_cno g h o u c)
/-- from the innermost scope on, d of them, down to k: the or-else -/
def d_rt (g : Nat → Int32) (u k : Nat) : Nat → Option Nat
  | 0 => none
  | d + 1 => if d < k then none else if g (150 + 154 * u + 9 + 23 * d) = nI 0 then some d else d_rt g u k d
def d_rto (g : Nat → Int32) (u d i : Nat) : Nat → Int32 := d_drop (m_sc (d_load g u i) (150 + 154 * u + 1) (d_load g u i (150 + 154 * u + 9 + 23 * i + 1))) u d i
def d_slp (g : Nat → Int32) (u : Nat) : Nat → Int32 := m_sc (d_unlock (d_dis (d_el g u) u) u) (150 + 154 * u) (nI 4)
def d_retry (g h : Nat → Int32) (o : m_I) (u d k c : Nat) : d_R :=
  if decide (g (150 + 154 * u + 101) = nI 0) || decide (¬ g (150 + 154 * u + 102) = nI 2) then d_fails g h o u (nI 5) d k c
  else match d_rt g u k d with
    | some i => (nI 1, d_rto g u d i, h, o)
    | none => if d_ch g u then (nI 2, d_anew g u d k, d_anh h, o) else (nI 5, d_slp g u, h, o)
def d_wak (g h : Nat → Int32) (u : Nat) : Nat → Int32 := m_sc (if h 1 = nI 3 then m_sc g 145 (nI u) else g) (150 + 154 * u) (nI 1)
def d_wakes (g h : Nat → Int32) (o : m_I) (u d k : Nat) : d_R :=
  if decide (d_ch g u = false) || (decide (h 1 = nI 3) && d_lkd g u) then (nI 0, g, h, o) else (nI 2, d_anew (d_wak g h u) u d k, d_anh h, o)
section T34
variable {V : m_V} {t m n : Nat} {ls st : List Value} {I J : m_I} {g h : Nat → Int32} {o : m_I} {L : m_L} {R : m_R} {e : Option Nat} {a b : Nat} {Q : Option Value → Nat → m_I → m_L → m_R → Prop} {u x k : Nat}
theorem w156_52 (ht : 55 ≤ t) (hu : u < 3) (ha : m_aa a) {d : Nat} (hd : d < 4) {w2 w3 : Value} {y5 : Int32} : ∀ (c x : Nat) (g : Nat → Int32), x + c = 4 → WP V 156 52 [.ref 27, .int (nI u), w2, w3, .int (nI (150 + 154 * u)), .int y5, .int (nI (150 + 154 * u + 9 + 23 * d)), .int (nI x)] [] t (mM J a g h o) L (m_RR e a b) Q = WP V 156 73 [.ref 27, .int (nI u), w2, w3, .int (nI (150 + 154 * u)), .int y5, .int (nI (150 + 154 * u + 9 + 23 * d)), .int (nI 4)] [] t (mM J a (s_loop (d_cp1 (150 + 154 * u + 3) (150 + 154 * u + 9 + 23 * d + 3)) x c g) h o) L (m_RR e a b) Q := by
  have hA := mA_of ha
  have hat := mA_lt ha ht
  intro c
  induction c with
  | zero =>
    intro x g hx
    obtain rfl : x = 4 := by omega
    rw [i156_52]
    simp (disch := first | assumption | omega | decide) only [nI_add, n_mul, n_sub, n_le, n_lt, n_eq, n_ne1, n_0, m_bl_t, m_bl_f, if_true, if_false, Nat.reduceAdd, Nat.reduceMul, Nat.reduceSub, Nat.reduceLeDiff, Nat.reduceEqDiff, Nat.add_zero, Nat.add_sub_cancel, Option.toList, List.cons_append, List.nil_append, i156_53, i156_54, Nat.le_refl, s_loop]
  | succ c ih =>
    intro x g hx
    have hx8 : ¬ 4 ≤ x := by omega
    have hx7 : x < 4 := by omega
    rw [i156_52, s_loop]
    simp (disch := first | assumption | omega | decide) only [nI_add, n_mul, n_sub, n_le, n_lt, n_eq, n_ne1, n_0, m_bl_t, m_bl_f, if_true, if_false, Nat.reduceAdd, Nat.reduceMul, Nat.reduceSub, Nat.reduceLeDiff, Nat.reduceEqDiff, Nat.add_zero, Nat.add_sub_cancel, Option.toList, List.cons_append, List.nil_append, i156_53, i156_54, i156_55, i156_56, i156_57, i156_58, i156_59, i156_60, i156_61, i156_62, i156_63, i156_64, i156_65, i156_66, i156_67, i156_68, i156_69, i156_70, i156_71, i156_72, rv_27_0, hx8, mM_a, mM_sa]
    exact ih (x + 1) (d_cp1 (150 + 154 * u + 3) (150 + 154 * u + 9 + 23 * d + 3) x g) (by omega)
theorem w156_75 (ht : 55 ≤ t) (hu : u < 3) (ha : m_aa a) {d : Nat} (hd : d < 4) {w2 w3 : Value} {y5 : Int32} : ∀ (c x : Nat) (g : Nat → Int32), x + c = 16 → WP V 156 75 [.ref 27, .int (nI u), w2, w3, .int (nI (150 + 154 * u)), .int y5, .int (nI (150 + 154 * u + 9 + 23 * d)), .int (nI x)] [] t (mM J a g h o) L (m_RR e a b) Q = WP V 156 96 [.ref 27, .int (nI u), w2, w3, .int (nI (150 + 154 * u)), .int y5, .int (nI (150 + 154 * u + 9 + 23 * d)), .int (nI 16)] [] t (mM J a (s_loop (d_cp1 (150 + 154 * u + 135) (150 + 154 * u + 9 + 23 * d + 7)) x c g) h o) L (m_RR e a b) Q := by
  have hA := mA_of ha
  have hat := mA_lt ha ht
  intro c
  induction c with
  | zero =>
    intro x g hx
    obtain rfl : x = 16 := by omega
    rw [i156_75]
    simp (disch := first | assumption | omega | decide) only [nI_add, n_mul, n_sub, n_le, n_lt, n_eq, n_ne1, n_0, m_bl_t, m_bl_f, if_true, if_false, Nat.reduceAdd, Nat.reduceMul, Nat.reduceSub, Nat.reduceLeDiff, Nat.reduceEqDiff, Nat.add_zero, Nat.add_sub_cancel, Option.toList, List.cons_append, List.nil_append, i156_76, i156_77, Nat.le_refl, s_loop]
  | succ c ih =>
    intro x g hx
    have hx8 : ¬ 16 ≤ x := by omega
    have hx7 : x < 16 := by omega
    rw [i156_75, s_loop]
    simp (disch := first | assumption | omega | decide) only [nI_add, n_mul, n_sub, n_le, n_lt, n_eq, n_ne1, n_0, m_bl_t, m_bl_f, if_true, if_false, Nat.reduceAdd, Nat.reduceMul, Nat.reduceSub, Nat.reduceLeDiff, Nat.reduceEqDiff, Nat.add_zero, Nat.add_sub_cancel, Option.toList, List.cons_append, List.nil_append, i156_76, i156_77, i156_78, i156_79, i156_80, i156_81, i156_82, i156_83, i156_84, i156_85, i156_86, i156_87, i156_88, i156_89, i156_90, i156_91, i156_92, i156_93, i156_94, i156_95, rv_27_0, hx8, mM_a, mM_sa]
    exact ih (x + 1) (d_cp1 (150 + 154 * u + 135) (150 + 154 * u + 9 + 23 * d + 7) x g) (by omega)
theorem w156 (ht : 55 ≤ t) (hu : u < 3) (ha : m_aa a) {v p d : Nat} (hv : v < 3) (hd : d ≤ 4) (hg : g (150 + 154 * u + 8) = nI d) : WP V 156 0 (m_loc 156 [.ref 27, .int (nI u), .int (nI v), .int (nI p)]) [] t (mM J a g h o) L (m_RR e a b) Q = Q (some (.int (m_bl (d_push g u v p d).1))) t (mM J a (d_push g u v p d).2 h o) L (m_RR e a b) := by
  have hA := mA_of ha
  have hat := mA_lt ha ht
  rw [show m_loc 156 [.ref 27, .int (nI u), .int (nI v), .int (nI p)] = [.ref 27, .int (nI u), .int (nI v), .int (nI p), m_u, m_u, m_u, m_u] from rfl]
  simp (disch := first | assumption | omega | decide) only [nI_add, n_mul, n_sub, n_le, n_lt, n_eq, n_ne1, n_0, m_bl_t, m_bl_f, if_true, if_false, Nat.reduceAdd, Nat.reduceMul, Nat.reduceSub, Nat.reduceLeDiff, Nat.reduceEqDiff, Nat.add_zero, Nat.add_sub_cancel, Option.toList, List.cons_append, List.nil_append, i156_0, i156_1, i156_2, i156_3, i156_4, i156_5, i156_6, i156_7, i156_8, i156_9, i156_10, i156_11, rv_27_0, mM_a, c113, hg]
  unfold d_push
  by_cases h4 : d = 4
  · have h5 : ¬ d < 4 := by omega
    simp (disch := first | assumption | omega | decide) only [nI_add, n_mul, n_sub, n_le, n_lt, n_eq, n_ne1, n_0, m_bl_t, m_bl_f, if_true, if_false, Nat.reduceAdd, Nat.reduceMul, Nat.reduceSub, Nat.reduceLeDiff, Nat.reduceEqDiff, Nat.add_zero, Nat.add_sub_cancel, Option.toList, List.cons_append, List.nil_append, h4, i156_12, i156_13, i156_14, m_bl_f, Nat.lt_irrefl]
  · have h5 : d < 4 := by omega
    rw [if_pos h5]
    unfold d_psh
    have e9 : 150 + 154 * u + 9 + 23 * d = 150 + 154 * u + 9 + 23 * d := rfl
    simp (disch := first | assumption | omega | decide) only [nI_add, n_mul, n_sub, n_le, n_lt, n_eq, n_ne1, n_0, m_bl_t, m_bl_f, if_true, if_false, Nat.reduceAdd, Nat.reduceMul, Nat.reduceSub, Nat.reduceLeDiff, Nat.reduceEqDiff, Nat.add_zero, Nat.add_sub_cancel, Option.toList, List.cons_append, List.nil_append, h4, i156_12, i156_15, i156_16, i156_17, i156_18, i156_19, i156_20, i156_21, i156_22, i156_23, i156_24, i156_25, i156_26, i156_27, i156_28, i156_29, i156_30, i156_31, i156_32, i156_33, i156_34, i156_35, i156_36, i156_37, i156_38, i156_39, i156_40, i156_41, i156_42, i156_43, i156_44, i156_45, i156_46, i156_47, i156_48, rv_27_0, mM_a, mM_sa, m_sc_ne]
    by_cases h6 : v = 2
    · simp (disch := first | assumption | omega | decide) only [nI_add, n_mul, n_sub, n_le, n_lt, n_eq, n_ne1, n_0, m_bl_t, m_bl_f, if_true, if_false, Nat.reduceAdd, Nat.reduceMul, Nat.reduceSub, Nat.reduceLeDiff, Nat.reduceEqDiff, Nat.add_zero, Nat.add_sub_cancel, Option.toList, List.cons_append, List.nil_append, h6, i156_49, i156_96, i156_97, i156_98, i156_99, i156_100, i156_101, i156_102, i156_103, i156_104, i156_105, i156_106, rv_27_0, mM_a, mM_sa, m_bl_t]
    · simp (disch := first | assumption | omega | decide) only [nI_add, n_mul, n_sub, n_le, n_lt, n_eq, n_ne1, n_0, m_bl_t, m_bl_f, if_true, if_false, Nat.reduceAdd, Nat.reduceMul, Nat.reduceSub, Nat.reduceLeDiff, Nat.reduceEqDiff, Nat.add_zero, Nat.add_sub_cancel, Option.toList, List.cons_append, List.nil_append, h6, i156_49, i156_50, i156_51]
      rw [w156_52 ht hu ha h5 4 0 _ rfl]
      simp (disch := first | assumption | omega | decide) only [nI_add, n_mul, n_sub, n_le, n_lt, n_eq, n_ne1, n_0, m_bl_t, m_bl_f, if_true, if_false, Nat.reduceAdd, Nat.reduceMul, Nat.reduceSub, Nat.reduceLeDiff, Nat.reduceEqDiff, Nat.add_zero, Nat.add_sub_cancel, Option.toList, List.cons_append, List.nil_append, i156_73, i156_74]
      rw [w156_75 ht hu ha h5 16 0 _ rfl]
      simp (disch := first | assumption | omega | decide) only [nI_add, n_mul, n_sub, n_le, n_lt, n_eq, n_ne1, n_0, m_bl_t, m_bl_f, if_true, if_false, Nat.reduceAdd, Nat.reduceMul, Nat.reduceSub, Nat.reduceLeDiff, Nat.reduceEqDiff, Nat.add_zero, Nat.add_sub_cancel, Option.toList, List.cons_append, List.nil_append, i156_96, i156_97, i156_98, i156_99, i156_100, i156_101, i156_102, i156_103, i156_104, i156_105, i156_106, rv_27_0, mM_a, mM_sa, m_bl_t]
      rfl
theorem c156 (ht : 55 ≤ t) (hu : u < 3) (ha : m_aa a) {v p d : Nat} (hv : v < 3) (hd : d ≤ 4) (hg : g (150 + 154 * u + 8) = nI d) : WPC V 156 [.ref 27, .int (nI u), .int (nI v), .int (nI p)] m n ls st t (mM J a g h o) L (m_RR e a b) Q = WP V m n ls ((.int (m_bl (d_push g u v p d).1)) :: st) t (mM J a (d_push g u v p d).2 h o) L (m_RR e a b) Q := wpc_of (fun Q => w156 ht hu ha hv hd hg)
theorem w157 (ht : 55 ≤ t) (hu : u < 3) (ha : m_aa a) {v d : Nat} (hv : v < 3) (hd : d ≤ 4) (hg : g (150 + 154 * u + 8) = nI d) (hk : k ≤ d) (hg2 : g (150 + 154 * u + 110) = nI k) : WP V 157 0 (m_loc 157 [.ref 27, .int (nI u), .int (nI v)]) [] t (mM J a g h o) L (m_RR e a b) Q = Q (some (.int (m_bl (d_pop g u v (d_fl g u k) d).1))) t (mM J a (d_pop g u v (d_fl g u k) d).2 h o) L (m_RR e a b) := by
  have hA := mA_of ha
  have hat := mA_lt ha ht
  rw [show m_loc 157 [.ref 27, .int (nI u), .int (nI v)] = [.ref 27, .int (nI u), .int (nI v), m_u, m_u, m_u] from rfl]
  have pre : WP V 157 0 [.ref 27, .int (nI u), .int (nI v), m_u, m_u, m_u] [] t (mM J a g h o) L (m_RR e a b) Q = WP V 157 29 [.ref 27, .int (nI u), .int (nI v), .int (nI (150 + 154 * u)), .int (nI d - nI 1), .int (nI (d_fl g u k))] [] t (mM J a g h o) L (m_RR e a b) Q := by
    simp (disch := first | assumption | omega | decide) only [nI_add, n_mul, n_sub, n_le, n_lt, n_eq, n_ne1, n_0, m_bl_t, m_bl_f, if_true, if_false, Nat.reduceAdd, Nat.reduceMul, Nat.reduceSub, Nat.reduceLeDiff, Nat.reduceEqDiff, Nat.add_zero, Nat.add_sub_cancel, Option.toList, List.cons_append, List.nil_append, i157_0, i157_1, i157_2, i157_3, i157_4, i157_5, i157_6, i157_7, i157_8, rv_27_0, mM_a, c113, hg]
    simp (disch := first | assumption | omega | decide) only [i157_9, i157_10, i157_11, i157_12, i157_13, i157_14, i157_15, i157_16, i157_17, i157_18, rv_27_0, mM_a, nI_add]
    unfold d_fl
    by_cases h1 : g (150 + 154 * u + 101) = nI 1
    · simp (disch := first | assumption | omega | decide) only [nI_add, n_mul, n_sub, n_le, n_lt, n_eq, n_ne1, n_0, m_bl_t, m_bl_f, if_true, if_false, Nat.reduceAdd, Nat.reduceMul, Nat.reduceSub, Nat.reduceLeDiff, Nat.reduceEqDiff, Nat.add_zero, Nat.add_sub_cancel, Option.toList, List.cons_append, List.nil_append, h1, i157_19, i157_20, i157_21, i157_22, i157_23, i157_24, i157_25, i157_26, i157_27, i157_28, rv_27_0, mM_a, hg2]
    · simp (disch := first | assumption | omega | decide) only [nI_add, n_mul, n_sub, n_le, n_lt, n_eq, n_ne1, n_0, m_bl_t, m_bl_f, if_true, if_false, Nat.reduceAdd, Nat.reduceMul, Nat.reduceSub, Nat.reduceLeDiff, Nat.reduceEqDiff, Nat.add_zero, Nat.add_sub_cancel, Option.toList, List.cons_append, List.nil_append, h1, i157_19, i157_20, i157_21, i157_22, i157_23, i157_24, i157_25, i157_26, i157_27, i157_28, rv_27_0, mM_a, hg2]
  rw [pre]
  have hfl : d_fl g u k ≤ 4 := by unfold d_fl; split <;> omega
  cases d with
  | zero =>
    have h9 : (-1 : Int32) < nI (d_fl g u k) := by rw [n_lm1 (by omega)]; trivial
    rw [n_sm0]
    simp (disch := first | assumption | omega | decide) only [nI_add, n_mul, n_sub, n_le, n_lt, n_eq, n_ne1, n_0, m_bl_t, m_bl_f, if_true, if_false, Nat.reduceAdd, Nat.reduceMul, Nat.reduceSub, Nat.reduceLeDiff, Nat.reduceEqDiff, Nat.add_zero, Nat.add_sub_cancel, Option.toList, List.cons_append, List.nil_append, i157_29, i157_30, i157_31, i157_44, i157_45, h9, d_pop, m_bl_f]
  | succ d =>
    have e0 : nI (d + 1) - nI 1 = nI d := by rw [n_sub (by omega), Nat.add_sub_cancel]
    rw [e0, d_pop]
    by_cases h1 : d < d_fl g u k
    · simp (disch := first | assumption | omega | decide) only [nI_add, n_mul, n_sub, n_le, n_lt, n_eq, n_ne1, n_0, m_bl_t, m_bl_f, if_true, if_false, Nat.reduceAdd, Nat.reduceMul, Nat.reduceSub, Nat.reduceLeDiff, Nat.reduceEqDiff, Nat.add_zero, Nat.add_sub_cancel, Option.toList, List.cons_append, List.nil_append, i157_29, i157_30, i157_31, i157_44, i157_45, h1, m_bl_f]
    · by_cases h2 : g (150 + 154 * u + 9 + 23 * d) = nI v
      · simp (disch := first | assumption | omega | decide) only [nI_add, n_mul, n_sub, n_le, n_lt, n_eq, n_ne1, n_0, m_bl_t, m_bl_f, if_true, if_false, Nat.reduceAdd, Nat.reduceMul, Nat.reduceSub, Nat.reduceLeDiff, Nat.reduceEqDiff, Nat.add_zero, Nat.add_sub_cancel, Option.toList, List.cons_append, List.nil_append, i157_29, i157_30, i157_31, i157_32, i157_33, i157_34, i157_35, i157_36, i157_37, i157_38, i157_39, i157_40, i157_41, i157_42, i157_43, i157_44, i157_45, i157_46, i157_47, i157_48, i157_49, i157_50, i157_51, rv_27_0, h1, h2, mM_a, c141 ht hu ha hd hg (Nat.le_succ d), m_bl_t]
      · simp (disch := first | assumption | omega | decide) only [nI_add, n_mul, n_sub, n_le, n_lt, n_eq, n_ne1, n_0, m_bl_t, m_bl_f, if_true, if_false, Nat.reduceAdd, Nat.reduceMul, Nat.reduceSub, Nat.reduceLeDiff, Nat.reduceEqDiff, Nat.add_zero, Nat.add_sub_cancel, Option.toList, List.cons_append, List.nil_append, i157_29, i157_30, i157_31, i157_32, i157_33, i157_34, i157_35, i157_36, i157_37, i157_38, i157_39, i157_40, i157_41, i157_42, i157_43, i157_44, i157_45, rv_27_0, h1, h2, mM_a, m_bl_f]
theorem c157 (ht : 55 ≤ t) (hu : u < 3) (ha : m_aa a) {v d : Nat} (hv : v < 3) (hd : d ≤ 4) (hg : g (150 + 154 * u + 8) = nI d) (hk : k ≤ d) (hg2 : g (150 + 154 * u + 110) = nI k) : WPC V 157 [.ref 27, .int (nI u), .int (nI v)] m n ls st t (mM J a g h o) L (m_RR e a b) Q = WP V m n ls ((.int (m_bl (d_pop g u v (d_fl g u k) d).1)) :: st) t (mM J a (d_pop g u v (d_fl g u k) d).2 h o) L (m_RR e a b) Q := wpc_of (fun Q => w157 ht hu ha hv hd hg hk hg2)
theorem w162 (ht : 55 ≤ t) (hu : u < 3) (ha : m_aa a) : WP V 162 0 (m_loc 162 [.ref 27, .int (nI u)]) [] t (mM J a g h o) L (m_RR e a b) Q = Q (some (.int (nI 1))) t (mM J a (d_next g u) h o) L (m_RR e a b) := by
  have hA := mA_of ha
  have hat := mA_lt ha ht
  rw [show m_loc 162 [.ref 27, .int (nI u)] = [.ref 27, .int (nI u)] from rfl]
  simp (disch := first | assumption | omega | decide) only [nI_add, n_mul, n_sub, n_le, n_lt, n_eq, n_ne1, n_0, m_bl_t, m_bl_f, if_true, if_false, Nat.reduceAdd, Nat.reduceMul, Nat.reduceSub, Nat.reduceLeDiff, Nat.reduceEqDiff, Nat.add_zero, Nat.add_sub_cancel, Option.toList, List.cons_append, List.nil_append, i162_0, i162_1, i162_2, i162_3, i162_4, i162_5, i162_6, i162_7, i162_8, i162_9, i162_10, i162_11, i162_12, rv_27_0, mM_a, mM_sa, c113]
  rfl
theorem c162 (ht : 55 ≤ t) (hu : u < 3) (ha : m_aa a) : WPC V 162 [.ref 27, .int (nI u)] m n ls st t (mM J a g h o) L (m_RR e a b) Q = WP V m n ls ((.int (nI 1)) :: st) t (mM J a (d_next g u) h o) L (m_RR e a b) Q := wpc_of (fun Q => w162 ht hu ha)
theorem w163 (ht : 55 ≤ t) (hu : u < 3) (ha : m_aa a) {v : Int32} : WP V 163 0 (m_loc 163 [.ref 27, .int (nI u), .int v]) [] t (mM J a g h o) L (m_RR e a b) Q = Q (some (.int (nI 1))) t (mM J a (d_goes g u v) h o) L (m_RR e a b) := by
  have hA := mA_of ha
  have hat := mA_lt ha ht
  rw [show m_loc 163 [.ref 27, .int (nI u), .int v] = [.ref 27, .int (nI u), .int v] from rfl]
  simp (disch := first | assumption | omega | decide) only [nI_add, n_mul, n_sub, n_le, n_lt, n_eq, n_ne1, n_0, m_bl_t, m_bl_f, if_true, if_false, Nat.reduceAdd, Nat.reduceMul, Nat.reduceSub, Nat.reduceLeDiff, Nat.reduceEqDiff, Nat.add_zero, Nat.add_sub_cancel, Option.toList, List.cons_append, List.nil_append, i163_0, i163_1, i163_2, i163_3, i163_4, i163_5, i163_6, i163_7, i163_8, i163_9, rv_27_0, mM_a, mM_sa, c113]
  rfl
theorem c163 (ht : 55 ≤ t) (hu : u < 3) (ha : m_aa a) {v : Int32} : WPC V 163 [.ref 27, .int (nI u), .int v] m n ls st t (mM J a g h o) L (m_RR e a b) Q = WP V m n ls ((.int (nI 1)) :: st) t (mM J a (d_goes g u v) h o) L (m_RR e a b) Q := wpc_of (fun Q => w163 ht hu ha)
theorem w158_117 (ht : 55 ≤ t) (hu : u < 3) (ha : m_aa a) {w2 : Value} : ∀ (c x : Nat) (g : Nat → Int32), x + c = 4 → WP V 158 117 [.ref 27, .int (nI u), w2, .int (nI (150 + 154 * u)), .int (nI x)] [] t (mM J a g h o) L (m_RR e a b) Q = WP V 158 138 [.ref 27, .int (nI u), w2, .int (nI (150 + 154 * u)), .int (nI 4)] [] t (mM J a (s_loop (d_cp1 (150 + 154 * u + 3) (150 + 154 * u + 106)) x c g) h o) L (m_RR e a b) Q := by
  have hA := mA_of ha
  have hat := mA_lt ha ht
  intro c
  induction c with
  | zero =>
    intro x g hx
    obtain rfl : x = 4 := by omega
    rw [i158_117]
    simp (disch := first | assumption | omega | decide) only [nI_add, n_mul, n_sub, n_le, n_lt, n_eq, n_ne1, n_0, m_bl_t, m_bl_f, if_true, if_false, Nat.reduceAdd, Nat.reduceMul, Nat.reduceSub, Nat.reduceLeDiff, Nat.reduceEqDiff, Nat.add_zero, Nat.add_sub_cancel, Option.toList, List.cons_append, List.nil_append, i158_118, i158_119, Nat.le_refl, s_loop]
  | succ c ih =>
    intro x g hx
    have hx8 : ¬ 4 ≤ x := by omega
    have hx7 : x < 4 := by omega
    rw [i158_117, s_loop]
    simp (disch := first | assumption | omega | decide) only [nI_add, n_mul, n_sub, n_le, n_lt, n_eq, n_ne1, n_0, m_bl_t, m_bl_f, if_true, if_false, Nat.reduceAdd, Nat.reduceMul, Nat.reduceSub, Nat.reduceLeDiff, Nat.reduceEqDiff, Nat.add_zero, Nat.add_sub_cancel, Option.toList, List.cons_append, List.nil_append, i158_118, i158_119, i158_120, i158_121, i158_122, i158_123, i158_124, i158_125, i158_126, i158_127, i158_128, i158_129, i158_130, i158_131, i158_132, i158_133, i158_134, i158_135, i158_136, i158_137, rv_27_0, hx8, mM_a, mM_sa]
    exact ih (x + 1) (d_cp1 (150 + 154 * u + 3) (150 + 154 * u + 106) x g) (by omega)
theorem d_clear_101 {g : Nat → Int32} {u : Nat} : d_clear g u (150 + 154 * u + 101) = nI 0 := by
  unfold d_clear
  rw [d_el_o (by omega), d_er_o (by omega)]
  exact if_pos (by omega)
theorem w158_52 (ht : 55 ≤ t) (hu : u < 3) (ha : m_aa a) {v : Nat} (hv : v < 4) : WP V 158 52 [.ref 27, .int (nI u), .int (nI v), .int (nI (150 + 154 * u)), m_u] [] t (mM J a g h o) L (m_RR e a b) Q = Q (some (.int (nI 1))) t (mM J a (
  let g2 := d_clear g u
  let g3 := m_sc (m_sc (m_sc (m_sc g2 (150 + 154 * u + 101) (nI 1)) (150 + 154 * u + 102) (nI v)) (150 + 154 * u + 103) (g2 144)) (150 + 154 * u + 104) (h 2)
  let g4 := m_sc (m_sc g3 (150 + 154 * u + 1) (g2 (150 + 154 * u + 1) + nI 1)) (150 + 154 * u + 105) (g2 (150 + 154 * u + 1) + nI 1)
  m_sc (d_cp g4 (150 + 154 * u + 3) (150 + 154 * u + 106) 4) (150 + 154 * u + 110) (g2 (150 + 154 * u + 8))) (m_sc h 2 (h 2 + nI 1)) o) L (m_RR e a b) := by
  have hA := mA_of ha
  have hat := mA_lt ha ht
  simp (disch := first | assumption | omega | decide) only [nI_add, n_mul, n_sub, n_le, n_lt, n_eq, n_ne1, n_0, m_bl_t, m_bl_f, if_true, if_false, Nat.reduceAdd, Nat.reduceMul, Nat.reduceSub, Nat.reduceLeDiff, Nat.reduceEqDiff, Nat.add_zero, Nat.add_sub_cancel, Option.toList, List.cons_append, List.nil_append, i158_52, i158_53, i158_54, i158_55, i158_56, i158_57, i158_58, i158_59, i158_60, i158_61, i158_62, i158_63, i158_64, i158_65, i158_66, i158_67, i158_68, i158_69, i158_70, i158_71, i158_72, i158_73, i158_74, i158_75, i158_76, i158_77, i158_78, i158_79, i158_80, i158_81, i158_82, i158_83, i158_84, i158_85, i158_86, i158_87, i158_88, i158_89, i158_90, i158_91, i158_92, i158_93, i158_94, i158_95, i158_96, i158_97, i158_98, i158_99, i158_100, i158_101, i158_102, i158_103, i158_104, i158_105, i158_106, i158_107, i158_108, i158_109, i158_110, i158_111, i158_112, i158_113, i158_114, i158_115, i158_116, rv_27_0, mM_a, mM_sa, mM_27, mM_s27, c116, m_sc_ne, m_sc_self]
  rw [w158_117 ht hu ha 4 0 _ rfl]
  rw [show ∀ G, s_loop (d_cp1 (150 + 154 * u + 3) (150 + 154 * u + 106)) 0 4 G = d_cp G (150 + 154 * u + 3) (150 + 154 * u + 106) 4 from fun _ => rfl]
  have e8 : ∀ G : Nat → Int32, d_cp G (150 + 154 * u + 3) (150 + 154 * u + 106) 4 (150 + 154 * u + 8) = G (150 + 154 * u + 8) := fun G => d_cp_o (by omega)
  simp (disch := first | assumption | omega | decide) only [nI_add, n_mul, n_sub, n_le, n_lt, n_eq, n_ne1, n_0, m_bl_t, m_bl_f, if_true, if_false, Nat.reduceAdd, Nat.reduceMul, Nat.reduceSub, Nat.reduceLeDiff, Nat.reduceEqDiff, Nat.add_zero, Nat.add_sub_cancel, Option.toList, List.cons_append, List.nil_append, i158_138, i158_139, i158_140, i158_141, i158_142, i158_143, i158_144, i158_145, i158_146, i158_147, i158_148, i158_149, i158_150, i158_151, rv_27_0, mM_a, mM_sa, mM_s27, mM_27, e8, m_sc_ne]
theorem w158 (ht : 55 ≤ t) (hu : u < 3) (ha : m_aa a) {v c d : Nat} (hv : v < 4) (hi : g (150 + 154 * u + 101) = nI 1 ∨ g (150 + 154 * u + 101) = nI 0) (hn : h 17 = nI c) (hn2 : c ≤ 60) (hd : d ≤ 4) (hg : g (150 + 154 * u + 8) = nI d) (hk : k ≤ d) (hg2 : g (150 + 154 * u + 110) = nI k) : WP V 158 0 (m_loc 158 [.ref 27, .int (nI u), .int (nI v)]) [] t (mM J a g h o) L (m_RR e a b) Q = Q (some (.int (d_begin g h o u v d k c).1)) t (mM J a (d_begin g h o u v d k c).2.1 (d_begin g h o u v d k c).2.2.1 (d_begin g h o u v d k c).2.2.2) L (m_RR e a b) := by
  have hA := mA_of ha
  have hat := mA_lt ha ht
  rw [show m_loc 158 [.ref 27, .int (nI u), .int (nI v)] = [.ref 27, .int (nI u), .int (nI v), m_u, m_u] from rfl]
  have mid : ∀ (G : Nat → Int32), WP V 158 44 [.ref 27, .int (nI u), .int (nI v), .int (nI (150 + 154 * u)), m_u] [] t (mM J a G h o) L (m_RR e a b) Q = WP V 158 52 [.ref 27, .int (nI u), .int (nI v), .int (nI (150 + 154 * u)), m_u] [] t (mM J a (if v = 3 then m_sc G 146 (nI u) else G) h o) L (m_RR e a b) Q := by
    intro G
    simp (disch := first | assumption | omega | decide) only [nI_add, n_mul, n_sub, n_le, n_lt, n_eq, n_ne1, n_0, m_bl_t, m_bl_f, if_true, if_false, Nat.reduceAdd, Nat.reduceMul, Nat.reduceSub, Nat.reduceLeDiff, Nat.reduceEqDiff, Nat.add_zero, Nat.add_sub_cancel, Option.toList, List.cons_append, List.nil_append, i158_44, i158_45, i158_46, i158_47, i158_48, i158_49, i158_50, i158_51, rv_27_0, mM_a, mM_sa]
    by_cases h1 : v = 3 <;> simp [h1]
  have two : WP V 158 35 [.ref 27, .int (nI u), .int (nI v), .int (nI (150 + 154 * u)), m_u] [] t (mM J a g h o) L (m_RR e a b) Q = Q (some (.int (nI 1))) t (mM J a (d_bgn g h u v) (m_sc h 2 (h 2 + nI 1)) o) L (m_RR e a b) := by
    simp (disch := first | assumption | omega | decide) only [nI_add, n_mul, n_sub, n_le, n_lt, n_eq, n_ne1, n_0, m_bl_t, m_bl_f, if_true, if_false, Nat.reduceAdd, Nat.reduceMul, Nat.reduceSub, Nat.reduceLeDiff, Nat.reduceEqDiff, Nat.add_zero, Nat.add_sub_cancel, Option.toList, List.cons_append, List.nil_append, i158_35, i158_36, i158_37, i158_38, i158_39, i158_40, i158_41, i158_42, i158_43, rv_27_0, mM_a, mM_sa, mM_27]
    unfold d_bgn
    by_cases h1 : h 1 = nI 3
    · simp (disch := first | assumption | omega | decide) only [nI_add, n_mul, n_sub, n_le, n_lt, n_eq, n_ne1, n_0, m_bl_t, m_bl_f, if_true, if_false, Nat.reduceAdd, Nat.reduceMul, Nat.reduceSub, Nat.reduceLeDiff, Nat.reduceEqDiff, Nat.add_zero, Nat.add_sub_cancel, Option.toList, List.cons_append, List.nil_append, h1, mid, w158_52 ht hu ha hv]
    · simp (disch := first | assumption | omega | decide) only [nI_add, n_mul, n_sub, n_le, n_lt, n_eq, n_ne1, n_0, m_bl_t, m_bl_f, if_true, if_false, Nat.reduceAdd, Nat.reduceMul, Nat.reduceSub, Nat.reduceLeDiff, Nat.reduceEqDiff, Nat.add_zero, Nat.add_sub_cancel, Option.toList, List.cons_append, List.nil_append, h1, mid, w158_52 ht hu ha hv]
  unfold d_begin
  by_cases h1 : g (150 + 154 * u + 101) = nI 1
  · simp (disch := first | assumption | omega | decide) only [nI_add, n_mul, n_sub, n_le, n_lt, n_eq, n_ne1, n_0, m_bl_t, m_bl_f, if_true, if_false, Nat.reduceAdd, Nat.reduceMul, Nat.reduceSub, Nat.reduceLeDiff, Nat.reduceEqDiff, Nat.add_zero, Nat.add_sub_cancel, Option.toList, List.cons_append, List.nil_append, i158_0, i158_1, i158_2, i158_3, i158_4, i158_5, i158_6, i158_7, i158_8, i158_9, i158_10, i158_11, i158_12, i158_13, i158_14, i158_15, rv_27_0, mM_a, c113, h1, c155 (k := k) ht hu ha hn hn2 hd hg hk hg2]
  · simp (disch := first | assumption | omega | decide) only [nI_add, n_mul, n_sub, n_le, n_lt, n_eq, n_ne1, n_0, m_bl_t, m_bl_f, if_true, if_false, Nat.reduceAdd, Nat.reduceMul, Nat.reduceSub, Nat.reduceLeDiff, Nat.reduceEqDiff, Nat.add_zero, Nat.add_sub_cancel, Option.toList, List.cons_append, List.nil_append, i158_0, i158_1, i158_2, i158_3, i158_4, i158_5, i158_6, i158_7, i158_8, i158_9, i158_10, i158_16, i158_17, i158_18, rv_27_0, mM_a, c113, h1, mM_27]
    have three : WP V 158 24 [.ref 27, .int (nI u), .int (nI v), .int (nI (150 + 154 * u)), m_u] [] t (mM J a g h o) L (m_RR e a b) Q = if decide (v = 3) && decide (¬ g 146 = -1) then Q (some (.int (nI 0))) t (mM J a g h o) L (m_RR e a b) else Q (some (.int (nI 1))) t (mM J a (d_bgn g h u v) (m_sc h 2 (h 2 + nI 1)) o) L (m_RR e a b) := by
      simp (disch := first | assumption | omega | decide) only [nI_add, n_mul, n_sub, n_le, n_lt, n_eq, n_ne1, n_0, m_bl_t, m_bl_f, if_true, if_false, Nat.reduceAdd, Nat.reduceMul, Nat.reduceSub, Nat.reduceLeDiff, Nat.reduceEqDiff, Nat.add_zero, Nat.add_sub_cancel, Option.toList, List.cons_append, List.nil_append, i158_24, i158_25, i158_26, i158_27, i158_28, i158_29, i158_30, i158_31, i158_32, i158_33, i158_34, rv_27_0, mM_a, two]
      by_cases h2 : v = 3
      · by_cases h3 : g 146 = -1 <;> simp [h2, h3]
      · simp [h2]
    by_cases h2 : h 1 = nI 3
    · simp (disch := first | assumption | omega | decide) only [nI_add, n_mul, n_sub, n_le, n_lt, n_eq, n_ne1, n_0, m_bl_t, m_bl_f, if_true, if_false, Nat.reduceAdd, Nat.reduceMul, Nat.reduceSub, Nat.reduceLeDiff, Nat.reduceEqDiff, Nat.add_zero, Nat.add_sub_cancel, Option.toList, List.cons_append, List.nil_append, h2, i158_19, i158_20, i158_21, i158_22, i158_23, i158_33, i158_34, c148, b_0, three]
      cases h3 : d_lkd g u
      · cases h4 : (decide (v = 3) && decide (¬ g 146 = -1)) <;> simp
      · simp
    · simp (disch := first | assumption | omega | decide) only [nI_add, n_mul, n_sub, n_le, n_lt, n_eq, n_ne1, n_0, m_bl_t, m_bl_f, if_true, if_false, Nat.reduceAdd, Nat.reduceMul, Nat.reduceSub, Nat.reduceLeDiff, Nat.reduceEqDiff, Nat.add_zero, Nat.add_sub_cancel, Option.toList, List.cons_append, List.nil_append, h2, i158_19, three]
      cases h4 : (decide (v = 3) && decide (¬ g 146 = -1)) <;> simp
theorem c158 (ht : 55 ≤ t) (hu : u < 3) (ha : m_aa a) {v c d : Nat} (hv : v < 4) (hi : g (150 + 154 * u + 101) = nI 1 ∨ g (150 + 154 * u + 101) = nI 0) (hn : h 17 = nI c) (hn2 : c ≤ 60) (hd : d ≤ 4) (hg : g (150 + 154 * u + 8) = nI d) (hk : k ≤ d) (hg2 : g (150 + 154 * u + 110) = nI k) : WPC V 158 [.ref 27, .int (nI u), .int (nI v)] m n ls st t (mM J a g h o) L (m_RR e a b) Q = WP V m n ls ((.int (d_begin g h o u v d k c).1) :: st) t (mM J a (d_begin g h o u v d k c).2.1 (d_begin g h o u v d k c).2.2.1 (d_begin g h o u v d k c).2.2.2) L (m_RR e a b) Q := wpc_of (fun Q => w158 ht hu ha hv hi hn hn2 hd hg hk hg2)
theorem w159_42 (ht : 55 ≤ t) (hu : u < 3) (ha : m_aa a) : ∀ (c x : Nat), x + c = 8 → WP V 159 42 [.ref 27, .int (nI u), .int (nI (150 + 154 * u)), .int (nI x)] [] t (mM J a g h o) L (m_RR e a b) Q = if s_any (d_mh g u) x c then Q (some (.int (nI 0))) t (mM J a g h o) L (m_RR e a b) else WP V 159 76 [.ref 27, .int (nI u), .int (nI (150 + 154 * u)), .int (nI 8)] [] t (mM J a g h o) L (m_RR e a b) Q := by
  have hA := mA_of ha
  have hat := mA_lt ha ht
  intro c
  induction c with
  | zero =>
    intro x hx
    obtain rfl : x = 8 := by omega
    rw [i159_42]
    simp (disch := first | assumption | omega | decide) only [nI_add, n_mul, n_sub, n_le, n_lt, n_eq, n_ne1, n_0, m_bl_t, m_bl_f, if_true, if_false, Nat.reduceAdd, Nat.reduceMul, Nat.reduceSub, Nat.reduceLeDiff, Nat.reduceEqDiff, Nat.add_zero, Nat.add_sub_cancel, Option.toList, List.cons_append, List.nil_append, i159_43, i159_44, Nat.le_refl, s_any, Bool.false_eq_true]
  | succ c ih =>
    intro x hx
    have hx8 : ¬ 8 ≤ x := by omega
    have hx7 : x < 8 := by omega
    rw [i159_42, s_any]
    simp (disch := first | assumption | omega | decide) only [nI_add, n_mul, n_sub, n_le, n_lt, n_eq, n_ne1, n_0, m_bl_t, m_bl_f, if_true, if_false, Nat.reduceAdd, Nat.reduceMul, Nat.reduceSub, Nat.reduceLeDiff, Nat.reduceEqDiff, Nat.add_zero, Nat.add_sub_cancel, Option.toList, List.cons_append, List.nil_append, i159_43, i159_44, i159_45, i159_46, i159_47, i159_48, i159_49, i159_50, i159_51, i159_52, i159_53, i159_54, i159_55, i159_56, i159_57, i159_58, i159_59, i159_60, i159_61, i159_62, i159_63, i159_64, i159_65, i159_66, i159_67, i159_68, i159_69, i159_70, i159_71, i159_72, i159_73, i159_74, i159_75, rv_27_0, hx8, mM_a, c147, b_0, ih (x + 1) (show x + 1 + c = 8 by omega)]
    unfold d_mh
    by_cases h1 : g (150 + 154 * u + 111 + x) = -1
    · by_cases h2 : g (150 + 154 * u + 135 + 2 * x) = -1
      · simp [h1, h2]
      · cases h3 : d_held g u x <;> simp [h1, h2]
    · cases h3 : d_held g u x <;> simp [h1]
theorem w159 (ht : 55 ≤ t) (hu : u < 3) (ha : m_aa a) {c d : Nat} (hi : g (150 + 154 * u + 101) = nI 1 ∨ g (150 + 154 * u + 101) = nI 0) (hn : h 17 = nI c) (hn2 : c ≤ 60) (hd : d ≤ 4) (hg : g (150 + 154 * u + 8) = nI d) (hk : k ≤ d) (hg2 : g (150 + 154 * u + 110) = nI k) : WP V 159 0 (m_loc 159 [.ref 27, .int (nI u)]) [] t (mM J a g h o) L (m_RR e a b) Q = Q (some (.int (d_enda g h o u d k c).1)) t (mM J a (d_enda g h o u d k c).2.1 (d_enda g h o u d k c).2.2.1 (d_enda g h o u d k c).2.2.2) L (m_RR e a b) := by
  have hA := mA_of ha
  have hat := mA_lt ha ht
  rw [show m_loc 159 [.ref 27, .int (nI u)] = [.ref 27, .int (nI u), m_u, m_u] from rfl]
  have two : ∀ y, WP V 159 85 [.ref 27, .int (nI u), .int (nI (150 + 154 * u)), y] [] t (mM J a g h o) L (m_RR e a b) Q = Q (some (.int (nI 1))) t (mM J a (d_next (d_end (d_ct g u) u) u) (d_cno g h o u c).1 (d_cno g h o u c).2) L (m_RR e a b) := by
    intro y
    simp (disch := first | assumption | omega | decide) only [nI_add, n_mul, n_sub, n_le, n_lt, n_eq, n_ne1, n_0, m_bl_t, m_bl_f, if_true, if_false, Nat.reduceAdd, Nat.reduceMul, Nat.reduceSub, Nat.reduceLeDiff, Nat.reduceEqDiff, Nat.add_zero, Nat.add_sub_cancel, Option.toList, List.cons_append, List.nil_append, i159_85, i159_86, i159_87, i159_88, i159_89, i159_90, i159_91, i159_92, i159_93, i159_94, i159_95, i159_96, i159_97, i159_98, i159_99, rv_27_0, mM_a, mM_sa, c143 ht hu ha hn hn2]
    rfl
  have fl : WP V 159 23 [.ref 27, .int (nI u), .int (nI (150 + 154 * u)), m_u] [] t (mM J a g h o) L (m_RR e a b) Q = Q (some (.int (d_fails g h o u (nI 5) d k c).1)) t (mM J a (d_fails g h o u (nI 5) d k c).2.1 (d_fails g h o u (nI 5) d k c).2.2.1 (d_fails g h o u (nI 5) d k c).2.2.2) L (m_RR e a b) := by
    simp (disch := first | assumption | omega | decide) only [nI_add, n_mul, n_sub, n_le, n_lt, n_eq, n_ne1, n_0, m_bl_t, m_bl_f, if_true, if_false, Nat.reduceAdd, Nat.reduceMul, Nat.reduceSub, Nat.reduceLeDiff, Nat.reduceEqDiff, Nat.add_zero, Nat.add_sub_cancel, Option.toList, List.cons_append, List.nil_append, i159_23, i159_24, i159_25, i159_26, i159_27, c155 (k := k) ht hu ha hn hn2 hd hg hk hg2]
  have h10 : ¬ nI 1 = nI 0 := by decide
  unfold d_enda
  rcases hi with h1 | h1
  · simp (disch := first | assumption | omega | decide) only [nI_add, n_mul, n_sub, n_le, n_lt, n_eq, n_ne1, n_0, m_bl_t, m_bl_f, if_true, if_false, Nat.reduceAdd, Nat.reduceMul, Nat.reduceSub, Nat.reduceLeDiff, Nat.reduceEqDiff, Nat.add_zero, Nat.add_sub_cancel, Option.toList, List.cons_append, List.nil_append, i159_0, i159_1, i159_2, i159_3, i159_4, i159_5, i159_6, i159_7, i159_8, i159_9, i159_10, i159_11, i159_12, i159_13, i159_14, i159_15, i159_16, i159_17, i159_18, i159_19, i159_20, i159_21, rv_27_0, mM_a, c113, h1, h10, hg, hg2]
    by_cases h2 : d ≤ k
    · have h3 : ¬ k < d := by omega
      simp (disch := first | assumption | omega | decide) only [nI_add, n_mul, n_sub, n_le, n_lt, n_eq, n_ne1, n_0, m_bl_t, m_bl_f, if_true, if_false, Nat.reduceAdd, Nat.reduceMul, Nat.reduceSub, Nat.reduceLeDiff, Nat.reduceEqDiff, Nat.add_zero, Nat.add_sub_cancel, Option.toList, List.cons_append, List.nil_append, h2, h3, i159_22, i159_28, i159_29, i159_30, mM_27, decide_false, Bool.or_false, Bool.false_eq_true]
      by_cases h4 : h 1 = nI 3
      · simp (disch := first | assumption | omega | decide) only [nI_add, n_mul, n_sub, n_le, n_lt, n_eq, n_ne1, n_0, m_bl_t, m_bl_f, if_true, if_false, Nat.reduceAdd, Nat.reduceMul, Nat.reduceSub, Nat.reduceLeDiff, Nat.reduceEqDiff, Nat.add_zero, Nat.add_sub_cancel, Option.toList, List.cons_append, List.nil_append, h4, i159_31, two, not_true, decide_false, Bool.false_and, Bool.false_eq_true]
      · simp (disch := first | assumption | omega | decide) only [nI_add, n_mul, n_sub, n_le, n_lt, n_eq, n_ne1, n_0, m_bl_t, m_bl_f, if_true, if_false, Nat.reduceAdd, Nat.reduceMul, Nat.reduceSub, Nat.reduceLeDiff, Nat.reduceEqDiff, Nat.add_zero, Nat.add_sub_cancel, Option.toList, List.cons_append, List.nil_append, h4, i159_31, i159_32, i159_33, i159_34, i159_35, i159_36, i159_37, i159_38, rv_27_0, mM_a, not_false_iff, decide_true, Bool.true_and]
        by_cases h5 : g (150 + 154 * u + 102) = nI 3
        · simp (disch := first | assumption | omega | decide) only [nI_add, n_mul, n_sub, n_le, n_lt, n_eq, n_ne1, n_0, m_bl_t, m_bl_f, if_true, if_false, Nat.reduceAdd, Nat.reduceMul, Nat.reduceSub, Nat.reduceLeDiff, Nat.reduceEqDiff, Nat.add_zero, Nat.add_sub_cancel, Option.toList, List.cons_append, List.nil_append, h5, i159_39, two, not_true, decide_false, Bool.false_and, Bool.false_eq_true]
        · simp (disch := first | assumption | omega | decide) only [nI_add, n_mul, n_sub, n_le, n_lt, n_eq, n_ne1, n_0, m_bl_t, m_bl_f, if_true, if_false, Nat.reduceAdd, Nat.reduceMul, Nat.reduceSub, Nat.reduceLeDiff, Nat.reduceEqDiff, Nat.add_zero, Nat.add_sub_cancel, Option.toList, List.cons_append, List.nil_append, h5, i159_39, i159_40, i159_41, not_false_iff, decide_true, Bool.true_and]
          rw [w159_42 ht hu ha 8 0 rfl]
          unfold d_meets
          cases h6 : s_any (d_mh g u) 0 8
          · simp (disch := first | assumption | omega | decide) only [nI_add, n_mul, n_sub, n_le, n_lt, n_eq, n_ne1, n_0, m_bl_t, m_bl_f, if_true, if_false, Nat.reduceAdd, Nat.reduceMul, Nat.reduceSub, Nat.reduceLeDiff, Nat.reduceEqDiff, Nat.add_zero, Nat.add_sub_cancel, Option.toList, List.cons_append, List.nil_append, Bool.false_eq_true, i159_76, i159_77, i159_78, i159_79, c140, b_0]
            cases h7 : d_ch g u
            · simp (disch := first | assumption | omega | decide) only [nI_add, n_mul, n_sub, n_le, n_lt, n_eq, n_ne1, n_0, m_bl_t, m_bl_f, if_true, if_false, Nat.reduceAdd, Nat.reduceMul, Nat.reduceSub, Nat.reduceLeDiff, Nat.reduceEqDiff, Nat.add_zero, Nat.add_sub_cancel, Option.toList, List.cons_append, List.nil_append, Bool.false_eq_true, two]
            · simp (disch := first | assumption | omega | decide) only [nI_add, n_mul, n_sub, n_le, n_lt, n_eq, n_ne1, n_0, m_bl_t, m_bl_f, if_true, if_false, Nat.reduceAdd, Nat.reduceMul, Nat.reduceSub, Nat.reduceLeDiff, Nat.reduceEqDiff, Nat.add_zero, Nat.add_sub_cancel, Option.toList, List.cons_append, List.nil_append, Bool.true_eq_false, i159_80, i159_81, i159_82, i159_83, i159_84, c142 ht hu ha hd hg hk hg2]
          · simp (disch := first | assumption | omega | decide) only [nI_add, n_mul, n_sub, n_le, n_lt, n_eq, n_ne1, n_0, m_bl_t, m_bl_f, if_true, if_false, Nat.reduceAdd, Nat.reduceMul, Nat.reduceSub, Nat.reduceLeDiff, Nat.reduceEqDiff, Nat.add_zero, Nat.add_sub_cancel, Option.toList, List.cons_append, List.nil_append, Bool.true_eq_false]
    · have h3 : k < d := by omega
      simp (disch := first | assumption | omega | decide) only [nI_add, n_mul, n_sub, n_le, n_lt, n_eq, n_ne1, n_0, m_bl_t, m_bl_f, if_true, if_false, Nat.reduceAdd, Nat.reduceMul, Nat.reduceSub, Nat.reduceLeDiff, Nat.reduceEqDiff, Nat.add_zero, Nat.add_sub_cancel, Option.toList, List.cons_append, List.nil_append, h2, h3, i159_22, fl, decide_true, Bool.or_true]
  · simp (disch := first | assumption | omega | decide) only [nI_add, n_mul, n_sub, n_le, n_lt, n_eq, n_ne1, n_0, m_bl_t, m_bl_f, if_true, if_false, Nat.reduceAdd, Nat.reduceMul, Nat.reduceSub, Nat.reduceLeDiff, Nat.reduceEqDiff, Nat.add_zero, Nat.add_sub_cancel, Option.toList, List.cons_append, List.nil_append, i159_0, i159_1, i159_2, i159_3, i159_4, i159_5, i159_6, i159_7, i159_8, i159_9, rv_27_0, mM_a, c113, h1, fl, decide_true, Bool.true_or]
theorem c159 (ht : 55 ≤ t) (hu : u < 3) (ha : m_aa a) {c d : Nat} (hi : g (150 + 154 * u + 101) = nI 1 ∨ g (150 + 154 * u + 101) = nI 0) (hn : h 17 = nI c) (hn2 : c ≤ 60) (hd : d ≤ 4) (hg : g (150 + 154 * u + 8) = nI d) (hk : k ≤ d) (hg2 : g (150 + 154 * u + 110) = nI k) : WPC V 159 [.ref 27, .int (nI u)] m n ls st t (mM J a g h o) L (m_RR e a b) Q = WP V m n ls ((.int (d_enda g h o u d k c).1) :: st) t (mM J a (d_enda g h o u d k c).2.1 (d_enda g h o u d k c).2.2.1 (d_enda g h o u d k c).2.2.2) L (m_RR e a b) Q := wpc_of (fun Q => w159 ht hu ha hi hn hn2 hd hg hk hg2)
end T34
