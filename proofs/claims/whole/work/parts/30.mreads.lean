/-! specs: the model reads -/
abbrev d_O : Type := Int32 × (Nat → Int32) × (Nat → Int32)
def d_wfo (g h : Nat → Int32) (u x w d k : Nat) : Bool × (Nat → Int32) × (Nat → Int32) :=
  if decide (h 1 = nI 1) && c_oth (g (18 * x + 16)) (nI u) then (if d_eld g u w then (false, d_anew g w d k, d_anh h) else (true, g, h)) else (false, g, h)
/-- the first of n older values from k on that is not too new -/
def d_pk (g : Nat → Int32) (u x : Nat) : Nat → Nat → Option Nat
  | _, 0 => none
  | k, n + 1 => if g (18 * x + 3 + 3 * k + 2) ≤ g (150 + 154 * u + 103) then some k else d_pk g u x (k + 1) n
def d_vh (h : Nat → Int32) (v z : Int32) : Nat → Int32 := m_sc (m_sc h 22 v) 23 z
def d_pic (g h : Nat → Int32) (u x n d k : Nat) : d_O := match d_pk g u x 0 n with
  | some i => (nI 0, d_seen g u x (g (18 * x + 3 + 3 * i)) (g (18 * x + 3 + 3 * i + 1)), d_vh h (g (18 * x + 3 + 3 * i)) (g (18 * x + 3 + 3 * i + 1)))
  | none => (nI 2, d_anew g u d k, d_anh h)
def d_fin (g h : Nat → Int32) (u x : Nat) : d_O := (nI 0, d_seen g u x (g (18 * x)) (g (18 * x + 1)), d_vh h (g (18 * x)) (g (18 * x + 1)))
def d_rd2 (g h : Nat → Int32) (u x n d k : Nat) : d_O :=
  if g (150 + 154 * u + 102) = nI 3 then d_fin (m_sc g (18 * x + 17) (nI u)) h u x
  else if decide (g (150 + 154 * u + 102) = nI 1) && decide (h 1 = nI 2) then d_pic g h u x n d k
  else if ¬ g (150 + 154 * u + 111 + x) = -1 then (if g (150 + 154 * u + 111 + x) = g (18 * x + 2) then d_fin g h u x else (nI 2, d_anew g u d k, d_anh h))
  else if g (18 * x + 2) ≤ g (150 + 154 * u + 103) then d_fin (m_sc g (150 + 154 * u + 111 + x) (g (18 * x + 2))) h u x
  else if d_ch g u then (nI 2, d_anew g u d k, d_anh h)
  else d_fin (m_sc (m_sc g (150 + 154 * u + 103) (g 144)) (150 + 154 * u + 111 + x) (g (18 * x + 2))) h u x
def d_reads (g h : Nat → Int32) (u x n d k w dw kw : Nat) : d_O :=
  if g (150 + 154 * u + 101) = nI 0 then (m_bl (decide (¬ g (18 * x + 17) = -1) || d_lkd g u), g, d_vh h (g (18 * x)) (g (18 * x + 1)))
  else if ¬ g (150 + 154 * u + 135 + 2 * x) = -1 then (nI 0, g, d_vh h (g (150 + 154 * u + 135 + 2 * x)) (g (150 + 154 * u + 135 + 2 * x + 1)))
  else if h 1 = nI 3 then d_fin (m_sc g (150 + 154 * u + 111 + x) (g (18 * x + 2))) h u x
  else if d_held g u x then (nI 1, g, h)
  else if (d_wfo g h u x w dw kw).1 then (nI 1, g, h)
  else d_rd2 (d_wfo g h u x w dw kw).2.1 (d_wfo g h u x w dw kw).2.2 u x n d k
theorem d_drop_o {g : Nat → Int32} {u d k j : Nat} (hk : k ≤ d) (hd : d ≤ 4) (h : j < 150 + 154 * u + 8 ∨ 150 + 154 * u + 101 ≤ j) : d_drop g u d k j = g j := by
  unfold d_drop
  rw [m_sc_ne (by omega), d_z_o (by omega)]
theorem d_anew_o {g : Nat → Int32} {u d k j : Nat} (hk : k ≤ d) (hd : d ≤ 4) (h : j < 150 + 154 * u + 1 ∨ 150 + 154 * u + 152 ≤ j) (h2 : ∀ x, x < 8 → j ≠ 18 * x + 16) : d_anew g u d k j = g j := by
  unfold d_anew d_beg2 d_beg1
  rw [m_sc_ne (by omega), m_sc_ne (by omega), d_drop_o hk hd (by omega), d_cp_o (by omega), m_sc_ne (by omega), d_dis_o h2, d_el_o (by omega), d_er_o (by omega)]
/-- the owner whom u meets at cell x, and its scopes -/
def d_own (g h : Nat → Int32) (u x w d k : Nat) : Prop := (decide (h 1 = nI 1) && c_oth (g (18 * x + 16)) (nI u)) = true → w < 3 ∧ w ≠ u ∧ g (18 * x + 16) = nI w ∧ d ≤ 4 ∧ k ≤ d ∧ g (150 + 154 * w + 8) = nI d ∧ g (150 + 154 * w + 110) = nI k
section T30
variable {V : m_V} {t m n : Nat} {ls st : List Value} {I J : m_I} {g h : Nat → Int32} {o : m_I} {L : m_L} {R : m_R} {e : Option Nat} {a b : Nat} {Q : Option Value → Nat → m_I → m_L → m_R → Prop} {u x k : Nat}
theorem w154_13 (ht : 55 ≤ t) (hu : u < 3) (ha : m_aa a) {d : Nat} (hd : d < 4) : ∀ (c x : Nat) (g : Nat → Int32), x + c = 4 → WP V 154 13 [.ref 27, .int (nI u), .int (nI d), .int (nI (150 + 154 * u)), .int (nI (150 + 154 * u + 9 + 23 * d)), .int (nI x)] [] t (mM J a g h o) L (m_RR e a b) Q = WP V 154 34 [.ref 27, .int (nI u), .int (nI d), .int (nI (150 + 154 * u)), .int (nI (150 + 154 * u + 9 + 23 * d)), .int (nI 4)] [] t (mM J a (s_loop (d_cp1 (150 + 154 * u + 9 + 23 * d + 3) (150 + 154 * u + 3)) x c g) h o) L (m_RR e a b) Q := by
  have hA := mA_of ha
  have hat := mA_lt ha ht
  intro c
  induction c with
  | zero =>
    intro x g hx
    obtain rfl : x = 4 := by omega
    rw [i154_13]
    simp (disch := first | assumption | omega | decide) only [nI_add, n_mul, n_sub, n_le, n_lt, n_eq, n_ne1, n_0, m_bl_t, m_bl_f, if_true, if_false, Nat.reduceAdd, Nat.reduceMul, Nat.reduceSub, Nat.reduceLeDiff, Nat.reduceEqDiff, Nat.add_zero, Nat.add_sub_cancel, Option.toList, List.cons_append, List.nil_append, i154_14, i154_15, Nat.le_refl, s_loop]
  | succ c ih =>
    intro x g hx
    have hx8 : ¬ 4 ≤ x := by omega
    have hx7 : x < 4 := by omega
    rw [i154_13, s_loop]
    simp (disch := first | assumption | omega | decide) only [nI_add, n_mul, n_sub, n_le, n_lt, n_eq, n_ne1, n_0, m_bl_t, m_bl_f, if_true, if_false, Nat.reduceAdd, Nat.reduceMul, Nat.reduceSub, Nat.reduceLeDiff, Nat.reduceEqDiff, Nat.add_zero, Nat.add_sub_cancel, Option.toList, List.cons_append, List.nil_append, i154_14, i154_15, i154_16, i154_17, i154_18, i154_19, i154_20, i154_21, i154_22, i154_23, i154_24, i154_25, i154_26, i154_27, i154_28, i154_29, i154_30, i154_31, i154_32, i154_33, rv_27_0, hx8, mM_a, mM_sa]
    exact ih (x + 1) (d_cp1 (150 + 154 * u + 9 + 23 * d + 3) (150 + 154 * u + 3) x g) (by omega)
theorem w154_36 (ht : 55 ≤ t) (hu : u < 3) (ha : m_aa a) {d : Nat} (hd : d < 4) : ∀ (c x : Nat) (g : Nat → Int32), x + c = 16 → WP V 154 36 [.ref 27, .int (nI u), .int (nI d), .int (nI (150 + 154 * u)), .int (nI (150 + 154 * u + 9 + 23 * d)), .int (nI x)] [] t (mM J a g h o) L (m_RR e a b) Q = Q none t (mM J a (s_loop (d_cp1 (150 + 154 * u + 9 + 23 * d + 7) (150 + 154 * u + 135)) x c g) h o) L (m_RR e a b) := by
  have hA := mA_of ha
  have hat := mA_lt ha ht
  intro c
  induction c with
  | zero =>
    intro x g hx
    obtain rfl : x = 16 := by omega
    rw [i154_36]
    simp (disch := first | assumption | omega | decide) only [nI_add, n_mul, n_sub, n_le, n_lt, n_eq, n_ne1, n_0, m_bl_t, m_bl_f, if_true, if_false, Nat.reduceAdd, Nat.reduceMul, Nat.reduceSub, Nat.reduceLeDiff, Nat.reduceEqDiff, Nat.add_zero, Nat.add_sub_cancel, Option.toList, List.cons_append, List.nil_append, i154_37, i154_38, i154_57, Nat.le_refl, s_loop]
  | succ c ih =>
    intro x g hx
    have hx8 : ¬ 16 ≤ x := by omega
    have hx7 : x < 16 := by omega
    rw [i154_36, s_loop]
    simp (disch := first | assumption | omega | decide) only [nI_add, n_mul, n_sub, n_le, n_lt, n_eq, n_ne1, n_0, m_bl_t, m_bl_f, if_true, if_false, Nat.reduceAdd, Nat.reduceMul, Nat.reduceSub, Nat.reduceLeDiff, Nat.reduceEqDiff, Nat.add_zero, Nat.add_sub_cancel, Option.toList, List.cons_append, List.nil_append, i154_37, i154_38, i154_39, i154_40, i154_41, i154_42, i154_43, i154_44, i154_45, i154_46, i154_47, i154_48, i154_49, i154_50, i154_51, i154_52, i154_53, i154_54, i154_55, i154_56, rv_27_0, hx8, mM_a, mM_sa]
    exact ih (x + 1) (d_cp1 (150 + 154 * u + 9 + 23 * d + 7) (150 + 154 * u + 135) x g) (by omega)
theorem w154 (ht : 55 ≤ t) (hu : u < 3) (ha : m_aa a) {d : Nat} (hd : d < 4) : WP V 154 0 (m_loc 154 [.ref 27, .int (nI u), .int (nI d)]) [] t (mM J a g h o) L (m_RR e a b) Q = Q none t (mM J a (d_load g u d) h o) L (m_RR e a b) := by
  rw [show m_loc 154 [.ref 27, .int (nI u), .int (nI d)] = [.ref 27, .int (nI u), .int (nI d), m_u, m_u, m_u] from rfl]
  simp (disch := first | assumption | omega | decide) only [nI_add, n_mul, n_sub, n_le, n_lt, n_eq, n_ne1, n_0, m_bl_t, m_bl_f, if_true, if_false, Nat.reduceAdd, Nat.reduceMul, Nat.reduceSub, Nat.reduceLeDiff, Nat.reduceEqDiff, Nat.add_zero, Nat.add_sub_cancel, Option.toList, List.cons_append, List.nil_append, i154_0, i154_1, i154_2, i154_3, i154_4, i154_5, i154_6, i154_7, i154_8, i154_9, i154_10, i154_11, i154_12, c113]
  rw [w154_13 ht hu ha hd 4 0 g rfl]
  simp (disch := first | assumption | omega | decide) only [nI_add, n_mul, n_sub, n_le, n_lt, n_eq, n_ne1, n_0, m_bl_t, m_bl_f, if_true, if_false, Nat.reduceAdd, Nat.reduceMul, Nat.reduceSub, Nat.reduceLeDiff, Nat.reduceEqDiff, Nat.add_zero, Nat.add_sub_cancel, Option.toList, List.cons_append, List.nil_append, i154_34, i154_35]
  rw [w154_36 ht hu ha hd 16 0 _ rfl]
  rfl
theorem c154 (ht : 55 ≤ t) (hu : u < 3) (ha : m_aa a) {d : Nat} (hd : d < 4) : WPC V 154 [.ref 27, .int (nI u), .int (nI d)] m n ls st t (mM J a g h o) L (m_RR e a b) Q = WP V m n ls st t (mM J a (d_load g u d) h o) L (m_RR e a b) Q := wpc_of (fun Q => w154 ht hu ha hd)
theorem w146 (ht : 55 ≤ t) (hu : u < 3) (ha : m_aa a) (hx : x < 8) {w d k : Nat} (hw : d_own g h u x w d k) : WP V 146 0 (m_loc 146 [.ref 27, .int (nI u), .int (nI x)]) [] t (mM J a g h o) L (m_RR e a b) Q = Q (some (.int (m_bl (d_wfo g h u x w d k).1))) t (mM J a (d_wfo g h u x w d k).2.1 (d_wfo g h u x w d k).2.2 o) L (m_RR e a b) := by
  have hA := mA_of ha
  have hat := mA_lt ha ht
  rw [show m_loc 146 [.ref 27, .int (nI u), .int (nI x)] = [.ref 27, .int (nI u), .int (nI x), m_u] from rfl]
  simp (disch := first | assumption | omega | decide) only [nI_add, n_mul, n_sub, n_le, n_lt, n_eq, n_ne1, n_0, m_bl_t, m_bl_f, if_true, if_false, Nat.reduceAdd, Nat.reduceMul, Nat.reduceSub, Nat.reduceLeDiff, Nat.reduceEqDiff, Nat.add_zero, Nat.add_sub_cancel, Option.toList, List.cons_append, List.nil_append, i146_0, i146_1, i146_2, i146_3, i146_4, i146_5, i146_6, i146_7, i146_8, i146_9, i146_10, i146_11, rv_27_0, c112, mM_a, mM_27]
  unfold d_wfo
  by_cases h1 : h 1 = nI 1
  · by_cases h2 : g (18 * x + 16) = -1
    · simp (disch := first | assumption | omega | decide) only [nI_add, n_mul, n_sub, n_le, n_lt, n_eq, n_ne1, n_0, m_bl_t, m_bl_f, if_true, if_false, Nat.reduceAdd, Nat.reduceMul, Nat.reduceSub, Nat.reduceLeDiff, Nat.reduceEqDiff, Nat.add_zero, Nat.add_sub_cancel, Option.toList, List.cons_append, List.nil_append, h1, h2, i146_12, i146_13, i146_14, i146_18, i146_19]
      simp [c_oth, h2, m_bl]
    · by_cases h3 : g (18 * x + 16) = nI u
      · simp (disch := first | assumption | omega | decide) only [nI_add, n_mul, n_sub, n_le, n_lt, n_eq, n_ne1, n_0, m_bl_t, m_bl_f, if_true, if_false, Nat.reduceAdd, Nat.reduceMul, Nat.reduceSub, Nat.reduceLeDiff, Nat.reduceEqDiff, Nat.add_zero, Nat.add_sub_cancel, Option.toList, List.cons_append, List.nil_append, h1, h2, h3, i146_12, i146_13, i146_14, i146_15, i146_16, i146_17, i146_18, i146_19]
        simp [c_oth, h3, m_bl]
      · have hc : (decide (h 1 = nI 1) && c_oth (g (18 * x + 16)) (nI u)) = true := by simp [c_oth, h1, h2, h3]
        obtain ⟨hw1, hw0, hw2, hd, hk, hg, hg2⟩ := hw hc
        rw [hc]
        have h2' : ¬ nI w = -1 := hw2 ▸ h2
        have h3' : ¬ w = u := hw0
        simp (disch := first | assumption | omega | decide) only [nI_add, n_mul, n_sub, n_le, n_lt, n_eq, n_ne1, n_0, m_bl_t, m_bl_f, if_true, if_false, Nat.reduceAdd, Nat.reduceMul, Nat.reduceSub, Nat.reduceLeDiff, Nat.reduceEqDiff, Nat.add_zero, Nat.add_sub_cancel, Option.toList, List.cons_append, List.nil_append, h1, hw2, h2', h3', i146_12, i146_13, i146_14, i146_15, i146_16, i146_17, i146_18, i146_19, i146_20, i146_21, i146_22, i146_23, i146_24, c145, b_0]
        cases h4 : d_eld g u w
        · simp (disch := first | assumption | omega | decide) only [nI_add, n_mul, n_sub, n_le, n_lt, n_eq, n_ne1, n_0, m_bl_t, m_bl_f, if_true, if_false, Nat.reduceAdd, Nat.reduceMul, Nat.reduceSub, Nat.reduceLeDiff, Nat.reduceEqDiff, Nat.add_zero, Nat.add_sub_cancel, Option.toList, List.cons_append, List.nil_append, i146_25, i146_26, b_0, Bool.false_eq_true]
        · simp (disch := first | assumption | omega | decide) only [nI_add, n_mul, n_sub, n_le, n_lt, n_eq, n_ne1, n_0, m_bl_t, m_bl_f, if_true, if_false, Nat.reduceAdd, Nat.reduceMul, Nat.reduceSub, Nat.reduceLeDiff, Nat.reduceEqDiff, Nat.add_zero, Nat.add_sub_cancel, Option.toList, List.cons_append, List.nil_append, i146_27, i146_28, i146_29, i146_30, i146_31, b_0, Bool.true_eq_false, c142 ht hw1 ha hd hg hk hg2]
  · simp (disch := first | assumption | omega | decide) only [nI_add, n_mul, n_sub, n_le, n_lt, n_eq, n_ne1, n_0, m_bl_t, m_bl_f, if_true, if_false, Nat.reduceAdd, Nat.reduceMul, Nat.reduceSub, Nat.reduceLeDiff, Nat.reduceEqDiff, Nat.add_zero, Nat.add_sub_cancel, Option.toList, List.cons_append, List.nil_append, h1, i146_18, i146_19]
    simp [h1, m_bl]
theorem c146 (ht : 55 ≤ t) (hu : u < 3) (ha : m_aa a) (hx : x < 8) {w d k : Nat} (hw : d_own g h u x w d k) : WPC V 146 [.ref 27, .int (nI u), .int (nI x)] m n ls st t (mM J a g h o) L (m_RR e a b) Q = WP V m n ls ((.int (m_bl (d_wfo g h u x w d k).1)) :: st) t (mM J a (d_wfo g h u x w d k).2.1 (d_wfo g h u x w d k).2.2 o) L (m_RR e a b) Q := wpc_of (fun Q => w146 ht hu ha hx hw)
theorem w151_8 (ht : 55 ≤ t) (hu : u < 3) (ha : m_aa a) (hx : x < 8) {c d k : Nat} (hc : g (18 * x + 15) = nI c) (hc2 : c ≤ 4) (hd : d ≤ 4) (hg : g (150 + 154 * u + 8) = nI d) (hk : k ≤ d) (hg2 : g (150 + 154 * u + 110) = nI k) : ∀ (n i : Nat), i + n = c → WP V 151 8 [.ref 27, .int (nI u), .int (nI x), .int (nI (150 + 154 * u)), .int (nI (18 * x)), .int (nI i)] [] t (mM J a g h o) L (m_RR e a b) Q = (match d_pk g u x i n with
    | some i => Q (some (.int (nI 0))) t (mM J a (d_seen g u x (g (18 * x + 3 + 3 * i)) (g (18 * x + 3 + 3 * i + 1))) (d_vh h (g (18 * x + 3 + 3 * i)) (g (18 * x + 3 + 3 * i + 1))) o) L (m_RR e a b)
    | none => Q (some (.int (nI 2))) t (mM J a (d_anew g u d k) (d_anh h) o) L (m_RR e a b)) := by
  have hA := mA_of ha
  have hat := mA_lt ha ht
  intro n
  induction n with
  | zero =>
    intro i hi
    obtain rfl : i = c := by omega
    rw [i151_8]
    simp (disch := first | assumption | omega | decide) only [nI_add, n_mul, n_sub, n_le, n_lt, n_eq, n_ne1, n_0, m_bl_t, m_bl_f, if_true, if_false, Nat.reduceAdd, Nat.reduceMul, Nat.reduceSub, Nat.reduceLeDiff, Nat.reduceEqDiff, Nat.add_zero, Nat.add_sub_cancel, Option.toList, List.cons_append, List.nil_append, i151_9, i151_10, i151_11, i151_12, i151_13, i151_14, i151_15, i151_69, i151_70, i151_71, i151_72, i151_73, rv_27_0, mM_a, hc, Nat.le_refl, d_pk, c142 ht hu ha hd hg hk hg2]
  | succ n ih =>
    intro i hi
    have hx8 : ¬ c ≤ i := by omega
    have hi4 : i < 4 := by omega
    rw [i151_8, d_pk]
    simp (disch := first | assumption | omega | decide) only [nI_add, n_mul, n_sub, n_le, n_lt, n_eq, n_ne1, n_0, m_bl_t, m_bl_f, if_true, if_false, Nat.reduceAdd, Nat.reduceMul, Nat.reduceSub, Nat.reduceLeDiff, Nat.reduceEqDiff, Nat.add_zero, Nat.add_sub_cancel, Option.toList, List.cons_append, List.nil_append, i151_9, i151_10, i151_11, i151_12, i151_13, i151_14, i151_15, i151_16, i151_17, i151_18, i151_19, i151_20, i151_21, i151_22, i151_23, i151_24, i151_25, i151_26, i151_27, i151_28, i151_29, i151_30, i151_31, i151_32, i151_33, i151_34, rv_27_0, mM_a, hc, hx8]
    by_cases h1 : g (18 * x + 3 + 3 * i + 2) ≤ g (150 + 154 * u + 103)
    · have h1' : ¬ g (150 + 154 * u + 103) < g (18 * x + 3 + 3 * i + 2) := Int32.not_lt.mpr h1
      simp (disch := first | assumption | omega | decide) only [nI_add, n_mul, n_sub, n_le, n_lt, n_eq, n_ne1, n_0, m_bl_t, m_bl_f, if_true, if_false, Nat.reduceAdd, Nat.reduceMul, Nat.reduceSub, Nat.reduceLeDiff, Nat.reduceEqDiff, Nat.add_zero, Nat.add_sub_cancel, Option.toList, List.cons_append, List.nil_append, h1, h1', i151_35, i151_36, i151_37, i151_38, i151_39, i151_40, i151_41, i151_42, i151_43, i151_44, i151_45, i151_46, i151_47, i151_48, i151_49, i151_50, i151_51, i151_52, i151_53, i151_54, i151_55, i151_56, i151_57, i151_58, i151_59, i151_60, i151_61, i151_62, i151_63, i151_64, i151_65, i151_66, rv_27_0, mM_a, mM_27, mM_s27, c150, d_vh, m_sc_self, m_sc_ne]
    · have h1' : g (150 + 154 * u + 103) < g (18 * x + 3 + 3 * i + 2) := Int32.not_le.mp h1
      simp (disch := first | assumption | omega | decide) only [nI_add, n_mul, n_sub, n_le, n_lt, n_eq, n_ne1, n_0, m_bl_t, m_bl_f, if_true, if_false, Nat.reduceAdd, Nat.reduceMul, Nat.reduceSub, Nat.reduceLeDiff, Nat.reduceEqDiff, Nat.add_zero, Nat.add_sub_cancel, Option.toList, List.cons_append, List.nil_append, h1, h1', i151_67, i151_68]
      exact ih (i + 1) (by omega)
theorem w151 (ht : 55 ≤ t) (hu : u < 3) (ha : m_aa a) (hx : x < 8) {c d k : Nat} (hc : g (18 * x + 15) = nI c) (hc2 : c ≤ 4) (hd : d ≤ 4) (hg : g (150 + 154 * u + 8) = nI d) (hk : k ≤ d) (hg2 : g (150 + 154 * u + 110) = nI k) : WP V 151 0 (m_loc 151 [.ref 27, .int (nI u), .int (nI x)]) [] t (mM J a g h o) L (m_RR e a b) Q = Q (some (.int (d_pic g h u x c d k).1)) t (mM J a (d_pic g h u x c d k).2.1 (d_pic g h u x c d k).2.2 o) L (m_RR e a b) := by
  rw [show m_loc 151 [.ref 27, .int (nI u), .int (nI x)] = [.ref 27, .int (nI u), .int (nI x), m_u, m_u, m_u] from rfl]
  simp (disch := first | assumption | omega | decide) only [nI_add, n_mul, n_sub, n_le, n_lt, n_eq, n_ne1, n_0, m_bl_t, m_bl_f, if_true, if_false, Nat.reduceAdd, Nat.reduceMul, Nat.reduceSub, Nat.reduceLeDiff, Nat.reduceEqDiff, Nat.add_zero, Nat.add_sub_cancel, Option.toList, List.cons_append, List.nil_append, i151_0, i151_1, i151_2, i151_3, i151_4, i151_5, i151_6, i151_7, c112, c113]
  rw [w151_8 ht hu ha hx hc hc2 hd hg hk hg2 c 0 (by omega)]
  unfold d_pic
  cases d_pk g u x 0 c <;> rfl
theorem c151 (ht : 55 ≤ t) (hu : u < 3) (ha : m_aa a) (hx : x < 8) {c d k : Nat} (hc : g (18 * x + 15) = nI c) (hc2 : c ≤ 4) (hd : d ≤ 4) (hg : g (150 + 154 * u + 8) = nI d) (hk : k ≤ d) (hg2 : g (150 + 154 * u + 110) = nI k) : WPC V 151 [.ref 27, .int (nI u), .int (nI x)] m n ls st t (mM J a g h o) L (m_RR e a b) Q = WP V m n ls ((.int (d_pic g h u x c d k).1) :: st) t (mM J a (d_pic g h u x c d k).2.1 (d_pic g h u x c d k).2.2 o) L (m_RR e a b) Q := wpc_of (fun Q => w151 ht hu ha hx hc hc2 hd hg hk hg2)
theorem w149_223 (ht : 55 ≤ t) (hu : u < 3) (ha : m_aa a) (hx : x < 8) : WP V 149 223 [.ref 27, .int (nI u), .int (nI x), .int (nI (150 + 154 * u)), .int (nI (18 * x))] [] t (mM J a g h o) L (m_RR e a b) Q = Q (some (.int (d_fin g h u x).1)) t (mM J a (d_fin g h u x).2.1 (d_fin g h u x).2.2 o) L (m_RR e a b) := by
  have hA := mA_of ha
  have hat := mA_lt ha ht
  simp (disch := first | assumption | omega | decide) only [nI_add, n_mul, n_sub, n_le, n_lt, n_eq, n_ne1, n_0, m_bl_t, m_bl_f, if_true, if_false, Nat.reduceAdd, Nat.reduceMul, Nat.reduceSub, Nat.reduceLeDiff, Nat.reduceEqDiff, Nat.add_zero, Nat.add_sub_cancel, Option.toList, List.cons_append, List.nil_append, i149_223, i149_224, i149_225, i149_226, i149_227, i149_228, i149_229, i149_230, i149_231, i149_232, i149_233, i149_234, i149_235, i149_236, i149_237, i149_238, i149_239, i149_240, i149_241, i149_242, rv_27_0, mM_a, mM_27, mM_s27, c150, m_sc_self, m_sc_ne]
  simp only [d_fin, d_vh]
theorem w149_114 (ht : 55 ≤ t) (hu : u < 3) (ha : m_aa a) (hx : x < 8) {c d k : Nat} (hc : g (18 * x + 15) = nI c) (hc2 : c ≤ 4) (hd : d ≤ 4) (hg : g (150 + 154 * u + 8) = nI d) (hk : k ≤ d) (hg2 : g (150 + 154 * u + 110) = nI k) : WP V 149 114 [.ref 27, .int (nI u), .int (nI x), .int (nI (150 + 154 * u)), .int (nI (18 * x))] [] t (mM J a g h o) L (m_RR e a b) Q = Q (some (.int (d_rd2 g h u x c d k).1)) t (mM J a (d_rd2 g h u x c d k).2.1 (d_rd2 g h u x c d k).2.2 o) L (m_RR e a b) := by
  have hA := mA_of ha
  have hat := mA_lt ha ht
  unfold d_rd2
  simp (disch := first | assumption | omega | decide) only [nI_add, n_mul, n_sub, n_le, n_lt, n_eq, n_ne1, n_0, m_bl_t, m_bl_f, if_true, if_false, Nat.reduceAdd, Nat.reduceMul, Nat.reduceSub, Nat.reduceLeDiff, Nat.reduceEqDiff, Nat.add_zero, Nat.add_sub_cancel, Option.toList, List.cons_append, List.nil_append, i149_114, i149_115, i149_116, i149_117, i149_118, i149_119, i149_120, i149_121, rv_27_0, mM_a]
  by_cases h1 : g (150 + 154 * u + 102) = nI 3
  · simp (disch := first | assumption | omega | decide) only [nI_add, n_mul, n_sub, n_le, n_lt, n_eq, n_ne1, n_0, m_bl_t, m_bl_f, if_true, if_false, Nat.reduceAdd, Nat.reduceMul, Nat.reduceSub, Nat.reduceLeDiff, Nat.reduceEqDiff, Nat.add_zero, Nat.add_sub_cancel, Option.toList, List.cons_append, List.nil_append, h1, i149_122, i149_123, i149_124, i149_125, i149_126, i149_127, i149_128, i149_129, rv_27_0, mM_a, mM_sa, w149_223]
  · simp (disch := first | assumption | omega | decide) only [nI_add, n_mul, n_sub, n_le, n_lt, n_eq, n_ne1, n_0, m_bl_t, m_bl_f, if_true, if_false, Nat.reduceAdd, Nat.reduceMul, Nat.reduceSub, Nat.reduceLeDiff, Nat.reduceEqDiff, Nat.add_zero, Nat.add_sub_cancel, Option.toList, List.cons_append, List.nil_append, h1, i149_130, i149_131, i149_132, i149_133, i149_134, i149_135, i149_136, i149_137, rv_27_0, mM_a]
    by_cases h2 : (decide (g (150 + 154 * u + 102) = nI 1) && decide (h 1 = nI 2)) = true
    · obtain ⟨h3, h4⟩ := Bool.and_eq_true_iff.mp h2
      have h3 := of_decide_eq_true h3
      have h4 := of_decide_eq_true h4
      simp (disch := first | assumption | omega | decide) only [nI_add, n_mul, n_sub, n_le, n_lt, n_eq, n_ne1, n_0, m_bl_t, m_bl_f, if_true, if_false, Nat.reduceAdd, Nat.reduceMul, Nat.reduceSub, Nat.reduceLeDiff, Nat.reduceEqDiff, Nat.add_zero, Nat.add_sub_cancel, Option.toList, List.cons_append, List.nil_append, h2, h3, h4, i149_138, i149_139, i149_140, i149_141, i149_142, i149_143, i149_144, i149_145, i149_146, mM_27, c151 ht hu ha hx hc hc2 hd hg hk hg2]
      simp
    · have tail : WP V 149 147 [.ref 27, .int (nI u), .int (nI x), .int (nI (150 + 154 * u)), .int (nI (18 * x))] [] t (mM J a g h o) L (m_RR e a b) Q = Q (some (.int (if ¬ g (150 + 154 * u + 111 + x) = -1 then (if g (150 + 154 * u + 111 + x) = g (18 * x + 2) then d_fin g h u x else (nI 2, d_anew g u d k, d_anh h)) else if g (18 * x + 2) ≤ g (150 + 154 * u + 103) then d_fin (m_sc g (150 + 154 * u + 111 + x) (g (18 * x + 2))) h u x else if d_ch g u then (nI 2, d_anew g u d k, d_anh h) else d_fin (m_sc (m_sc g (150 + 154 * u + 103) (g 144)) (150 + 154 * u + 111 + x) (g (18 * x + 2))) h u x).1)) t (mM J a (if ¬ g (150 + 154 * u + 111 + x) = -1 then (if g (150 + 154 * u + 111 + x) = g (18 * x + 2) then d_fin g h u x else (nI 2, d_anew g u d k, d_anh h)) else if g (18 * x + 2) ≤ g (150 + 154 * u + 103) then d_fin (m_sc g (150 + 154 * u + 111 + x) (g (18 * x + 2))) h u x else if d_ch g u then (nI 2, d_anew g u d k, d_anh h) else d_fin (m_sc (m_sc g (150 + 154 * u + 103) (g 144)) (150 + 154 * u + 111 + x) (g (18 * x + 2))) h u x).2.1 (if ¬ g (150 + 154 * u + 111 + x) = -1 then (if g (150 + 154 * u + 111 + x) = g (18 * x + 2) then d_fin g h u x else (nI 2, d_anew g u d k, d_anh h)) else if g (18 * x + 2) ≤ g (150 + 154 * u + 103) then d_fin (m_sc g (150 + 154 * u + 111 + x) (g (18 * x + 2))) h u x else if d_ch g u then (nI 2, d_anew g u d k, d_anh h) else d_fin (m_sc (m_sc g (150 + 154 * u + 103) (g 144)) (150 + 154 * u + 111 + x) (g (18 * x + 2))) h u x).2.2 o) L (m_RR e a b) := by
        simp (disch := first | assumption | omega | decide) only [nI_add, n_mul, n_sub, n_le, n_lt, n_eq, n_ne1, n_0, m_bl_t, m_bl_f, if_true, if_false, Nat.reduceAdd, Nat.reduceMul, Nat.reduceSub, Nat.reduceLeDiff, Nat.reduceEqDiff, Nat.add_zero, Nat.add_sub_cancel, Option.toList, List.cons_append, List.nil_append, i149_147, i149_148, i149_149, i149_150, i149_151, i149_152, i149_153, i149_154, i149_155, i149_156, rv_27_0, mM_a]
        by_cases h3 : g (150 + 154 * u + 111 + x) = -1
        · simp (disch := first | assumption | omega | decide) only [nI_add, n_mul, n_sub, n_le, n_lt, n_eq, n_ne1, n_0, m_bl_t, m_bl_f, if_true, if_false, Nat.reduceAdd, Nat.reduceMul, Nat.reduceSub, Nat.reduceLeDiff, Nat.reduceEqDiff, Nat.add_zero, Nat.add_sub_cancel, Option.toList, List.cons_append, List.nil_append, h3, i149_177, i149_178, i149_179, i149_180, i149_181, i149_182, i149_183, i149_184, i149_185, i149_186, i149_187, i149_188, i149_189, rv_27_0, mM_a, not_true]
          by_cases h4 : g (18 * x + 2) ≤ g (150 + 154 * u + 103)
          · simp (disch := first | assumption | omega | decide) only [nI_add, n_mul, n_sub, n_le, n_lt, n_eq, n_ne1, n_0, m_bl_t, m_bl_f, if_true, if_false, Nat.reduceAdd, Nat.reduceMul, Nat.reduceSub, Nat.reduceLeDiff, Nat.reduceEqDiff, Nat.add_zero, Nat.add_sub_cancel, Option.toList, List.cons_append, List.nil_append, h4, i149_209, i149_210, i149_211, i149_212, i149_213, i149_214, i149_215, i149_216, i149_217, i149_218, i149_219, i149_220, i149_221, i149_222, rv_27_0, mM_a, mM_sa, w149_223]
          · simp (disch := first | assumption | omega | decide) only [nI_add, n_mul, n_sub, n_le, n_lt, n_eq, n_ne1, n_0, m_bl_t, m_bl_f, if_true, if_false, Nat.reduceAdd, Nat.reduceMul, Nat.reduceSub, Nat.reduceLeDiff, Nat.reduceEqDiff, Nat.add_zero, Nat.add_sub_cancel, Option.toList, List.cons_append, List.nil_append, h4, i149_190, i149_191, i149_192, i149_193, c140, b_0]
            cases h5 : d_ch g u
            · simp (disch := first | assumption | omega | decide) only [nI_add, n_mul, n_sub, n_le, n_lt, n_eq, n_ne1, n_0, m_bl_t, m_bl_f, if_true, if_false, Nat.reduceAdd, Nat.reduceMul, Nat.reduceSub, Nat.reduceLeDiff, Nat.reduceEqDiff, Nat.add_zero, Nat.add_sub_cancel, Option.toList, List.cons_append, List.nil_append, i149_199, i149_200, i149_201, i149_202, i149_203, i149_204, i149_205, i149_206, i149_207, i149_208, i149_209, i149_210, i149_211, i149_212, i149_213, i149_214, i149_215, i149_216, i149_217, i149_218, i149_219, i149_220, i149_221, i149_222, rv_27_0, mM_a, mM_sa, w149_223, Bool.false_eq_true, m_sc_ne]
            · simp (disch := first | assumption | omega | decide) only [nI_add, n_mul, n_sub, n_le, n_lt, n_eq, n_ne1, n_0, m_bl_t, m_bl_f, if_true, if_false, Nat.reduceAdd, Nat.reduceMul, Nat.reduceSub, Nat.reduceLeDiff, Nat.reduceEqDiff, Nat.add_zero, Nat.add_sub_cancel, Option.toList, List.cons_append, List.nil_append, i149_194, i149_195, i149_196, i149_197, i149_198, c142 ht hu ha hd hg hk hg2, Bool.true_eq_false]
        · simp (disch := first | assumption | omega | decide) only [nI_add, n_mul, n_sub, n_le, n_lt, n_eq, n_ne1, n_0, m_bl_t, m_bl_f, if_true, if_false, Nat.reduceAdd, Nat.reduceMul, Nat.reduceSub, Nat.reduceLeDiff, Nat.reduceEqDiff, Nat.add_zero, Nat.add_sub_cancel, Option.toList, List.cons_append, List.nil_append, h3, i149_157, i149_158, i149_159, i149_160, i149_161, i149_162, i149_163, i149_164, i149_165, i149_166, i149_167, i149_168, i149_169, i149_170, i149_171, rv_27_0, mM_a, not_false_iff]
          by_cases h4 : g (150 + 154 * u + 111 + x) = g (18 * x + 2)
          · simp (disch := first | assumption | omega | decide) only [nI_add, n_mul, n_sub, n_le, n_lt, n_eq, n_ne1, n_0, m_bl_t, m_bl_f, if_true, if_false, Nat.reduceAdd, Nat.reduceMul, Nat.reduceSub, Nat.reduceLeDiff, Nat.reduceEqDiff, Nat.add_zero, Nat.add_sub_cancel, Option.toList, List.cons_append, List.nil_append, h4, w149_223]
          · simp (disch := first | assumption | omega | decide) only [nI_add, n_mul, n_sub, n_le, n_lt, n_eq, n_ne1, n_0, m_bl_t, m_bl_f, if_true, if_false, Nat.reduceAdd, Nat.reduceMul, Nat.reduceSub, Nat.reduceLeDiff, Nat.reduceEqDiff, Nat.add_zero, Nat.add_sub_cancel, Option.toList, List.cons_append, List.nil_append, h4, i149_172, i149_173, i149_174, i149_175, i149_176, c142 ht hu ha hd hg hk hg2]
      rw [if_neg h2, ← tail]
      by_cases h3 : g (150 + 154 * u + 102) = nI 1
      · have h4 : ¬ h 1 = nI 2 := fun h4 => h2 (by simp [h3, h4])
        simp (disch := first | assumption | omega | decide) only [nI_add, n_mul, n_sub, n_le, n_lt, n_eq, n_ne1, n_0, m_bl_t, m_bl_f, if_true, if_false, Nat.reduceAdd, Nat.reduceMul, Nat.reduceSub, Nat.reduceLeDiff, Nat.reduceEqDiff, Nat.add_zero, Nat.add_sub_cancel, Option.toList, List.cons_append, List.nil_append, h3, h4, i149_138, i149_139, i149_140, i149_141, mM_27]
      · simp (disch := first | assumption | omega | decide) only [nI_add, n_mul, n_sub, n_le, n_lt, n_eq, n_ne1, n_0, m_bl_t, m_bl_f, if_true, if_false, Nat.reduceAdd, Nat.reduceMul, Nat.reduceSub, Nat.reduceLeDiff, Nat.reduceEqDiff, Nat.add_zero, Nat.add_sub_cancel, Option.toList, List.cons_append, List.nil_append, h3]
theorem w149 (ht : 55 ≤ t) (hu : u < 3) (ha : m_aa a) (hx : x < 8) {c d k w dw kw : Nat} (hc : g (18 * x + 15) = nI c) (hc2 : c ≤ 4) (hd : d ≤ 4) (hg : g (150 + 154 * u + 8) = nI d) (hk : k ≤ d) (hg2 : g (150 + 154 * u + 110) = nI k) (hw : d_own g h u x w dw kw) : WP V 149 0 (m_loc 149 [.ref 27, .int (nI u), .int (nI x)]) [] t (mM J a g h o) L (m_RR e a b) Q = Q (some (.int (d_reads g h u x c d k w dw kw).1)) t (mM J a (d_reads g h u x c d k w dw kw).2.1 (d_reads g h u x c d k w dw kw).2.2 o) L (m_RR e a b) := by
  have hA := mA_of ha
  have hat := mA_lt ha ht
  rw [show m_loc 149 [.ref 27, .int (nI u), .int (nI x)] = [.ref 27, .int (nI u), .int (nI x), m_u, m_u] from rfl]
  unfold d_reads
  simp (disch := first | assumption | omega | decide) only [nI_add, n_mul, n_sub, n_le, n_lt, n_eq, n_ne1, n_0, m_bl_t, m_bl_f, if_true, if_false, Nat.reduceAdd, Nat.reduceMul, Nat.reduceSub, Nat.reduceLeDiff, Nat.reduceEqDiff, Nat.add_zero, Nat.add_sub_cancel, Option.toList, List.cons_append, List.nil_append, i149_0, i149_1, i149_2, i149_3, i149_4, i149_5, i149_6, i149_7, i149_8, i149_9, i149_10, i149_11, i149_12, rv_27_0, c112, c113, mM_a]
  by_cases h1 : g (150 + 154 * u + 101) = nI 0
  · simp (disch := first | assumption | omega | decide) only [nI_add, n_mul, n_sub, n_le, n_lt, n_eq, n_ne1, n_0, m_bl_t, m_bl_f, if_true, if_false, Nat.reduceAdd, Nat.reduceMul, Nat.reduceSub, Nat.reduceLeDiff, Nat.reduceEqDiff, Nat.add_zero, Nat.add_sub_cancel, Option.toList, List.cons_append, List.nil_append, h1, i149_13, i149_14, i149_15, i149_16, i149_17, i149_18, i149_19, i149_20, i149_21, i149_22, i149_23, i149_24, i149_25, i149_26, i149_27, i149_28, i149_29, i149_30, i149_31, i149_32, i149_33, i149_34, rv_27_0, mM_a, mM_27, mM_s27]
    have e1 : m_sc (m_sc h 22 (g (18 * x))) 23 (g (18 * x + 1)) = d_vh h (g (18 * x)) (g (18 * x + 1)) := rfl
    by_cases h2 : g (18 * x + 17) = -1
    · simp (disch := first | assumption | omega | decide) only [nI_add, n_mul, n_sub, n_le, n_lt, n_eq, n_ne1, n_0, m_bl_t, m_bl_f, if_true, if_false, Nat.reduceAdd, Nat.reduceMul, Nat.reduceSub, Nat.reduceLeDiff, Nat.reduceEqDiff, Nat.add_zero, Nat.add_sub_cancel, Option.toList, List.cons_append, List.nil_append, h2, i149_35, i149_36, i149_37, i149_38, c148, b_0, e1, not_true, decide_false, Bool.false_or]
      cases h3 : d_lkd g u
      · simp (disch := first | assumption | omega | decide) only [nI_add, n_mul, n_sub, n_le, n_lt, n_eq, n_ne1, n_0, m_bl_t, m_bl_f, if_true, if_false, Nat.reduceAdd, Nat.reduceMul, Nat.reduceSub, Nat.reduceLeDiff, Nat.reduceEqDiff, Nat.add_zero, Nat.add_sub_cancel, Option.toList, List.cons_append, List.nil_append, i149_41, i149_42]
      · simp (disch := first | assumption | omega | decide) only [nI_add, n_mul, n_sub, n_le, n_lt, n_eq, n_ne1, n_0, m_bl_t, m_bl_f, if_true, if_false, Nat.reduceAdd, Nat.reduceMul, Nat.reduceSub, Nat.reduceLeDiff, Nat.reduceEqDiff, Nat.add_zero, Nat.add_sub_cancel, Option.toList, List.cons_append, List.nil_append, i149_39, i149_40, i149_41, i149_42, Bool.true_eq_false]
    · simp (disch := first | assumption | omega | decide) only [nI_add, n_mul, n_sub, n_le, n_lt, n_eq, n_ne1, n_0, m_bl_t, m_bl_f, if_true, if_false, Nat.reduceAdd, Nat.reduceMul, Nat.reduceSub, Nat.reduceLeDiff, Nat.reduceEqDiff, Nat.add_zero, Nat.add_sub_cancel, Option.toList, List.cons_append, List.nil_append, h2, i149_39, i149_40, i149_41, i149_42, e1, not_false_iff, decide_true, Bool.true_or]
  · simp (disch := first | assumption | omega | decide) only [nI_add, n_mul, n_sub, n_le, n_lt, n_eq, n_ne1, n_0, m_bl_t, m_bl_f, if_true, if_false, Nat.reduceAdd, Nat.reduceMul, Nat.reduceSub, Nat.reduceLeDiff, Nat.reduceEqDiff, Nat.add_zero, Nat.add_sub_cancel, Option.toList, List.cons_append, List.nil_append, h1, i149_43, i149_44, i149_45, i149_46, i149_47, i149_48, i149_49, i149_50, i149_51, i149_52, i149_53, i149_54, rv_27_0, mM_a]
    by_cases h2 : g (150 + 154 * u + 135 + 2 * x) = -1
    · simp (disch := first | assumption | omega | decide) only [nI_add, n_mul, n_sub, n_le, n_lt, n_eq, n_ne1, n_0, m_bl_t, m_bl_f, if_true, if_false, Nat.reduceAdd, Nat.reduceMul, Nat.reduceSub, Nat.reduceLeDiff, Nat.reduceEqDiff, Nat.add_zero, Nat.add_sub_cancel, Option.toList, List.cons_append, List.nil_append, h2, i149_83, i149_84, i149_85, i149_86, mM_27, not_true]
      by_cases h3 : h 1 = nI 3
      · simp (disch := first | assumption | omega | decide) only [nI_add, n_mul, n_sub, n_le, n_lt, n_eq, n_ne1, n_0, m_bl_t, m_bl_f, if_true, if_false, Nat.reduceAdd, Nat.reduceMul, Nat.reduceSub, Nat.reduceLeDiff, Nat.reduceEqDiff, Nat.add_zero, Nat.add_sub_cancel, Option.toList, List.cons_append, List.nil_append, h3, i149_87, i149_88, i149_89, i149_90, i149_91, i149_92, i149_93, i149_94, i149_95, i149_96, i149_97, i149_98, i149_99, i149_100, i149_101, rv_27_0, mM_a, mM_sa, w149_223]
      · simp (disch := first | assumption | omega | decide) only [nI_add, n_mul, n_sub, n_le, n_lt, n_eq, n_ne1, n_0, m_bl_t, m_bl_f, if_true, if_false, Nat.reduceAdd, Nat.reduceMul, Nat.reduceSub, Nat.reduceLeDiff, Nat.reduceEqDiff, Nat.add_zero, Nat.add_sub_cancel, Option.toList, List.cons_append, List.nil_append, h3, i149_102, i149_103, i149_104, i149_105, i149_106, c147, b_0]
        cases h4 : d_held g u x
        · simp (disch := first | assumption | omega | decide) only [nI_add, n_mul, n_sub, n_le, n_lt, n_eq, n_ne1, n_0, m_bl_t, m_bl_f, if_true, if_false, Nat.reduceAdd, Nat.reduceMul, Nat.reduceSub, Nat.reduceLeDiff, Nat.reduceEqDiff, Nat.add_zero, Nat.add_sub_cancel, Option.toList, List.cons_append, List.nil_append, i149_107, i149_108, i149_109, i149_110, i149_111, c146 ht hu ha hx hw, b_0, Bool.false_eq_true]
          have q1 : (d_wfo g h u x w dw kw).1 = false → (d_wfo g h u x w dw kw).2.1 (18 * x + 15) = nI c ∧ (d_wfo g h u x w dw kw).2.1 (150 + 154 * u + 8) = nI d ∧ (d_wfo g h u x w dw kw).2.1 (150 + 154 * u + 110) = nI k := by
            unfold d_wfo
            split
            · rename_i hq
              obtain ⟨hw1, hw0, hw2, hdw, hkw, hgw, hgw2⟩ := hw hq
              split
              · intro _
                refine ⟨?_, ?_, ?_⟩
                · rw [← hc]; exact d_anew_o hkw hdw (by omega) (by omega)
                · rw [← hg]; exact d_anew_o hkw hdw (by omega) (by omega)
                · rw [← hg2]; exact d_anew_o hkw hdw (by omega) (by omega)
              · intro h5; cases h5
            · intro _; exact ⟨hc, hg, hg2⟩
          have q0 : (d_wfo g h u x w dw kw).1 = true → (d_wfo g h u x w dw kw).2.1 = g ∧ (d_wfo g h u x w dw kw).2.2 = h := by
            unfold d_wfo
            split
            · split
              · intro h5; cases h5
              · intro _; exact ⟨rfl, rfl⟩
            · intro h5; cases h5
          generalize d_wfo g h u x w dw kw = rr at q1 q0
          obtain ⟨r1, r2, r3⟩ := rr
          cases r1
          · obtain ⟨q2, q3, q4⟩ := q1 rfl
            simp (disch := first | assumption | omega | decide) only [nI_add, n_mul, n_sub, n_le, n_lt, n_eq, n_ne1, n_0, m_bl_t, m_bl_f, if_true, if_false, Nat.reduceAdd, Nat.reduceMul, Nat.reduceSub, Nat.reduceLeDiff, Nat.reduceEqDiff, Nat.add_zero, Nat.add_sub_cancel, Option.toList, List.cons_append, List.nil_append, Bool.false_eq_true, w149_114 ht hu ha hx q2 hc2 hd q3 hk q4]
          · obtain ⟨q2, q3⟩ := q0 rfl
            dsimp only at q2 q3
            rw [q2, q3]
            simp (disch := first | assumption | omega | decide) only [nI_add, n_mul, n_sub, n_le, n_lt, n_eq, n_ne1, n_0, m_bl_t, m_bl_f, if_true, if_false, Nat.reduceAdd, Nat.reduceMul, Nat.reduceSub, Nat.reduceLeDiff, Nat.reduceEqDiff, Nat.add_zero, Nat.add_sub_cancel, Option.toList, List.cons_append, List.nil_append, i149_112, i149_113, Bool.true_eq_false]
        · simp (disch := first | assumption | omega | decide) only [nI_add, n_mul, n_sub, n_le, n_lt, n_eq, n_ne1, n_0, m_bl_t, m_bl_f, if_true, if_false, Nat.reduceAdd, Nat.reduceMul, Nat.reduceSub, Nat.reduceLeDiff, Nat.reduceEqDiff, Nat.add_zero, Nat.add_sub_cancel, Option.toList, List.cons_append, List.nil_append, i149_112, i149_113, Bool.true_eq_false]
    · simp (disch := first | assumption | omega | decide) only [nI_add, n_mul, n_sub, n_le, n_lt, n_eq, n_ne1, n_0, m_bl_t, m_bl_f, if_true, if_false, Nat.reduceAdd, Nat.reduceMul, Nat.reduceSub, Nat.reduceLeDiff, Nat.reduceEqDiff, Nat.add_zero, Nat.add_sub_cancel, Option.toList, List.cons_append, List.nil_append, h2, i149_55, i149_56, i149_57, i149_58, i149_59, i149_60, i149_61, i149_62, i149_63, i149_64, i149_65, i149_66, i149_67, i149_68, i149_69, i149_70, i149_71, i149_72, i149_73, i149_74, i149_75, i149_76, i149_77, i149_78, i149_79, i149_80, i149_81, i149_82, rv_27_0, mM_a, mM_27, mM_s27, not_false_iff]
      rfl
theorem c149 (ht : 55 ≤ t) (hu : u < 3) (ha : m_aa a) (hx : x < 8) {c d k w dw kw : Nat} (hc : g (18 * x + 15) = nI c) (hc2 : c ≤ 4) (hd : d ≤ 4) (hg : g (150 + 154 * u + 8) = nI d) (hk : k ≤ d) (hg2 : g (150 + 154 * u + 110) = nI k) (hw : d_own g h u x w dw kw) : WPC V 149 [.ref 27, .int (nI u), .int (nI x)] m n ls st t (mM J a g h o) L (m_RR e a b) Q = WP V m n ls ((.int (d_reads g h u x c d k w dw kw).1) :: st) t (mM J a (d_reads g h u x c d k w dw kw).2.1 (d_reads g h u x c d k w dw kw).2.2 o) L (m_RR e a b) Q := wpc_of (fun Q => w149 ht hu ha hx hc hc2 hd hg hk hg2 hw)
end T30
