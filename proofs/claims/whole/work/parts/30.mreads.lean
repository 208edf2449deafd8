/-! specs: the model reads -/
abbrev d_O : Type := Int32 × (Nat → Int32) × (Nat → Int32)
def d_wfo (g h : Nat → Int32) (u x w d k : Nat) : Bool × (Nat → Int32) × (Nat → Int32) :=
  if decide (h 1 = nI 1) && c_oth (g (18 * x + 16)) (nI u) then (if d_eld g u w then (false, d_anew g w d k, d_anh h) else (true, g, h)) else (false, g, h)
/-- the first of n older values from k on that is not too new -/
def d_pk (g : Nat → Int32) (u x : Nat) : Nat → Nat → Option Nat
  | _, 0 => none
  | k, n + 1 => if g (18 * x + 3 + 3 * k + 2) ≤ g (150 + 154 * u + 103) then some k else d_pk g u x (k + 1) n
def d_vh (h : Nat → Int32) (v z : Int32) : Nat → Int32 := m_sc (m_sc h 22 v) 23 z
def d_pic (g h : Nat → Int32) (u x n d k : Nat) : d_O := match d_pk g u x 0 n with
  | some i => (nI 0, d_seen g u x (g (18 * x + 3 + 3 * i)) (g (18 * x + 3 + 3 * i + 1)), d_vh h (g (18 * x + 3 + 3 * i)) (g (18 * x + 3 + 3 * i + 1)))
  | none => (nI 2, d_anew g u d k, d_anh h)
def d_fin (g h : Nat → Int32) (u x : Nat) : d_O := (nI 0, d_seen g u x (g (18 * x)) (g (18 * x + 1)), d_vh h (g (18 * x)) (g (18 * x + 1)))
def d_rd2 (g h : Nat → Int32) (u x n d k : Nat) : d_O :=
  if g (150 + 154 * u + 102) = nI 3 then d_fin (m_sc g (18 * x + 17) (nI u)) h u x
  else if decide (g (150 + 154 * u + 102) = nI 1) && decide (h 1 = nI 2) then d_pic g h u x n d k
  else if ¬ g (150 + 154 * u + 111 + x) = -1 then (if g (150 + 154 * u + 111 + x) = g (18 * x + 2) then d_fin g h u x else (nI 2, d_anew g u d k, d_anh h))
  else if g (18 * x + 2) ≤ g (150 + 154 * u + 103) then d_fin (m_sc g (150 + 154 * u + 111 + x) (g (18 * x + 2))) h u x
  else if d_ch g u then (nI 2, d_anew g u d k, d_anh h)
  else d_fin (m_sc (m_sc g (150 + 154 * u + 103) (g 144)) (150 + 154 * u + 111 + x) (g (18 * x + 2))) h u x
def d_reads (g h : Nat → Int32) (u x n d k w dw kw : Nat) : d_O :=
  if g (150 + 154 * u + 101) = nI 0 then (m_bl (decide (¬ g (18 * x + 17) = -1) || d_lkd g u), g, d_vh h (g (18 * x)) (g (18 * x + 1)))
  else if ¬ g (150 + 154 * u + 135 + 2 * x) = -1 then (nI 0, g, d_vh h (g (150 + 154 * u + 135 + 2 * x)) (g (150 + 154 * u + 135 + 2 * x + 1)))
  else if h 1 = nI 3 then d_fin (m_sc g (150 + 154 * u + 111 + x) (g (18 * x + 2))) h u x
  else if d_held g u x then (nI 1, g, h)
  else if (d_wfo g h u x w dw kw).1 then (nI 1, g, h)
  else d_rd2 (d_wfo g h u x w dw kw).2.1 (d_wfo g h u x w dw kw).2.2 u x n d k
theorem d_drop_o {g : Nat → Int32} {u d k j : Nat} (hk : k ≤ d) (hd : d ≤ 4) (h : j < 150 + 154 * u + 8 ∨ 150 + 154 * u + 101 ≤ j) : d_drop g u d k j = g j := by
  unfold d_drop
  rw [m_sc_ne (by omega), d_z_o (by omega)]
theorem d_anew_o {g : Nat → Int32} {u d k j : Nat} (hk : k ≤ d) (hd : d ≤ 4) (h : j < 150 + 154 * u + 1 ∨ 150 + 154 * u + 152 ≤ j) (h2 : ∀ x, x < 8 → j ≠ 18 * x + 16) : d_anew g u d k j = g j := by
  unfold d_anew d_beg2 d_beg1
  rw [m_sc_ne (by omega), m_sc_ne (by omega), d_drop_o hk hd (by omega), d_cp_o (by omega), m_sc_ne (by omega), d_dis_o h2, d_el_o (by omega), d_er_o (by omega)]
/-- the owner whom u meets at cell x, and its scopes -/
def d_own (g h : Nat → Int32) (u x w d k : Nat) : Prop := (decide (h 1 = nI 1) && c_oth (g (18 * x + 16)) (nI u)) = true → w < 3 ∧ w ≠ u ∧ g (18 * x + 16) = nI w ∧ d ≤ 4 ∧ k ≤ d ∧ g (150 + 154 * w + 8) = nI d ∧ g (150 + 154 * w + 110) = nI k
section T30
variable {V : m_V} {t m n : Nat} {ls st : List Value} {I J : m_I} {g h : Nat → Int32} {o : m_I} {L : m_L} {R : m_R} {e : Option Nat} {a b : Nat} {Q : Option Value → Nat → m_I → m_L → m_R → Prop} {u x k : Nat}
theorem w154_13 (ht : 55 ≤ t) (hu : u < 3) (ha : m_aa a) {d : Nat} (hd : d < 4) : ∀ (c x : Nat) (g : Nat → Int32), x + c = 4 → WP V 154 13 [.ref 27, .int (nI u), .int (nI d), .int (nI (150 + 154 * u)), .int (nI (150 + 154 * u + 9 + 23 * d)), .int (nI x)] [] t (mM J a g h o) L (m_RR e a b) Q = WP V 154 34 [.ref 27, .int (nI u), .int (nI d), .int (nI (150 + 154 * u)), .int (nI (150 + 154 * u + 9 + 23 * d)), .int (nI 4)] [] t (mM J a (s_loop (d_cp1 (150 + 154 * u + 9 + 23 * d + 3) (150 + 154 * u + 3)) x c g) h o) L (m_RR e a b) Q := by
  have hA := mA_of ha
  have hat := mA_lt ha ht
  intro c
  induction c with
  | zero =>
    intro x g hx
    obtain rfl : x = 4 := by omega
    rw [i154_13]
    simp (disch := first | assumption | omega | decide) only [nI_add, n_mul, n_sub, n_le, n_lt, n_eq, n_ne1, n_0, m_bl_t, m_bl_f, if_true, if_false, Nat.reduceAdd, Nat.reduceMul, Nat.reduceSub, Nat.reduceLeDiff, Nat.reduceEqDiff, Nat.add_zero, Nat.add_sub_cancel, Option.toList, List.cons_append, List.nil_append, i154_14, i154_15, Nat.le_refl, s_loop]
  | succ c ih =>
    intro x g hx
    have hx8 : ¬ 4 ≤ x := by omega
    have hx7 : x < 4 := by omega
    rw [i154_13, s_loop]
    simp (disch := first | assumption | omega | decide) only [nI_add, n_mul, n_sub, n_le, n_lt, n_eq, n_ne1, n_0, m_bl_t, m_bl_f, if_true, if_false, Nat.reduceAdd, Nat.reduceMul, Nat.reduceSub, Nat.reduceLeDiff, Nat.reduceEqDiff, Nat.add_zero, Nat.add_sub_cancel, Option.toList, List.cons_append, List.nil_append, i154_14, i154_15, i154_16, i154_17, i154_18, i154_19, i154_20, i154_21, i154_22, i154_23, i154_24, i154_25, i154_26, i154_27, i154_28, i154_29, i154_30, i154_31, i154_32, i154_33, rv_27_0, hx8, mM_a, mM_sa]
    exact ih (x + 1) (d_cp1 (150 + 154 * u + 9 + 23 * d + 3) (150 + 154 * u + 3) x g) (by omega)
theorem w154_36 (ht : 55 ≤ t) (hu : u < 3) (ha : m_aa a) {d : Nat} (hd : d < 4) : ∀ (c x : Nat) (g : Nat → Int32), x + c = 16 → WP V 154 36 [.ref 27, .int (nI u), .int (nI d), .int (nI (150 + 154 * u)), .int (nI (150 + 154 * u + 9 + 23 * d)), .int (nI x)] [] t (mM J a g h o) L (m_RR e a b) Q = Q none t (mM J a (s_loop (d_cp1 (150 + 154 * u + 9 + 23 * d + 7) (150 + 154 * u + 135)) x c g) h o) L (m_RR e a b) := by
  have hA := mA_of ha
  have hat := mA_lt ha ht
  intro c
  induction c with
  | zero =>
    intro x g hx
    obtain rfl : x = 16 := by omega
    rw [i154_36]
    simp (disch := first | assumption | omega | decide) only [nI_add, n_mul, n_sub, n_le, n_lt, n_eq, n_ne1, n_0, m_bl_t, m_bl_f, if_true, if_false, Nat.reduceAdd, Nat.reduceMul, Nat.reduceSub, Nat.reduceLeDiff, Nat.reduceEqDiff, Nat.add_zero, Nat.add_sub_cancel, Option.toList, List.cons_append, List.nil_append, i154_37, i154_38, i154_57, Nat.le_refl, s_loop]
  | succ c ih =>
    intro x g hx
    have hx8 : ¬ 16 ≤ x := by omega
    have hx7 : x < 16 := by omega
    rw [i154_36, s_loop]
    simp (disch := first | assumption | omega | decide) only [nI_add, n_mul, n_sub, n_le, n_lt, n_eq, n_ne1, n_0, m_bl_t, m_bl_f, if_true, if_false, Nat.reduceAdd, Nat.reduceMul, Nat.reduceSub, Nat.reduceLeDiff, Nat.reduceEqDiff, Nat.add_zero, Nat.add_sub_cancel, Option.toList, List.cons_append, List.nil_append, i154_37, i154_38, i154_39, i154_40, i154_41, i154_42, i154_43, i154_44, i154_45, i154_46, i154_47, i154_48, i154_49, i154_50, i154_51, i154_52, i154_53, i154_54, i154_55, i154_56, rv_27_0, hx8, mM_a, mM_sa]
    exact ih (x + 1) (d_cp1 (150 + 154 * u + 9 + 23 * d + 7) (150 + 154 * u + 135) x g) (by omega)
theorem w154 (ht : 55 ≤ t) (hu : u < 3) (ha : m_aa a) {d : Nat} (hd : d < 4) : WP V 154 0 (m_loc 154 [.ref 27, .int (nI u), .int (nI d)]) [] t (mM J a g h o) L (m_RR e a b) Q = Q none t (mM J a (d_load g u d) h o) L (m_RR e a b) := by
  rw [show m_loc 154 [.ref 27, .int (nI u), .int (nI d)] = [.ref 27, .int (nI u), .int (nI d), m_u, m_u, m_u] from rfl]
  simp (disch := first | assumption | omega | decide) only [nI_add, n_mul, n_sub, n_le, n_lt, n_eq, n_ne1, n_0, m_bl_t, m_bl_f, if_true, if_false, Nat.reduceAdd, Nat.reduceMul, Nat.reduceSub, Nat.reduceLeDiff, Nat.reduceEqDiff, Nat.add_zero, Nat.add_sub_cancel, Option.toList, List.cons_append, List.nil_append, i154_0, i154_1, i154_2, i154_3, i154_4, i154_5, i154_6, i154_7, i154_8, i154_9, i154_10, i154_11, i154_12, c113]
  rw [w154_13 ht hu ha hd 4 0 g rfl]
  simp (disch := first | assumption | omega | decide) only [nI_add, n_mul, n_sub, n_le, n_lt, n_eq, n_ne1, n_0, m_bl_t, m_bl_f, if_true, if_false, Nat.reduceAdd, Nat.reduceMul, Nat.reduceSub, Nat.reduceLeDiff, Nat.reduceEqDiff, Nat.add_zero, Nat.add_sub_cancel, Option.toList, List.cons_append, List.nil_append, i154_34, i154_35]
  rw [w154_36 ht hu ha hd 16 0 _ rfl]
  rfl
theorem c154 (ht : 55 ≤ t) (hu : u < 3) (ha : m_aa a) {d : Nat} (hd : d < 4) : WPC V 154 [.ref 27, .int (nI u), .int (nI d)] m n ls st t (mM J a g h o) L (m_RR e a b) Q = WP V m n ls st t (mM J a (d_load g u d) h o) L (m_RR e a b) Q := wpc_of (fun Q => w154 ht hu ha hd)
theorem w146 (ht : 55 ≤ t) (hu : u < 3) (ha : m_aa a) (hx : x < 8) {w d k : Nat} (hw : d_own g h u x w d k) : WP V 146 0 (m_loc 146 [.ref 27, .int (nI u), .int (nI x)]) [] t (mM J a g h o) L (m_RR e a b) Q = Q (some (.int (m_bl (d_wfo g h u x w d k).1))) t (mM J a (d_wfo g h u x w d k).2.1 (d_wfo g h u x w d k).2.2 o) L (m_RR e a b) := by
  have hA := mA_of ha
  have hat := mA_lt ha ht
  rw [show m_loc 146 [.ref 27, .int (nI u), .int (nI x)] = [.ref 27, .int (nI u), .int (nI x), m_u] from rfl]
  simp (disch := first | assumption | omega | decide) only [nI_add, n_mul, n_sub, n_le, n_lt, n_eq, n_ne1, n_0, m_bl_t, m_bl_f, if_true, if_false, Nat.reduceAdd, Nat.reduceMul, Nat.reduceSub, Nat.reduceLeDiff, Nat.reduceEqDiff, Nat.add_zero, Nat.add_sub_cancel, Option.toList, List.cons_append, List.nil_append, i146_0, i146_1, i146_2, i146_3, i146_4, i146_5, i146_6, i146_7, i146_8, i146_9, i146_10, i146_11, rv_27_0, c112, mM_a, mM_27]
  unfold d_wfo
  by_cases h1 : h 1 = nI 1
  · by_cases h2 : g (18 * x + 16) = -1
    · simp (disch := first | assumption | omega | decide) only [nI_add, n_mul, n_sub, n_le, n_lt, n_eq, n_ne1, n_0, m_bl_t, m_bl_f, if_true, if_false, Nat.reduceAdd, Nat.reduceMul, Nat.reduceSub, Nat.reduceLeDiff, Nat.reduceEqDiff, Nat.add_zero, Nat.add_sub_cancel, Option.toList, List.cons_append, List.nil_append, h1, h2, i146_12, i146_13, i146_14, i146_18, i146_19]
      simp [c_oth, h2, m_bl]
    · by_cases h3 : g (18 * x + 16) = nI u
      · simp (disch := first | assumption | omega | decide) only [nI_add, n_mul, n_sub, n_le, n_lt, n_eq, n_ne1, n_0, m_bl_t, m_bl_f, if_true, if_false, Nat.reduceAdd, Nat.reduceMul, Nat.reduceSub, Nat.reduceLeDiff, Nat.reduceEqDiff, Nat.add_zero, Nat.add_sub_cancel, Option.toList, List.cons_append, List.nil_append, h1, h2, h3, i146_12, i146_13, i146_14, i146_15, i146_16, i146_17, i146_18, i146_19]
        simp [c_oth, h3, m_bl]
      · have hc : (decide (h 1 = nI 1) && c_oth (g (18 * x + 16)) (nI u)) = true := by simp [c_oth, h1, h2, h3]
        obtain ⟨hw1, hw0, hw2, hd, hk, hg, hg2⟩ := hw hc
        rw [hc]
        have h2' : ¬ nI w = -1 := hw2 ▸ h2
        have h3' : ¬ w = u := hw0
        simp (disch := first | assumption | omega | decide) only [nI_add, n_mul, n_sub, n_le, n_lt, n_eq, n_ne1, n_0, m_bl_t, m_bl_f, if_true, if_false, Nat.reduceAdd, Nat.reduceMul, Nat.reduceSub, Nat.reduceLeDiff, Nat.reduceEqDiff, Nat.add_zero, Nat.add_sub_cancel, Option.toList, List.cons_append, List.nil_append, h1, hw2, h2', h3', i146_12, i146_13, i146_14, i146_15, i146_16, i146_17, i146_18, i146_19, i146_20, i146_21, i146_22, i146_23, i146_24, c145, b_0]
        cases h4 : d_eld g u w
        · simp (disch := first | assumption | omega | decide) only [nI_add, n_mul, n_sub, n_le, n_lt, n_eq, n_ne1, n_0, m_bl_t, m_bl_f, if_true, if_false, Nat.reduceAdd, Nat.reduceMul, Nat.reduceSub, Nat.reduceLeDiff, Nat.reduceEqDiff, Nat.add_zero, Nat.add_sub_cancel, Option.toList, List.cons_append, List.nil_append, i146_25, i146_26, b_0, Bool.false_eq_true]
        · simp (disch := first | assumption | omega | decide) only [nI_add, n_mul, n_sub, n_le, n_lt, n_eq, n_ne1, n_0, m_bl_t, m_bl_f, if_true, if_false, Nat.reduceAdd, Nat.reduceMul, Nat.reduceSub, Nat.reduceLeDiff, Nat.reduceEqDiff, Nat.add_zero, Nat.add_sub_cancel, Option.toList, List.cons_append, List.nil_append, i146_27, i146_28, i146_29, i146_30, i146_31, b_0, Bool.true_eq_false, c142 ht hw1 ha hd hg hk hg2]
  · simp (disch := first | assumption | omega | decide) only [nI_add, n_mul, n_sub, n_le, n_lt, n_eq, n_ne1, n_0, m_bl_t, m_bl_f, if_true, if_false, Nat.reduceAdd, Nat.reduceMul, Nat.reduceSub, Nat.reduceLeDiff, Nat.reduceEqDiff, Nat.add_zero, Nat.add_sub_cancel, Option.toList, List.cons_append, List.nil_append, h1, i146_18, i146_19]
    simp [h1, m_bl]
theorem c146 (ht : 55 ≤ t) (hu : u < 3) (ha : m_aa a) (hx : x < 8) {w d k : Nat} (hw : d_own g h u x w d k) : WPC V 146 [.ref 27, .int (nI u), .int (nI x)] m n ls st t (mM J a g h o) L (m_RR e a b) Q = WP V m n ls ((.int (m_bl (d_wfo g h u x w d k).1)) :: st) t (mM J a (d_wfo g h u x w d k).2.1 (d_wfo g h u x w d k).2.2 o) L (m_RR e a b) Q := wpc_of (fun Q => w146 ht hu ha hx hw)
theorem w151_8 (ht : 55 ≤ t) (hu : u < 3) (ha : m_aa a) (hx : x < 8) {c d k : Nat} (hc : g (18 * x + 15) = nI c) (hc2 : c ≤ 4) (hd : d ≤ 4) (hg : g (150 + 154 * u + 8) = nI d) (hk : k ≤ d) (hg2 : g (150 + 154 * u + 110) = nI k) : ∀ (n i : Nat), i + n = c → WP V 151 8 [.ref 27, .int (nI u), .int (nI x), .int (nI (150 + 154 * u)), .int (nI (18 * x)), .int (nI i)] [] t (mM J a g h o) L (m_RR e a b) Q = (match d_pk g u x i n with
    | some i => Q (some (.int (nI 0))) t (mM J a (d_seen g u x (g (18 * x + 3 + 3 * i)) (g (18 * x + 3 + 3 * i + 1))) (d_vh h (g (18 * x + 3 + 3 * i)) (g (18 * x + 3 + 3 * i + 1))) o) L (m_RR e a b)
    | none => Q (some (.int (nI 2))) t (mM J a (d_anew g u d k) (d_anh h) o) L (m_RR e a b)) := by
  have hA := mA_of ha
  have hat := mA_lt ha ht
  intro n
  induction n with
  | zero =>
    intro i hi
    obtain rfl : i = c := by omega
    rw [i151_8]
    simp (disch := first | assumption | omega | decide) only [nI_add, n_mul, n_sub, n_le, n_lt, n_eq, n_ne1, n_0, m_bl_t, m_bl_f, if_true, if_false, Nat.reduceAdd, Nat.reduceMul, Nat.reduceSub, Nat.reduceLeDiff, Nat.reduceEqDiff, Nat.add_zero, Nat.add_sub_cancel, Option.toList, List.cons_append, List.nil_append, i151_9, i151_10, i151_11, i151_12, i151_13, i151_14, i151_15, i151_69, i151_70, i151_71, i151_72, i151_73, rv_27_0, mM_a, hc, Nat.le_refl, d_pk, c142 ht hu ha hd hg hk hg2]
  | succ n ih =>
    intro i hi
    have hx8 : ¬ c ≤ i := by omega
    have hi4 : i < 4 := by omega
    rw [i151_8, d_pk]
    simp (disch := first | assumption | omega | decide) only [nI_add, n_mul, n_sub, n_le, n_lt, n_eq, n_ne1, n_0, m_bl_t, m_bl_f, if_true, if_false, Nat.reduceAdd, Nat.reduceMul, Nat.reduceSub, Nat.reduceLeDiff, Nat.reduceEqDiff, Nat.add_zero, Nat.add_sub_cancel, Option.toList, List.cons_append, List.nil_append, i151_9, i151_10, i151_11, i151_12, i151_13, i151_14, i151_15, i151_16, i151_17, i151_18, i151_19, i151_20, i151_21, i151_22, i151_23, i151_24, i151_25, i151_26, i151_27, i151_28, i151_29, i151_30, i151_31, i151_32, i151_33, i151_34, rv_27_0, mM_a, hc, hx8]
    by_cases h1 : g (18 * x + 3 + 3 * i + 2) ≤ g (150 + 154 * u + 103)
    · have h1' : ¬ g (150 + 154 * u + 103) < g (18 * x + 3 + 3 * i + 2) := Int32.not_lt.mpr h1
      simp (disch := first | assumption | omega | decide) only [nI_add, n_mul, n_sub, n_le, n_lt, n_eq, n_ne1, n_0, m_bl_t, m_bl_f, if_true, if_false, Nat.reduceAdd, Nat.reduceMul, Nat.reduceSub, Nat.reduceLeDiff, Nat.reduceEqDiff, Nat.add_zero, Nat.add_sub_cancel, Option.toList, List.cons_append, List.nil_append, h1, h1', i151_35, i151_36, i151_37, i151_38, i151_39, i151_40, i151_41, i151_42, i151_43, i151_44, i151_45, i151_46, i151_47, i151_48, i151_49, i151_50, i151_51, i151_52, i151_53, i151_54, i151_55, i151_56, i151_57, i151_58, i151_59, i151_60, i151_61, i151_62, i151_63, i151_64, i151_65, i151_66, rv_27_0, mM_a, mM_27, mM_s27, c150, d_vh, m_sc_self, m_sc_ne]
    · have h1' : g (150 + 154 * u + 103) < g (18 * x + 3 + 3 * i + 2) := Int32.not_le.mp h1
      simp (disch := first | assumption | omega | decide) only [nI_add, n_mul, n_sub, n_le, n_lt, n_eq, n_ne1, n_0, m_bl_t, m_bl_f, if_true, if_false, Nat.reduceAdd, Nat.reduceMul, Nat.reduceSub, Nat.reduceLeDiff, Nat.reduceEqDiff, Nat.add_zero, Nat.add_sub_cancel, Option.toList, List.cons_append, List.nil_append, h1, h1', i151_67, i151_68]
      exact ih (i + 1) (by omega)
theorem w151 (ht : 55 ≤ t) (hu : u < 3) (ha : m_aa a) (hx : x < 8) {c d k : Nat} (hc : g (18 * x + 15) = nI c) (hc2 : c ≤ 4) (hd : d ≤ 4) (hg : g (150 + 154 * u + 8) = nI d) (hk : k ≤ d) (hg2 : g (150 + 154 * u + 110) = nI k) : WP V 151 0 (m_loc 151 [.ref 27, .int (nI u), .int (nI x)]) [] t (mM J a g h o) L (m_RR e a b) Q = Q (some (.int (d_pic g h u x c d k).1)) t (mM J a (d_pic g h u x c d k).2.1 (d_pic g h u x c d k).2.2 o) L (m_RR e a b) := by
  rw [show m_loc 151 [.ref 27, .int (nI u), .int (nI x)] = [.ref 27, .int (nI u), .int (nI x), m_u, m_u, m_u] from rfl]
  simp (disch := first | assumption | omega | decide) only [nI_add, n_mul, n_sub, n_le, n_lt, n_eq, n_ne1, n_0, m_bl_t, m_bl_f, if_true, if_false, Nat.reduceAdd, Nat.reduceMul, Nat.reduceSub, Nat.reduceLeDiff, Nat.reduceEqDiff, Nat.add_zero, Nat.add_sub_cancel, Option.toList, List.cons_append, List.nil_append, i151_0, i151_1, i151_2, i151_3, i151_4, i151_5, i151_6, i151_7, c112, c113]
  rw [w151_8 ht hu ha hx hc hc2 hd hg hk hg2 c 0 (by omega)]
  unfold d_pic
  cases d_pk g u x 0 c <;> rfl
theorem c151 (ht : 55 ≤ t) (hu : u < 3) (ha : m_aa a) (hx : x < 8) {c d k : Nat} (hc : g (18 * x + 15) = nI c) (hc2 : c ≤ 4) (hd : d ≤ 4) (hg : g (150 + 154 * u + 8) = nI d) (hk : k ≤ d) (hg2 : g (150 + 154 * u + 110) = nI k) : WPC V 151 [.ref 27, .int (nI u), .int (nI x)] m n ls st t (mM J a g h o) L (m_RR e a b) Q = WP V m n ls ((.int (d_pic g h u x c d k).1) :: st) t (mM J a (d_pic g h u x c d k).2.1 (d_pic g h u x c d k).2.2 o) L (m_RR e a b) Q := wpc_of (fun Q => w151 ht hu ha hx hc hc2 hd hg hk hg2)
end T30
