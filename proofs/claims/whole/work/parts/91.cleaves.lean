/-! explore: the class's small methods -/
section RBC
variable {V : m_V} {t m n : Nat} {ls st : List Value} {I J : m_I} {L : m_L} {R : m_R} {e : Option Nat} {a b : Nat} {Q : Option Value → Nat → m_I → m_L → m_R → Prop} {u x k s lo hi c : Nat} {p f : Nat → Int32}
theorem w37_14 (ht : 62 ≤ t) (hx : x < 3) (hu : u < 3) : WP V 37 14 [.ref 55, .int (nI u), .int (nI s), .int (nI x)] [] t I L (m_RR e a b) Q = WP V 37 14 [.ref 55, .int (nI u), .int (nI (s + z_z (I 2) x u)), .int (nI (x + 1))] [] t I L (m_RR e a b) Q := by
  have hx3 : ¬ 3 ≤ x := by omega
  unfold z_z
  rw [i37_14]
  by_cases h1 : I 2 (15 + x) = -1
  · rw [if_neg (fun q => q.1 h1)]
    simp (disch := first | assumption | omega | decide) only [nI_add, n_mul, n_sub, n_le, n_lt, n_eq, n_ne1, n_0, m_bl_t, m_bl_f, if_true, if_false, Nat.reduceAdd, Nat.reduceMul, Nat.reduceSub, Nat.reduceLeDiff, Nat.reduceEqDiff, Nat.add_zero, Nat.add_sub_cancel, Option.toList, List.cons_append, List.nil_append, i37_15, i37_16, i37_17, i37_18, i37_19, i37_20, i37_21, i37_22, i37_23, i37_24, i37_39, i37_40, rv_55_2, hx3, h1]
  · by_cases h2 : I 2 (18 + x) < I 2 (18 + u)
    · have h3 : ¬ I 2 (18 + u) ≤ I 2 (18 + x) := Int32.not_le.mpr h2
      rw [if_pos ⟨h1, h2⟩]
      simp (disch := first | assumption | omega | decide) only [nI_add, n_mul, n_sub, n_le, n_lt, n_eq, n_ne1, n_0, m_bl_t, m_bl_f, if_true, if_false, Nat.reduceAdd, Nat.reduceMul, Nat.reduceSub, Nat.reduceLeDiff, Nat.reduceEqDiff, Nat.add_zero, Nat.add_sub_cancel, Option.toList, List.cons_append, List.nil_append, i37_15, i37_16, i37_17, i37_18, i37_19, i37_20, i37_21, i37_22, i37_23, i37_24, i37_25, i37_26, i37_27, i37_28, i37_29, i37_30, i37_31, i37_32, i37_33, i37_34, i37_35, i37_36, i37_37, i37_38, i37_39, i37_40, rv_55_2, hx3, h1, h3]
    · have h3 : I 2 (18 + u) ≤ I 2 (18 + x) := Int32.not_lt.mp h2
      rw [if_neg (fun q => h2 q.2)]
      simp (disch := first | assumption | omega | decide) only [nI_add, n_mul, n_sub, n_le, n_lt, n_eq, n_ne1, n_0, m_bl_t, m_bl_f, if_true, if_false, Nat.reduceAdd, Nat.reduceMul, Nat.reduceSub, Nat.reduceLeDiff, Nat.reduceEqDiff, Nat.add_zero, Nat.add_sub_cancel, Option.toList, List.cons_append, List.nil_append, i37_15, i37_16, i37_17, i37_18, i37_19, i37_20, i37_21, i37_22, i37_23, i37_24, i37_25, i37_26, i37_27, i37_28, i37_29, i37_30, i37_31, i37_32, i37_33, i37_34, i37_35, i37_36, i37_37, i37_39, i37_40, rv_55_2, hx3, h1, h3]
theorem w37 (ht : 62 ≤ t) (hu : u < 3) : WP V 37 0 (m_loc 37 [.ref 55, .int (nI u)]) [] t I L (m_RR e a b) Q = Q (some (.int (nI (z_rk (I 2) u)))) t I L (m_RR e a b) := by
  rw [show m_loc 37 [.ref 55, .int (nI u)] = [.ref 55, .int (nI u), m_u, m_u] from rfl]
  unfold z_rk
  by_cases h1 : I 2 (15 + u) = -1
  · rw [if_pos h1]
    simp (disch := first | assumption | omega | decide) only [nI_add, n_mul, n_sub, n_le, n_lt, n_eq, n_ne1, n_0, m_bl_t, m_bl_f, if_true, if_false, Nat.reduceAdd, Nat.reduceMul, Nat.reduceSub, Nat.reduceLeDiff, Nat.reduceEqDiff, Nat.add_zero, Nat.add_sub_cancel, Option.toList, List.cons_append, List.nil_append, i37_0, i37_1, i37_2, i37_3, i37_4, i37_5, i37_6, i37_7, i37_8, i37_9, rv_55_2, h1]
  · rw [if_neg h1]
    simp (disch := first | assumption | omega | decide) only [nI_add, n_mul, n_sub, n_le, n_lt, n_eq, n_ne1, n_0, m_bl_t, m_bl_f, if_true, if_false, Nat.reduceAdd, Nat.reduceMul, Nat.reduceSub, Nat.reduceLeDiff, Nat.reduceEqDiff, Nat.add_zero, Nat.add_sub_cancel, Option.toList, List.cons_append, List.nil_append, i37_0, i37_1, i37_2, i37_3, i37_4, i37_5, i37_6, i37_7, i37_10, i37_11, i37_12, i37_13, rv_55_2, h1]
    rw [w37_14 ht (by omega) hu, w37_14 ht (by omega) hu, w37_14 ht (by omega) hu, i37_14]
    simp (disch := first | assumption | omega | decide) only [nI_add, n_mul, n_sub, n_le, n_lt, n_eq, n_ne1, n_0, m_bl_t, m_bl_f, if_true, if_false, Nat.reduceAdd, Nat.reduceMul, Nat.reduceSub, Nat.reduceLeDiff, Nat.reduceEqDiff, Nat.add_zero, Nat.add_sub_cancel, Option.toList, List.cons_append, List.nil_append, i37_15, i37_16, i37_41, i37_42, Nat.le_refl, Nat.zero_add]
theorem c37 (ht : 62 ≤ t) (hu : u < 3) : WPC V 37 [.ref 55, .int (nI u)] m n ls st t I L (m_RR e a b) Q = WP V m n ls ((.int (nI (z_rk (I 2) u))) :: st) t I L (m_RR e a b) Q := wpc_of (fun Q => w37 ht hu)
theorem w36 (ht : 62 ≤ t) : WP V 36 0 (m_loc 36 [.ref 55]) [] t I L (m_RR e a b) Q = Q none t (m_sc I 2 (z_ags (I 2))) L (m_RR e a b) := by
  rw [show m_loc 36 [.ref 55] = [.ref 55, m_u, m_u, m_u] from rfl]
  have z0 : (0 : Nat) < 3 := by decide
  have z1 : (1 : Nat) < 3 := by decide
  have z2 : (2 : Nat) < 3 := by decide
  simp (disch := first | assumption | omega | decide) only [nI_add, n_mul, n_sub, n_le, n_lt, n_eq, n_ne1, n_0, m_bl_t, m_bl_f, if_true, if_false, Nat.reduceAdd, Nat.reduceMul, Nat.reduceSub, Nat.reduceLeDiff, Nat.reduceEqDiff, Nat.add_zero, Nat.add_sub_cancel, Option.toList, List.cons_append, List.nil_append, i36_0, i36_1, i36_2, i36_3, i36_4, i36_5, i36_6, i36_7, i36_8, i36_9, i36_10, i36_11, i36_12, i36_13, i36_14, i36_15, i36_16, i36_17, i36_18, i36_19, i36_20, i36_21, i36_22, i36_23, i36_24, i36_25, i36_26, i36_27, rv_55_2, c37 ht z0, c37 ht z1, c37 ht z2, m_sc_self, s_scc]
  rfl
theorem c36 (ht : 62 ≤ t) : WPC V 36 [.ref 55] m n ls st t I L (m_RR e a b) Q = WP V m n ls st t (m_sc I 2 (z_ags (I 2))) L (m_RR e a b) Q := wpc_of (fun Q => w36 ht)
def z_hl (f : Nat → Int32) : Nat → Nat → Int32 → Int32
  | _, 0, h => h
  | x, c + 1, h => z_hl f (x + 1) c (nI 31 * h + f x)
def z_hx (h : Int32) : Int32 := h ^^^ (h.toUInt32 >>> ((nI 15).toUInt32 &&& Int32.toUInt32 31)).toInt32
def z_h (f : Nat → Int32) : Int32 := z_hx (z_hl f 0 73 (nI 17))
theorem z_hl_cg {f' : Nat → Int32} : ∀ c x (h : Int32), (∀ j, x ≤ j → j < x + c → f' j = f j) → z_hl f' x c h = z_hl f x c h := by
  intro c
  induction c with
  | zero => intro x h _; rfl
  | succ c ih =>
    intro x h hf
    show z_hl f' (x + 1) c (nI 31 * h + f' x) = z_hl f (x + 1) c (nI 31 * h + f x)
    rw [hf x (by omega) (by omega)]
    exact ih (x + 1) _ (fun j j1 j2 => hf j (by omega) (by omega))
theorem z_h_cg {f' : Nat → Int32} (hf : ∀ j, j < 73 → f' j = f j) : z_h f' = z_h f := by
  unfold z_h
  rw [z_hl_cg 73 0 (nI 17) (fun j _ j2 => hf j (by omega))]
theorem w38_4 (ht : 62 ≤ t) : ∀ c x (y : Int32), x + c = 73 → WP V 38 4 [.ref 55, .int y, .int (nI x)] [] t I L (m_RR e a b) Q = Q (some (.int (z_hx (z_hl (I 2) x c y)))) t I L (m_RR e a b) := by
  intro c
  induction c with
  | zero =>
    intro x y hx
    obtain rfl : x = 73 := by omega
    rw [i38_4]
    simp (disch := first | assumption | omega | decide) only [nI_add, n_mul, n_sub, n_le, n_lt, n_eq, n_ne1, n_0, m_bl_t, m_bl_f, if_true, if_false, Nat.reduceAdd, Nat.reduceMul, Nat.reduceSub, Nat.reduceLeDiff, Nat.reduceEqDiff, Nat.add_zero, Nat.add_sub_cancel, Option.toList, List.cons_append, List.nil_append, i38_5, i38_6, i38_18, i38_19, i38_20, i38_21, i38_22, i38_23, Nat.le_refl]
    rfl
  | succ c ih =>
    intro x y hx
    have h7 : ¬ 73 ≤ x := by omega
    show _ = Q (some (.int (z_hx (z_hl (I 2) (x + 1) c (nI 31 * y + I 2 x))))) t I L (m_RR e a b)
    rw [← ih (x + 1) _ (by omega), i38_4]
    simp (disch := first | assumption | omega | decide) only [nI_add, n_mul, n_sub, n_le, n_lt, n_eq, n_ne1, n_0, m_bl_t, m_bl_f, if_true, if_false, Nat.reduceAdd, Nat.reduceMul, Nat.reduceSub, Nat.reduceLeDiff, Nat.reduceEqDiff, Nat.add_zero, Nat.add_sub_cancel, Option.toList, List.cons_append, List.nil_append, i38_5, i38_6, i38_7, i38_8, i38_9, i38_10, i38_11, i38_12, i38_13, i38_14, i38_15, i38_16, i38_17, rv_55_2, h7]
theorem w38 (ht : 62 ≤ t) : WP V 38 0 (m_loc 38 [.ref 55]) [] t I L (m_RR e a b) Q = Q (some (.int (z_h (I 2)))) t I L (m_RR e a b) := by
  rw [show m_loc 38 [.ref 55] = [.ref 55, m_u, m_u] from rfl]
  simp (disch := first | assumption | omega | decide) only [nI_add, n_mul, n_sub, n_le, n_lt, n_eq, n_ne1, n_0, m_bl_t, m_bl_f, if_true, if_false, Nat.reduceAdd, Nat.reduceMul, Nat.reduceSub, Nat.reduceLeDiff, Nat.reduceEqDiff, Nat.add_zero, Nat.add_sub_cancel, Option.toList, List.cons_append, List.nil_append, i38_0, i38_1, i38_2, i38_3]
  exact w38_4 ht 73 0 (nI 17) rfl
theorem c38 (ht : 62 ≤ t) : WPC V 38 [.ref 55] m n ls st t I L (m_RR e a b) Q = WP V m n ls ((.int (z_h (I 2))) :: st) t I L (m_RR e a b) Q := wpc_of (fun Q => w38 ht)
def z_sm (p f : Nat → Int32) (s : Nat) : Nat → Nat → Bool
  | _, 0 => true
  | x, c + 1 => decide (p (s + x) = f x) && z_sm p f s (x + 1) c
theorem z_sm_iff : ∀ c x, z_sm p f s x c = true ↔ ∀ j, x ≤ j → j < x + c → p (s + j) = f j := by
  intro c
  induction c with
  | zero => intro x; exact ⟨fun _ j j1 j2 => by omega, fun _ => rfl⟩
  | succ c ih =>
    intro x
    show (decide (p (s + x) = f x) && z_sm p f s (x + 1) c) = true ↔ _
    rw [Bool.and_eq_true, decide_eq_true_eq, ih]
    constructor
    · rintro ⟨h1, h2⟩ j j1 j2
      by_cases hj : j = x
      · subst hj; exact h1
      · exact h2 j (by omega) (by omega)
    · intro h
      exact ⟨h x (by omega) (by omega), fun j j1 j2 => h j (by omega) (by omega)⟩
theorem w40_2 (ht : 62 ≤ t) {w2 : Value} (h1 : s + hi ≤ 232400) (h2 : hi ≤ 581) : ∀ c x, x + c = hi → WP V 40 2 [.ref 55, .int (nI s), w2, .int (nI hi), .int (nI x)] [] t I L (m_RR e a b) Q = Q (some (.int (m_bl (z_sm (I 57) (I 2) s x c)))) t I L (m_RR e a b) := by
  intro c
  induction c with
  | zero =>
    intro x hx
    obtain rfl : x = hi := by omega
    rw [i40_2]
    simp (disch := first | assumption | omega | decide) only [nI_add, n_mul, n_sub, n_le, n_lt, n_eq, n_ne1, n_0, m_bl_t, m_bl_f, if_true, if_false, Nat.reduceAdd, Nat.reduceMul, Nat.reduceSub, Nat.reduceLeDiff, Nat.reduceEqDiff, Nat.add_zero, Nat.add_sub_cancel, Option.toList, List.cons_append, List.nil_append, i40_3, i40_4, i40_20, i40_21, Nat.le_refl]
    rfl
  | succ c ih =>
    intro x hx
    have h7 : ¬ hi ≤ x := by omega
    have e0 : z_sm (I 57) (I 2) s x (c + 1) = (decide (I 57 (s + x) = I 2 x) && z_sm (I 57) (I 2) s (x + 1) c) := rfl
    rw [e0, i40_2]
    by_cases h3 : I 57 (s + x) = I 2 x
    · rw [decide_eq_true h3, Bool.true_and, ← ih (x + 1) (by omega)]
      simp (disch := first | assumption | omega | decide) only [nI_add, n_mul, n_sub, n_le, n_lt, n_eq, n_ne1, n_0, m_bl_t, m_bl_f, if_true, if_false, Nat.reduceAdd, Nat.reduceMul, Nat.reduceSub, Nat.reduceLeDiff, Nat.reduceEqDiff, Nat.add_zero, Nat.add_sub_cancel, Option.toList, List.cons_append, List.nil_append, i40_3, i40_4, i40_5, i40_6, i40_7, i40_8, i40_9, i40_10, i40_11, i40_12, i40_13, i40_14, rv_55_2, rv_55_4, h7]
      rw [i40_15, if_pos h3]
      simp (disch := first | assumption | omega | decide) only [nI_add, n_mul, n_sub, n_le, n_lt, n_eq, n_ne1, n_0, m_bl_t, m_bl_f, if_true, if_false, Nat.reduceAdd, Nat.reduceMul, Nat.reduceSub, Nat.reduceLeDiff, Nat.reduceEqDiff, Nat.add_zero, Nat.add_sub_cancel, Option.toList, List.cons_append, List.nil_append, i40_18, i40_19]
    · rw [decide_eq_false h3, Bool.false_and]
      simp (disch := first | assumption | omega | decide) only [nI_add, n_mul, n_sub, n_le, n_lt, n_eq, n_ne1, n_0, m_bl_t, m_bl_f, if_true, if_false, Nat.reduceAdd, Nat.reduceMul, Nat.reduceSub, Nat.reduceLeDiff, Nat.reduceEqDiff, Nat.add_zero, Nat.add_sub_cancel, Option.toList, List.cons_append, List.nil_append, i40_3, i40_4, i40_5, i40_6, i40_7, i40_8, i40_9, i40_10, i40_11, i40_12, i40_13, i40_14, rv_55_2, rv_55_4, h7]
      rw [i40_15, if_neg h3]
      simp (disch := first | assumption | omega | decide) only [nI_add, n_mul, n_sub, n_le, n_lt, n_eq, n_ne1, n_0, m_bl_t, m_bl_f, if_true, if_false, Nat.reduceAdd, Nat.reduceMul, Nat.reduceSub, Nat.reduceLeDiff, Nat.reduceEqDiff, Nat.add_zero, Nat.add_sub_cancel, Option.toList, List.cons_append, List.nil_append, i40_16, i40_17]
theorem w40 (ht : 62 ≤ t) {c : Nat} (hc : lo + c = hi) (h1 : s + hi ≤ 232400) (h2 : hi ≤ 581) : WP V 40 0 (m_loc 40 [.ref 55, .int (nI s), .int (nI lo), .int (nI hi)]) [] t I L (m_RR e a b) Q = Q (some (.int (m_bl (z_sm (I 57) (I 2) s lo c)))) t I L (m_RR e a b) := by
  rw [show m_loc 40 [.ref 55, .int (nI s), .int (nI lo), .int (nI hi)] = [.ref 55, .int (nI s), .int (nI lo), .int (nI hi), m_u] from rfl]
  simp (disch := first | assumption | omega | decide) only [nI_add, n_mul, n_sub, n_le, n_lt, n_eq, n_ne1, n_0, m_bl_t, m_bl_f, if_true, if_false, Nat.reduceAdd, Nat.reduceMul, Nat.reduceSub, Nat.reduceLeDiff, Nat.reduceEqDiff, Nat.add_zero, Nat.add_sub_cancel, Option.toList, List.cons_append, List.nil_append, i40_0, i40_1]
  exact w40_2 ht h1 h2 c lo hc
theorem c40 (ht : 62 ≤ t) {c : Nat} (hc : lo + c = hi) (h1 : s + hi ≤ 232400) (h2 : hi ≤ 581) : WPC V 40 [.ref 55, .int (nI s), .int (nI lo), .int (nI hi)] m n ls st t I L (m_RR e a b) Q = WP V m n ls ((.int (m_bl (z_sm (I 57) (I 2) s lo c))) :: st) t I L (m_RR e a b) Q := wpc_of (fun Q => w40 ht hc h1 h2)
def z_dd (f : Nat → Int32) (u : Nat) : Nat := (f (12 + u)).toNatClampNeg
def z_lu (p f : Nat → Int32) (s u : Nat) : Bool := (decide (f (15 + u) = -1) || z_sm p f s (145 + 47 * u) 47) && z_sm p f s (286 + 88 * u) (22 * z_dd f u)
def z_lb (p f : Nat → Int32) (s : Nat) : Bool := z_sm p f s 0 73 && ((decide (f 0 ≤ nI 0) || z_sm p f s 73 72) && (z_lu p f s 0 && (z_lu p f s 1 && z_lu p f s 2)))
/-- scopes are at most four -/
def z_D4 (f : Nat → Int32) : Prop := ∀ u, u < 3 → f (12 + u) = nI (z_dd f u) ∧ z_dd f u ≤ 4
theorem w39_23 (ht : 62 ≤ t) (hu : u < 3) (hs : s + 581 ≤ 232400) (hd : I 2 (12 + u) = nI (z_dd (I 2) u)) (hd4 : z_dd (I 2) u ≤ 4) {w3 w4 : Value} : WP V 39 23 [.ref 55, .int (nI s), .int (nI u), w3, w4] [] t I L (m_RR e a b) Q = if z_lu (I 57) (I 2) s u = true then WP V 39 23 [.ref 55, .int (nI s), .int (nI (u + 1)), .int (nI (145 + 47 * u)), .int (nI (286 + 88 * u))] [] t I L (m_RR e a b) Q else Q (some (.int (nI 0))) t I L (m_RR e a b) := by
  have hu3 : ¬ 3 ≤ u := by omega
  have ff : ¬ (false = true) := by decide
  have k1 : 145 + 47 * u + 47 = 145 + 47 * u + 47 := rfl
  have k2 : s + (145 + 47 * u + 47) ≤ 232400 := by omega
  have k3 : 145 + 47 * u + 47 ≤ 581 := by omega
  have k4 : s + (286 + 88 * u + 22 * z_dd (I 2) u) ≤ 232400 := by omega
  have k5 : 286 + 88 * u + 22 * z_dd (I 2) u ≤ 581 := by omega
  have c1 : ∀ {m n : Nat} {ls st : List Value} {Q : Option Value → Nat → m_I → m_L → m_R → Prop}, WPC V 40 [.ref 55, .int (nI s), .int (nI (145 + 47 * u)), .int (nI (145 + 47 * u + 47))] m n ls st t I L (m_RR e a b) Q = WP V m n ls (.int (m_bl (z_sm (I 57) (I 2) s (145 + 47 * u) 47)) :: st) t I L (m_RR e a b) Q := fun {m n ls st Q} => c40 ht rfl k2 k3
  have c2 : ∀ {m n : Nat} {ls st : List Value} {Q : Option Value → Nat → m_I → m_L → m_R → Prop}, WPC V 40 [.ref 55, .int (nI s), .int (nI (286 + 88 * u)), .int (nI (286 + 88 * u + 22 * z_dd (I 2) u))] m n ls st t I L (m_RR e a b) Q = WP V m n ls (.int (m_bl (z_sm (I 57) (I 2) s (286 + 88 * u) (22 * z_dd (I 2) u))) :: st) t I L (m_RR e a b) Q := fun {m n ls st Q} => c40 ht rfl k4 k5
  rw [i39_23]
  unfold z_lu
  by_cases h1 : I 2 (15 + u) = -1
  · cases h3 : z_sm (I 57) (I 2) s (286 + 88 * u) (22 * z_dd (I 2) u)
    · rw [decide_eq_true h1, Bool.true_or, Bool.and_false, if_neg ff]
      simp (disch := first | assumption | omega | decide) only [nI_add, n_mul, n_sub, n_le, n_lt, n_eq, n_ne1, n_0, m_bl_t, m_bl_f, if_true, if_false, Nat.reduceAdd, Nat.reduceMul, Nat.reduceSub, Nat.reduceLeDiff, Nat.reduceEqDiff, Nat.add_zero, Nat.add_sub_cancel, Option.toList, List.cons_append, List.nil_append, i39_24, i39_25, i39_26, i39_27, i39_28, i39_29, i39_30, i39_31, i39_32, i39_33, i39_34, i39_35, i39_36, i39_37, i39_38, i39_39, i39_50, i39_51, i39_52, i39_53, i39_54, i39_55, i39_56, i39_57, i39_58, i39_59, i39_60, i39_61, i39_62, i39_63, i39_64, i39_65, i39_66, i39_67, i39_68, i39_69, i39_70, i39_71, i39_72, rv_55_2, hu3, h1, hd, c2, h3, b_0]
    · rw [decide_eq_true h1, Bool.true_or, Bool.and_true, if_pos rfl]
      simp (disch := first | assumption | omega | decide) only [nI_add, n_mul, n_sub, n_le, n_lt, n_eq, n_ne1, n_0, m_bl_t, m_bl_f, if_true, if_false, Nat.reduceAdd, Nat.reduceMul, Nat.reduceSub, Nat.reduceLeDiff, Nat.reduceEqDiff, Nat.add_zero, Nat.add_sub_cancel, Option.toList, List.cons_append, List.nil_append, i39_24, i39_25, i39_26, i39_27, i39_28, i39_29, i39_30, i39_31, i39_32, i39_33, i39_34, i39_35, i39_36, i39_37, i39_38, i39_39, i39_50, i39_51, i39_52, i39_53, i39_54, i39_55, i39_56, i39_57, i39_58, i39_59, i39_60, i39_61, i39_62, i39_63, i39_64, i39_65, i39_66, i39_67, i39_68, i39_69, i39_70, i39_73, i39_74, rv_55_2, hu3, h1, hd, c2, h3, b_0, Bool.true_eq_false]
  · rw [decide_eq_false h1, Bool.false_or]
    cases h2 : z_sm (I 57) (I 2) s (145 + 47 * u) 47
    · rw [Bool.false_and, if_neg ff]
      simp (disch := first | assumption | omega | decide) only [nI_add, n_mul, n_sub, n_le, n_lt, n_eq, n_ne1, n_0, m_bl_t, m_bl_f, if_true, if_false, Nat.reduceAdd, Nat.reduceMul, Nat.reduceSub, Nat.reduceLeDiff, Nat.reduceEqDiff, Nat.add_zero, Nat.add_sub_cancel, Option.toList, List.cons_append, List.nil_append, i39_24, i39_25, i39_26, i39_27, i39_28, i39_29, i39_30, i39_31, i39_32, i39_33, i39_34, i39_35, i39_36, i39_37, i39_38, i39_39, i39_40, i39_41, i39_42, i39_43, i39_44, i39_45, i39_46, i39_47, i39_48, i39_49, rv_55_2, hu3, h1, c1, h2, b_0]
    · rw [Bool.true_and]
      cases h3 : z_sm (I 57) (I 2) s (286 + 88 * u) (22 * z_dd (I 2) u)
      · rw [if_neg ff]
        simp (disch := first | assumption | omega | decide) only [nI_add, n_mul, n_sub, n_le, n_lt, n_eq, n_ne1, n_0, m_bl_t, m_bl_f, if_true, if_false, Nat.reduceAdd, Nat.reduceMul, Nat.reduceSub, Nat.reduceLeDiff, Nat.reduceEqDiff, Nat.add_zero, Nat.add_sub_cancel, Option.toList, List.cons_append, List.nil_append, i39_24, i39_25, i39_26, i39_27, i39_28, i39_29, i39_30, i39_31, i39_32, i39_33, i39_34, i39_35, i39_36, i39_37, i39_38, i39_39, i39_40, i39_41, i39_42, i39_43, i39_44, i39_45, i39_46, i39_47, i39_50, i39_51, i39_52, i39_53, i39_54, i39_55, i39_56, i39_57, i39_58, i39_59, i39_60, i39_61, i39_62, i39_63, i39_64, i39_65, i39_66, i39_67, i39_68, i39_69, i39_70, i39_71, i39_72, rv_55_2, hu3, h1, hd, c1, c2, h2, h3, b_0, Bool.true_eq_false]
      · rw [if_pos rfl]
        simp (disch := first | assumption | omega | decide) only [nI_add, n_mul, n_sub, n_le, n_lt, n_eq, n_ne1, n_0, m_bl_t, m_bl_f, if_true, if_false, Nat.reduceAdd, Nat.reduceMul, Nat.reduceSub, Nat.reduceLeDiff, Nat.reduceEqDiff, Nat.add_zero, Nat.add_sub_cancel, Option.toList, List.cons_append, List.nil_append, i39_24, i39_25, i39_26, i39_27, i39_28, i39_29, i39_30, i39_31, i39_32, i39_33, i39_34, i39_35, i39_36, i39_37, i39_38, i39_39, i39_40, i39_41, i39_42, i39_43, i39_44, i39_45, i39_46, i39_47, i39_50, i39_51, i39_52, i39_53, i39_54, i39_55, i39_56, i39_57, i39_58, i39_59, i39_60, i39_61, i39_62, i39_63, i39_64, i39_65, i39_66, i39_67, i39_68, i39_69, i39_70, i39_73, i39_74, rv_55_2, hu3, h1, hd, c1, c2, h2, h3, b_0, Bool.true_eq_false]
theorem w39_23t (ht : 62 ≤ t) (hs : s + 581 ≤ 232400) (hD : z_D4 (I 2)) {w3 w4 : Value} : WP V 39 23 [.ref 55, .int (nI s), .int (nI 0), w3, w4] [] t I L (m_RR e a b) Q = Q (some (.int (m_bl (z_lu (I 57) (I 2) s 0 && (z_lu (I 57) (I 2) s 1 && z_lu (I 57) (I 2) s 2))))) t I L (m_RR e a b) := by
  have ff : ¬ (false = true) := by decide
  obtain ⟨d0, e0⟩ := hD 0 (by omega)
  obtain ⟨d1, e1⟩ := hD 1 (by omega)
  obtain ⟨d2, e2⟩ := hD 2 (by omega)
  rw [w39_23 ht (by omega) hs d0 e0]
  cases h0 : z_lu (I 57) (I 2) s 0
  · rw [if_neg ff, Bool.false_and, m_bl_f]
  · rw [if_pos rfl, Bool.true_and, w39_23 ht (by omega) hs d1 e1]
    cases h1 : z_lu (I 57) (I 2) s 1
    · rw [if_neg ff, Bool.false_and, m_bl_f]
    · rw [if_pos rfl, Bool.true_and, w39_23 ht (by omega) hs d2 e2]
      cases h2 : z_lu (I 57) (I 2) s 2
      · rw [if_neg ff, m_bl_f]
      · rw [if_pos rfl, i39_23]
        simp (disch := first | assumption | omega | decide) only [nI_add, n_mul, n_sub, n_le, n_lt, n_eq, n_ne1, n_0, m_bl_t, m_bl_f, if_true, if_false, Nat.reduceAdd, Nat.reduceMul, Nat.reduceSub, Nat.reduceLeDiff, Nat.reduceEqDiff, Nat.add_zero, Nat.add_sub_cancel, Option.toList, List.cons_append, List.nil_append, i39_24, i39_25, i39_75, i39_76, Nat.le_refl]
theorem w39 (ht : 62 ≤ t) (hs : s + 581 ≤ 232400) (hD : z_D4 (I 2)) : WP V 39 0 (m_loc 39 [.ref 55, .int (nI s)]) [] t I L (m_RR e a b) Q = Q (some (.int (m_bl (z_lb (I 57) (I 2) s)))) t I L (m_RR e a b) := by
  rw [show m_loc 39 [.ref 55, .int (nI s)] = [.ref 55, .int (nI s), m_u, m_u, m_u] from rfl]
  have k1 : s + 73 ≤ 232400 := by omega
  have k2 : s + 145 ≤ 232400 := by omega
  have c1 : ∀ {m n : Nat} {ls st : List Value} {Q : Option Value → Nat → m_I → m_L → m_R → Prop}, WPC V 40 [.ref 55, .int (nI s), .int (nI 0), .int (nI 73)] m n ls st t I L (m_RR e a b) Q = WP V m n ls (.int (m_bl (z_sm (I 57) (I 2) s 0 73)) :: st) t I L (m_RR e a b) Q := fun {m n ls st Q} => c40 ht rfl k1 (by omega)
  have c2 : ∀ {m n : Nat} {ls st : List Value} {Q : Option Value → Nat → m_I → m_L → m_R → Prop}, WPC V 40 [.ref 55, .int (nI s), .int (nI 73), .int (nI 145)] m n ls st t I L (m_RR e a b) Q = WP V m n ls (.int (m_bl (z_sm (I 57) (I 2) s 73 72)) :: st) t I L (m_RR e a b) Q := fun {m n ls st Q} => c40 ht rfl k2 (by omega)
  unfold z_lb
  cases h1 : z_sm (I 57) (I 2) s 0 73
  · rw [Bool.false_and]
    simp (disch := first | assumption | omega | decide) only [nI_add, n_mul, n_sub, n_le, n_lt, n_eq, n_ne1, n_0, m_bl_t, m_bl_f, if_true, if_false, Nat.reduceAdd, Nat.reduceMul, Nat.reduceSub, Nat.reduceLeDiff, Nat.reduceEqDiff, Nat.add_zero, Nat.add_sub_cancel, Option.toList, List.cons_append, List.nil_append, i39_0, i39_1, i39_2, i39_3, i39_4, i39_5, i39_6, i39_7, c1, h1, b_0]
  · rw [Bool.true_and]
    by_cases h2 : I 2 0 ≤ nI 0
    · rw [decide_eq_true h2, Bool.true_or, Bool.true_and]
      simp (disch := first | assumption | omega | decide) only [nI_add, n_mul, n_sub, n_le, n_lt, n_eq, n_ne1, n_0, m_bl_t, m_bl_f, if_true, if_false, Nat.reduceAdd, Nat.reduceMul, Nat.reduceSub, Nat.reduceLeDiff, Nat.reduceEqDiff, Nat.add_zero, Nat.add_sub_cancel, Option.toList, List.cons_append, List.nil_append, i39_0, i39_1, i39_2, i39_3, i39_4, i39_5, i39_8, i39_9, i39_10, i39_11, rv_55_2, c1, h1, b_0, Bool.true_eq_false]
      rw [i39_12, if_pos h2]
      simp (disch := first | assumption | omega | decide) only [nI_add, n_mul, n_sub, n_le, n_lt, n_eq, n_ne1, n_0, m_bl_t, m_bl_f, if_true, if_false, Nat.reduceAdd, Nat.reduceMul, Nat.reduceSub, Nat.reduceLeDiff, Nat.reduceEqDiff, Nat.add_zero, Nat.add_sub_cancel, Option.toList, List.cons_append, List.nil_append, i39_21, i39_22]
      exact w39_23t ht hs hD
    · rw [decide_eq_false h2, Bool.false_or]
      cases h3 : z_sm (I 57) (I 2) s 73 72
      · rw [Bool.false_and]
        simp (disch := first | assumption | omega | decide) only [nI_add, n_mul, n_sub, n_le, n_lt, n_eq, n_ne1, n_0, m_bl_t, m_bl_f, if_true, if_false, Nat.reduceAdd, Nat.reduceMul, Nat.reduceSub, Nat.reduceLeDiff, Nat.reduceEqDiff, Nat.add_zero, Nat.add_sub_cancel, Option.toList, List.cons_append, List.nil_append, i39_0, i39_1, i39_2, i39_3, i39_4, i39_5, i39_8, i39_9, i39_10, i39_11, rv_55_2, c1, h1, b_0, Bool.true_eq_false]
        rw [i39_12, if_neg h2]
        simp (disch := first | assumption | omega | decide) only [nI_add, n_mul, n_sub, n_le, n_lt, n_eq, n_ne1, n_0, m_bl_t, m_bl_f, if_true, if_false, Nat.reduceAdd, Nat.reduceMul, Nat.reduceSub, Nat.reduceLeDiff, Nat.reduceEqDiff, Nat.add_zero, Nat.add_sub_cancel, Option.toList, List.cons_append, List.nil_append, i39_13, i39_14, i39_15, i39_16, i39_17, i39_18, i39_19, i39_20, c2, h3, b_0]
      · rw [Bool.true_and]
        simp (disch := first | assumption | omega | decide) only [nI_add, n_mul, n_sub, n_le, n_lt, n_eq, n_ne1, n_0, m_bl_t, m_bl_f, if_true, if_false, Nat.reduceAdd, Nat.reduceMul, Nat.reduceSub, Nat.reduceLeDiff, Nat.reduceEqDiff, Nat.add_zero, Nat.add_sub_cancel, Option.toList, List.cons_append, List.nil_append, i39_0, i39_1, i39_2, i39_3, i39_4, i39_5, i39_8, i39_9, i39_10, i39_11, rv_55_2, c1, h1, b_0, Bool.true_eq_false]
        rw [i39_12, if_neg h2]
        simp (disch := first | assumption | omega | decide) only [nI_add, n_mul, n_sub, n_le, n_lt, n_eq, n_ne1, n_0, m_bl_t, m_bl_f, if_true, if_false, Nat.reduceAdd, Nat.reduceMul, Nat.reduceSub, Nat.reduceLeDiff, Nat.reduceEqDiff, Nat.add_zero, Nat.add_sub_cancel, Option.toList, List.cons_append, List.nil_append, i39_13, i39_14, i39_15, i39_16, i39_17, i39_18, i39_21, i39_22, c2, h3, b_0, Bool.true_eq_false]
        exact w39_23t ht hs hD
theorem c39 (ht : 62 ≤ t) (hs : s + 581 ≤ 232400) (hD : z_D4 (I 2)) : WPC V 39 [.ref 55, .int (nI s)] m n ls st t I L (m_RR e a b) Q = WP V m n ls ((.int (m_bl (z_lb (I 57) (I 2) s))) :: st) t I L (m_RR e a b) Q := wpc_of (fun Q => w39 ht hs hD)
theorem z_lu_iff (hu : u < 3) : z_lu p f s u = true ↔ (¬ f (15 + u) = -1 → ∀ j, 145 + 47 * u ≤ j → j < 192 + 47 * u → p (s + j) = f j) ∧ ∀ j, 286 + 88 * u ≤ j → j < 286 + 88 * u + 22 * (f (12 + u)).toNatClampNeg → p (s + j) = f j := by
  unfold z_lu z_dd
  rw [Bool.and_eq_true, Bool.or_eq_true, decide_eq_true_eq, z_sm_iff, z_sm_iff]
  constructor
  · rintro ⟨h1, h2⟩
    exact ⟨fun q j j1 j2 => (h1.resolve_left q) j j1 (by omega), h2⟩
  · rintro ⟨h1, h2⟩
    refine ⟨?_, h2⟩
    by_cases q : f (15 + u) = -1
    · exact Or.inl q
    · exact Or.inr (fun j j1 j2 => h1 q j j1 (by omega))
theorem z_lb_iff : z_lb p f s = true ↔ z_lk (fun j => p (s + j)) f := by
  unfold z_lb z_lk
  rw [Bool.and_eq_true, Bool.and_eq_true, Bool.and_eq_true, Bool.and_eq_true, Bool.or_eq_true, decide_eq_true_eq, z_sm_iff, z_sm_iff, z_lu_iff (by omega), z_lu_iff (by omega), z_lu_iff (by omega)]
  constructor
  · rintro ⟨h1, h2, h3, h4, h5⟩
    refine ⟨fun j hj => h1 j (by omega) (by omega), fun q j j1 j2 => ?_, fun u hu => ?_⟩
    · exact h2.resolve_left (Int32.not_le.mpr q) j (by omega) (by omega)
    · obtain rfl | rfl | rfl : u = 0 ∨ u = 1 ∨ u = 2 := by omega
      · exact h3
      · exact h4
      · exact h5
  · rintro ⟨h1, h2, h3⟩
    refine ⟨fun j _ j2 => h1 j (by omega), ?_, h3 0 (by omega), h3 1 (by omega), h3 2 (by omega)⟩
    by_cases q : f 0 ≤ nI 0
    · exact Or.inl q
    · exact Or.inr (fun j j1 j2 => h2 (Int32.not_le.mp q) j j1 (by omega))
end RBC
