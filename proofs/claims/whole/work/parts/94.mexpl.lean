/-! explore: the model's small methods -/
section RBF
variable {V : m_V} {t m n : Nat} {ls st : List Value} {I J : m_I} {L : m_L} {R : m_R} {e : Option Nat} {a b : Nat} {Q : Option Value → Nat → m_I → m_L → m_R → Prop} {u v x k s c i y d hh : Nat} {p f g : Nat → Int32} {h : Int32}
theorem w172_2 (ht : 55 ≤ t) (hh4 : hh < 400) : ∀ c i (I : m_I), i + c = 612 → WP V 172 2 [.ref 27, .ref 48, .int (nI hh), .int (nI i)] [] t I L (m_RR e 48 b) Q = Q none t (m_sc I 45 (va_cpy (I 48) (I 45) i (612 * hh + i) c)) L (m_RR e 48 b) := by
  have hr : m_ar 48 2 612 = true := by decide
  intro c
  induction c with
  | zero =>
    intro i I hi
    obtain rfl : i = 612 := by omega
    rw [cpy_0, s_sce, i172_2]
    simp (disch := first | assumption | omega | decide) only [nI_add, n_mul, n_sub, n_le, n_lt, n_eq, n_ne1, n_0, m_bl_t, m_bl_f, if_true, if_false, Nat.reduceAdd, Nat.reduceMul, Nat.reduceSub, Nat.reduceLeDiff, Nat.reduceEqDiff, Nat.add_zero, Nat.add_sub_cancel, Option.toList, List.cons_append, List.nil_append, i172_3, i172_4, i172_18, Nat.le_refl]
  | succ c ih =>
    intro i I hi
    have hi6 : ¬ 612 ≤ i := by omega
    have e1 := ih (i + 1) (m_sc I 45 (m_sc (I 45) (612 * hh + i) (I 48 i))) (by omega)
    rw [m_sc_ne (j := 48) (by omega), m_sc_self, s_scc, show 612 * hh + (i + 1) = 612 * hh + i + 1 by omega, cpy_s] at e1
    rw [← e1, i172_2]
    simp (disch := first | assumption | omega | decide) only [nI_add, n_mul, n_sub, n_le, n_lt, n_eq, n_ne1, n_0, m_bl_t, m_bl_f, if_true, if_false, Nat.reduceAdd, Nat.reduceMul, Nat.reduceSub, Nat.reduceLeDiff, Nat.reduceEqDiff, Nat.add_zero, Nat.add_sub_cancel, Option.toList, List.cons_append, List.nil_append, i172_3, i172_4, i172_5, i172_6, i172_7, i172_8, i172_9, i172_10, i172_11, i172_12, i172_13, i172_15, i172_16, i172_17, rv_27_26, i172_14 (N := 612), hi6]
theorem w172 (ht : 55 ≤ t) (hh4 : hh < 400) : WP V 172 0 (m_loc 172 [.ref 27, .ref 48, .int (nI hh)]) [] t I L (m_RR e 48 b) Q = Q none t (m_sc I 45 (va_cpy (I 48) (I 45) 0 (612 * hh) 612)) L (m_RR e 48 b) := by
  rw [show m_loc 172 [.ref 27, .ref 48, .int (nI hh)] = [.ref 27, .ref 48, .int (nI hh), m_u] from rfl]
  simp (disch := first | assumption | omega | decide) only [nI_add, n_mul, n_sub, n_le, n_lt, n_eq, n_ne1, n_0, m_bl_t, m_bl_f, if_true, if_false, Nat.reduceAdd, Nat.reduceMul, Nat.reduceSub, Nat.reduceLeDiff, Nat.reduceEqDiff, Nat.add_zero, Nat.add_sub_cancel, Option.toList, List.cons_append, List.nil_append, i172_0, i172_1]
  exact w172_2 ht hh4 612 0 I rfl
theorem c172 (ht : 55 ≤ t) (hh4 : hh < 400) : WPC V 172 [.ref 27, .ref 48, .int (nI hh)] m n ls st t I L (m_RR e 48 b) Q = WP V m n ls st t (m_sc I 45 (va_cpy (I 48) (I 45) 0 (612 * hh) 612)) L (m_RR e 48 b) Q := wpc_of (fun Q => w172 ht hh4)
theorem w177_2 (ht : 55 ≤ t) (hh4 : hh < 400) : ∀ c i (I : m_I), i + c = 612 → WP V 177 2 [.ref 27, .int (nI hh), .int (nI i)] [] t I L (m_RR e 48 b) Q = Q none t (m_sc I 48 (va_cpy (I 45) (I 48) (612 * hh + i) i c)) L (m_RR e 48 b) := by
  have hA : m_aa 48 := Or.inr rfl
  intro c
  induction c with
  | zero =>
    intro i I hi
    obtain rfl : i = 612 := by omega
    rw [cpy_0, s_sce, i177_2]
    simp (disch := first | assumption | omega | decide) only [nI_add, n_mul, n_sub, n_le, n_lt, n_eq, n_ne1, n_0, m_bl_t, m_bl_f, if_true, if_false, Nat.reduceAdd, Nat.reduceMul, Nat.reduceSub, Nat.reduceLeDiff, Nat.reduceEqDiff, Nat.add_zero, Nat.add_sub_cancel, Option.toList, List.cons_append, List.nil_append, i177_3, i177_4, i177_19, Nat.le_refl]
  | succ c ih =>
    intro i I hi
    have hi6 : ¬ 612 ≤ i := by omega
    have e1 := ih (i + 1) (m_sc I 48 (m_sc (I 48) i (I 45 (612 * hh + i)))) (by omega)
    rw [m_sc_ne (j := 45) (by omega), m_sc_self, s_scc, show 612 * hh + (i + 1) = 612 * hh + i + 1 by omega, cpy_s] at e1
    rw [← e1, i177_2]
    simp (disch := first | assumption | omega | decide) only [nI_add, n_mul, n_sub, n_le, n_lt, n_eq, n_ne1, n_0, m_bl_t, m_bl_f, if_true, if_false, Nat.reduceAdd, Nat.reduceMul, Nat.reduceSub, Nat.reduceLeDiff, Nat.reduceEqDiff, Nat.add_zero, Nat.add_sub_cancel, Option.toList, List.cons_append, List.nil_append, i177_3, i177_4, i177_5, i177_6, i177_7, i177_8, i177_9, i177_10, i177_11, i177_12, i177_13, i177_14, i177_15, i177_16, i177_17, i177_18, rv_27_0, rv_27_26, hi6]
theorem w177 (ht : 55 ≤ t) (hh4 : hh < 400) : WP V 177 0 (m_loc 177 [.ref 27, .int (nI hh)]) [] t I L (m_RR e 48 b) Q = Q none t (m_sc I 48 (va_cpy (I 45) (I 48) (612 * hh) 0 612)) L (m_RR e 48 b) := by
  rw [show m_loc 177 [.ref 27, .int (nI hh)] = [.ref 27, .int (nI hh), m_u] from rfl]
  simp (disch := first | assumption | omega | decide) only [nI_add, n_mul, n_sub, n_le, n_lt, n_eq, n_ne1, n_0, m_bl_t, m_bl_f, if_true, if_false, Nat.reduceAdd, Nat.reduceMul, Nat.reduceSub, Nat.reduceLeDiff, Nat.reduceEqDiff, Nat.add_zero, Nat.add_sub_cancel, Option.toList, List.cons_append, List.nil_append, i177_0, i177_1]
  exact w177_2 ht hh4 612 0 I rfl
theorem c177 (ht : 55 ≤ t) (hh4 : hh < 400) : WPC V 177 [.ref 27, .int (nI hh)] m n ls st t I L (m_RR e 48 b) Q = WP V m n ls st t (m_sc I 48 (va_cpy (I 45) (I 48) (612 * hh) 0 612)) L (m_RR e 48 b) Q := wpc_of (fun Q => w177 ht hh4)
theorem n_rem154 : ∀ a, a < 462 → nI a - nI a / nI 154 * nI 154 = nI (a % 154) := by
  have key : ∀ a : Fin 462, nI a.val - nI a.val / nI 154 * nI 154 = nI (a.val % 154) := by decide +kernel
  exact fun a ha => key ⟨a, ha⟩
def d_cmb (k : Nat) : Bool := decide (k < 150) || (!decide ((k - 150) % 154 = 104) && decide ((k - 150) % 154 < 151))
theorem w173 (hk : k < 612) : WP V 173 0 (m_loc 173 [.int (nI k)]) [] t I L R Q = Q (some (.int (m_bl (d_cmb k)))) t I L R := by
  rw [show m_loc 173 [.int (nI k)] = [.int (nI k), m_u] from rfl]
  unfold d_cmb
  by_cases h1 : k < 150
  · have h2 : ¬ 150 ≤ k := by omega
    simp (disch := first | assumption | omega | decide) only [nI_add, n_mul, n_sub, n_le, n_lt, n_eq, n_ne1, n_0, m_bl_t, m_bl_f, if_true, if_false, Nat.reduceAdd, Nat.reduceMul, Nat.reduceSub, Nat.reduceLeDiff, Nat.reduceEqDiff, Nat.add_zero, Nat.add_sub_cancel, Option.toList, List.cons_append, List.nil_append, i173_0, i173_1, i173_2, i173_3, i173_4, h1, h2, decide_true, Bool.true_or]
  · have h2 : 150 ≤ k := by omega
    have h3 : ¬ nI 154 = 0 := by decide
    have hr := n_rem154 (k - 150) (by omega)
    simp (disch := first | assumption | omega | decide) only [nI_add, n_mul, n_sub, n_le, n_lt, n_eq, n_ne1, n_0, m_bl_t, m_bl_f, if_true, if_false, Nat.reduceAdd, Nat.reduceMul, Nat.reduceSub, Nat.reduceLeDiff, Nat.reduceEqDiff, Nat.add_zero, Nat.add_sub_cancel, Option.toList, List.cons_append, List.nil_append, i173_0, i173_1, i173_2, i173_5, i173_6, i173_7, i173_8, h1, h2, decide_false, Bool.false_or]
    rw [i173_9 h3, hr]
    obtain ⟨q, hq⟩ : ∃ q, q = (k - 150) % 154 := ⟨_, rfl⟩
    have hq4 : q < 154 := by rw [hq]; exact Nat.mod_lt _ (by omega)
    rw [← hq]
    by_cases h4 : q = 104
    · simp (disch := first | assumption | omega | decide) only [nI_add, n_mul, n_sub, n_le, n_lt, n_eq, n_ne1, n_0, m_bl_t, m_bl_f, if_true, if_false, Nat.reduceAdd, Nat.reduceMul, Nat.reduceSub, Nat.reduceLeDiff, Nat.reduceEqDiff, Nat.add_zero, Nat.add_sub_cancel, Option.toList, List.cons_append, List.nil_append, i173_10, i173_11, i173_12, i173_13, i173_19, i173_20, h4, decide_true, Bool.not_true, Bool.false_and]
    · by_cases h5 : q < 151
      · have h6 : ¬ 151 ≤ q := by omega
        simp (disch := first | assumption | omega | decide) only [nI_add, n_mul, n_sub, n_le, n_lt, n_eq, n_ne1, n_0, m_bl_t, m_bl_f, if_true, if_false, Nat.reduceAdd, Nat.reduceMul, Nat.reduceSub, Nat.reduceLeDiff, Nat.reduceEqDiff, Nat.add_zero, Nat.add_sub_cancel, Option.toList, List.cons_append, List.nil_append, i173_10, i173_11, i173_12, i173_13, i173_14, i173_15, i173_16, i173_17, i173_18, i173_20, h4, h5, h6, decide_true, decide_false, Bool.not_false, Bool.true_and]
      · have h6 : 151 ≤ q := by omega
        simp (disch := first | assumption | omega | decide) only [nI_add, n_mul, n_sub, n_le, n_lt, n_eq, n_ne1, n_0, m_bl_t, m_bl_f, if_true, if_false, Nat.reduceAdd, Nat.reduceMul, Nat.reduceSub, Nat.reduceLeDiff, Nat.reduceEqDiff, Nat.add_zero, Nat.add_sub_cancel, Option.toList, List.cons_append, List.nil_append, i173_10, i173_11, i173_12, i173_13, i173_14, i173_15, i173_16, i173_19, i173_20, h4, h5, h6, decide_true, decide_false, Bool.not_false, Bool.true_and]
/-- elder(), out of a row from s on -/
theorem c173 (hk : k < 612) : WPC V 173 [.int (nI k)] m n ls st t I L R Q = WP V m n ls ((.int (m_bl (d_cmb k))) :: st) t I L R Q := wpc_of (fun Q => w173 hk)
def d_ely (p : Nat → Int32) (s u v : Nat) : Int32 := if p (s + (150 + 154 * u) + 101) = nI 0 ∨ p (s + (150 + 154 * v) + 101) = nI 0 then nI 0 else if p (s + (150 + 154 * u) + 104) < p (s + (150 + 154 * v) + 104) then nI 1 else nI 2
theorem d_ely_x : d_ely p s u v = d_elx (fun j => p (s + j)) u v := by
  unfold d_ely d_elx
  rw [Nat.add_assoc s, Nat.add_assoc s, Nat.add_assoc s, Nat.add_assoc s]
theorem w174 (hu : u < 3) (hv : v < 3) {q N : Nat} (hq : m_ar q 2 N = true) (hN : N < 2 ^ 31) (hqt : q < t) (hs : s + 612 ≤ N) : WP V 174 0 (m_loc 174 [.ref q, .int (nI s), .int (nI u), .int (nI v)]) [] t I L R Q = Q (some (.int (d_ely (I q) s u v))) t I L R := by
  rw [show m_loc 174 [.ref q, .int (nI s), .int (nI u), .int (nI v)] = [.ref q, .int (nI s), .int (nI u), .int (nI v), m_u, m_u] from rfl]
  have k1 : s + (150 + 154 * u) + 101 < N := by omega
  have k2 : s + (150 + 154 * v) + 101 < N := by omega
  have k3 : s + (150 + 154 * u) + 104 < N := by omega
  have k4 : s + (150 + 154 * v) + 104 < N := by omega
  unfold d_ely
  simp (disch := first | assumption | omega | decide) only [nI_add, n_mul, n_sub, n_le, n_lt, n_eq, n_ne1, n_0, m_bl_t, m_bl_f, if_true, if_false, Nat.reduceAdd, Nat.reduceMul, Nat.reduceSub, Nat.reduceLeDiff, Nat.reduceEqDiff, Nat.add_zero, Nat.add_sub_cancel, Option.toList, List.cons_append, List.nil_append, i174_0, i174_1, i174_2, i174_3, i174_4, i174_5, i174_6, i174_7, i174_8, i174_9, i174_10, i174_11, i174_12, i174_13, c113, i174_14 (N := N)]
  by_cases h1 : I q (s + (150 + 154 * u) + 101) = nI 0
  · rw [if_pos (Or.inl h1)]
    simp (disch := first | assumption | omega | decide) only [nI_add, n_mul, n_sub, n_le, n_lt, n_eq, n_ne1, n_0, m_bl_t, m_bl_f, if_true, if_false, Nat.reduceAdd, Nat.reduceMul, Nat.reduceSub, Nat.reduceLeDiff, Nat.reduceEqDiff, Nat.add_zero, Nat.add_sub_cancel, Option.toList, List.cons_append, List.nil_append, i174_15, i174_22, i174_23, i174_38, h1]
  · by_cases h2 : I q (s + (150 + 154 * v) + 101) = nI 0
    · rw [if_pos (Or.inr h2)]
      simp (disch := first | assumption | omega | decide) only [nI_add, n_mul, n_sub, n_le, n_lt, n_eq, n_ne1, n_0, m_bl_t, m_bl_f, if_true, if_false, Nat.reduceAdd, Nat.reduceMul, Nat.reduceSub, Nat.reduceLeDiff, Nat.reduceEqDiff, Nat.add_zero, Nat.add_sub_cancel, Option.toList, List.cons_append, List.nil_append, i174_15, i174_16, i174_17, i174_18, i174_19, i174_21, i174_22, i174_23, i174_38, i174_20 (N := N), h1, h2]
    · rw [if_neg (fun z => z.elim h1 h2)]
      by_cases h3 : I q (s + (150 + 154 * u) + 104) < I q (s + (150 + 154 * v) + 104)
      · have h4 : ¬ I q (s + (150 + 154 * v) + 104) ≤ I q (s + (150 + 154 * u) + 104) := Int32.not_le.mpr h3
        rw [if_pos h3]
        simp (disch := first | assumption | omega | decide) only [nI_add, n_mul, n_sub, n_le, n_lt, n_eq, n_ne1, n_0, m_bl_t, m_bl_f, if_true, if_false, Nat.reduceAdd, Nat.reduceMul, Nat.reduceSub, Nat.reduceLeDiff, Nat.reduceEqDiff, Nat.add_zero, Nat.add_sub_cancel, Option.toList, List.cons_append, List.nil_append, i174_15, i174_16, i174_17, i174_18, i174_19, i174_21, i174_24, i174_25, i174_26, i174_27, i174_29, i174_30, i174_31, i174_32, i174_34, i174_35, i174_36, i174_38, i174_20 (N := N), i174_28 (N := N), i174_33 (N := N), h1, h2, h4]
      · have h4 : I q (s + (150 + 154 * v) + 104) ≤ I q (s + (150 + 154 * u) + 104) := Int32.not_lt.mp h3
        rw [if_neg h3]
        simp (disch := first | assumption | omega | decide) only [nI_add, n_mul, n_sub, n_le, n_lt, n_eq, n_ne1, n_0, m_bl_t, m_bl_f, if_true, if_false, Nat.reduceAdd, Nat.reduceMul, Nat.reduceSub, Nat.reduceLeDiff, Nat.reduceEqDiff, Nat.add_zero, Nat.add_sub_cancel, Option.toList, List.cons_append, List.nil_append, i174_15, i174_16, i174_17, i174_18, i174_19, i174_21, i174_24, i174_25, i174_26, i174_27, i174_29, i174_30, i174_31, i174_32, i174_34, i174_37, i174_38, i174_20 (N := N), i174_28 (N := N), i174_33 (N := N), h1, h2, h4]
theorem c174 (hu : u < 3) (hv : v < 3) {q N : Nat} (hq : m_ar q 2 N = true) (hN : N < 2 ^ 31) (hqt : q < t) (hs : s + 612 ≤ N) : WPC V 174 [.ref q, .int (nI s), .int (nI u), .int (nI v)] m n ls st t I L R Q = WP V m n ls ((.int (d_ely (I q) s u v)) :: st) t I L R Q := wpc_of (fun Q => w174 hu hv hq hN hqt hs)
def d_lkc (p g : Nat → Int32) (s : Nat) : Nat → Nat → Bool
  | _, 0 => true
  | x, c + 1 => (decide (p (s + x) = g x) || !d_cmb x) && d_lkc p g s (x + 1) c
def d_lke (p g : Nat → Int32) (s : Nat) : Bool := decide (d_ely p s 0 1 = d_ely g 0 0 1) && (decide (d_ely p s 0 2 = d_ely g 0 0 2) && decide (d_ely p s 1 2 = d_ely g 0 1 2))
def d_lkb (p g : Nat → Int32) (s : Nat) : Bool := d_lkc p g s 0 612 && d_lke p g s
theorem d_cmb_iff : d_cmb k = true ↔ d_cm k := by
  unfold d_cmb d_cm
  rw [Bool.or_eq_true, Bool.and_eq_true, decide_eq_true_eq, decide_eq_true_eq, Bool.not_eq_true', decide_eq_false_iff_not]
theorem d_lkc_iff : ∀ c x, d_lkc p g s x c = true ↔ ∀ j, x ≤ j → j < x + c → d_cm j → p (s + j) = g j := by
  intro c
  induction c with
  | zero => intro x; exact ⟨fun _ j j1 j2 => by omega, fun _ => rfl⟩
  | succ c ih =>
    intro x
    show ((decide (p (s + x) = g x) || !d_cmb x) && d_lkc p g s (x + 1) c) = true ↔ _
    rw [Bool.and_eq_true, Bool.or_eq_true, decide_eq_true_eq, ih]
    constructor
    · rintro ⟨h1, h2⟩ j j1 j2 cm
      by_cases hj : j = x
      · subst hj
        rcases h1 with h1 | h1
        · exact h1
        · rw [d_cmb_iff.mpr cm] at h1; exact absurd h1 (by decide)
      · exact h2 j (by omega) (by omega) cm
    · intro h0
      refine ⟨?_, fun j j1 j2 => h0 j (by omega) (by omega)⟩
      cases hc : d_cmb x
      · exact Or.inr rfl
      · exact Or.inl (h0 x (by omega) (by omega) (d_cmb_iff.mp hc))
theorem d_lkb_iff : d_lkb p g s = true ↔ d_lk (fun j => p (s + j)) g := by
  have e0 : ∀ u v, d_ely g 0 u v = d_elx g u v := fun u v => by
    rw [d_ely_x]
    have : (fun j => g (0 + j)) = g := by funext j; rw [Nat.zero_add]
    rw [this]
  unfold d_lkb d_lke d_lk
  rw [Bool.and_eq_true, Bool.and_eq_true, Bool.and_eq_true, decide_eq_true_eq, decide_eq_true_eq, decide_eq_true_eq, d_lkc_iff, e0, e0, e0, d_ely_x, d_ely_x, d_ely_x]
  constructor
  · rintro ⟨h1, h2⟩
    exact ⟨fun j hj cm => h1 j (by omega) (by omega) cm, h2⟩
  · rintro ⟨h1, h2⟩
    exact ⟨fun j _ j2 cm => h1 j (by omega) cm, h2⟩
theorem w175_27 (ht : 55 ≤ t) (hh4 : hh < 400) {w3 : Value} : WP V 175 27 [.ref 27, .int (nI hh), .int (nI (612 * hh)), w3] [] t I L (m_RR e 48 b) Q = Q (some (.int (m_bl (d_lke (I 45) (I 48) (612 * hh))))) t I L (m_RR e 48 b) := by
  have hA : m_aa 48 := Or.inr rfl
  have a45 : m_ar 45 2 246000 = true := by decide
  have a48 : m_ar 48 2 612 = true := by decide
  have z0 : (0 : Nat) < 3 := by decide
  have z1 : (1 : Nat) < 3 := by decide
  have z2 : (2 : Nat) < 3 := by decide
  have t45 : 45 < t := by omega
  have t48 : 48 < t := by omega
  have n1 : 246000 < 2 ^ 31 := by decide
  have n2 : 612 < 2 ^ 31 := by decide
  have s1 : 612 * hh + 612 ≤ 246000 := by omega
  have s2 : 0 + 612 ≤ 612 := by decide
  unfold d_lke
  simp (disch := first | assumption | omega | decide) only [nI_add, n_mul, n_sub, n_le, n_lt, n_eq, n_ne1, n_0, m_bl_t, m_bl_f, if_true, if_false, Nat.reduceAdd, Nat.reduceMul, Nat.reduceSub, Nat.reduceLeDiff, Nat.reduceEqDiff, Nat.add_zero, Nat.add_sub_cancel, Option.toList, List.cons_append, List.nil_append, i175_27, i175_28, i175_29, i175_30, i175_31, i175_32, i175_33, i175_34, i175_35, i175_36, i175_37, i175_38, rv_27_0, rv_27_26, c174 z0 z1 a45 n1 t45 s1, c174 z0 z1 a48 n2 t48 s2]
  by_cases h1 : d_ely (I 45) (612 * hh) 0 1 = d_ely (I 48) 0 0 1
  · rw [i175_39, if_pos h1, decide_eq_true h1, Bool.true_and]
    simp (disch := first | assumption | omega | decide) only [nI_add, n_mul, n_sub, n_le, n_lt, n_eq, n_ne1, n_0, m_bl_t, m_bl_f, if_true, if_false, Nat.reduceAdd, Nat.reduceMul, Nat.reduceSub, Nat.reduceLeDiff, Nat.reduceEqDiff, Nat.add_zero, Nat.add_sub_cancel, Option.toList, List.cons_append, List.nil_append, i175_40, i175_41, i175_42, i175_43, i175_44, i175_45, i175_46, i175_47, i175_48, i175_49, i175_50, i175_51, rv_27_0, rv_27_26, c174 z0 z2 a45 n1 t45 s1, c174 z0 z2 a48 n2 t48 s2]
    by_cases h2 : d_ely (I 45) (612 * hh) 0 2 = d_ely (I 48) 0 0 2
    · rw [i175_52, if_pos h2, decide_eq_true h2, Bool.true_and]
      simp (disch := first | assumption | omega | decide) only [nI_add, n_mul, n_sub, n_le, n_lt, n_eq, n_ne1, n_0, m_bl_t, m_bl_f, if_true, if_false, Nat.reduceAdd, Nat.reduceMul, Nat.reduceSub, Nat.reduceLeDiff, Nat.reduceEqDiff, Nat.add_zero, Nat.add_sub_cancel, Option.toList, List.cons_append, List.nil_append, i175_53, i175_54, i175_55, i175_56, i175_57, i175_58, i175_59, i175_60, i175_61, i175_62, i175_63, i175_64, rv_27_0, rv_27_26, c174 z1 z2 a45 n1 t45 s1, c174 z1 z2 a48 n2 t48 s2]
      by_cases h3 : d_ely (I 45) (612 * hh) 1 2 = d_ely (I 48) 0 1 2
      · rw [i175_65, if_pos h3, decide_eq_true h3]
        simp (disch := first | assumption | omega | decide) only [nI_add, n_mul, n_sub, n_le, n_lt, n_eq, n_ne1, n_0, m_bl_t, m_bl_f, if_true, if_false, Nat.reduceAdd, Nat.reduceMul, Nat.reduceSub, Nat.reduceLeDiff, Nat.reduceEqDiff, Nat.add_zero, Nat.add_sub_cancel, Option.toList, List.cons_append, List.nil_append, i175_66, i175_67, i175_69]
      · rw [i175_65, if_neg h3, decide_eq_false h3]
        simp (disch := first | assumption | omega | decide) only [nI_add, n_mul, n_sub, n_le, n_lt, n_eq, n_ne1, n_0, m_bl_t, m_bl_f, if_true, if_false, Nat.reduceAdd, Nat.reduceMul, Nat.reduceSub, Nat.reduceLeDiff, Nat.reduceEqDiff, Nat.add_zero, Nat.add_sub_cancel, Option.toList, List.cons_append, List.nil_append, i175_68, i175_69]
    · rw [i175_52, if_neg h2, decide_eq_false h2, Bool.false_and]
      simp (disch := first | assumption | omega | decide) only [nI_add, n_mul, n_sub, n_le, n_lt, n_eq, n_ne1, n_0, m_bl_t, m_bl_f, if_true, if_false, Nat.reduceAdd, Nat.reduceMul, Nat.reduceSub, Nat.reduceLeDiff, Nat.reduceEqDiff, Nat.add_zero, Nat.add_sub_cancel, Option.toList, List.cons_append, List.nil_append, i175_68, i175_69]
  · rw [i175_39, if_neg h1, decide_eq_false h1, Bool.false_and]
    simp (disch := first | assumption | omega | decide) only [nI_add, n_mul, n_sub, n_le, n_lt, n_eq, n_ne1, n_0, m_bl_t, m_bl_f, if_true, if_false, Nat.reduceAdd, Nat.reduceMul, Nat.reduceSub, Nat.reduceLeDiff, Nat.reduceEqDiff, Nat.add_zero, Nat.add_sub_cancel, Option.toList, List.cons_append, List.nil_append, i175_68, i175_69]
theorem w175_6 (ht : 55 ≤ t) (hh4 : hh < 400) : ∀ c x, x + c = 612 → WP V 175 6 [.ref 27, .int (nI hh), .int (nI (612 * hh)), .int (nI x)] [] t I L (m_RR e 48 b) Q = Q (some (.int (m_bl (d_lkc (I 45) (I 48) (612 * hh) x c && d_lke (I 45) (I 48) (612 * hh))))) t I L (m_RR e 48 b) := by
  have hA : m_aa 48 := Or.inr rfl
  intro c
  induction c with
  | zero =>
    intro x hx
    obtain rfl : x = 612 := by omega
    have e0 : d_lkc (I 45) (I 48) (612 * hh) 612 0 = true := rfl
    rw [e0, Bool.true_and, ← w175_27 (V := V) (L := L) (e := e) (b := b) ht hh4 (w3 := .int (nI 612)) (Q := Q), i175_6]
    simp (disch := first | assumption | omega | decide) only [nI_add, n_mul, n_sub, n_le, n_lt, n_eq, n_ne1, n_0, m_bl_t, m_bl_f, if_true, if_false, Nat.reduceAdd, Nat.reduceMul, Nat.reduceSub, Nat.reduceLeDiff, Nat.reduceEqDiff, Nat.add_zero, Nat.add_sub_cancel, Option.toList, List.cons_append, List.nil_append, i175_7, i175_8, Nat.le_refl]
  | succ c ih =>
    intro x hx
    have hx6 : ¬ 612 ≤ x := by omega
    have hx7 : x < 612 := by omega
    have e0 : d_lkc (I 45) (I 48) (612 * hh) x (c + 1) = ((decide (I 45 (612 * hh + x) = I 48 x) || !d_cmb x) && d_lkc (I 45) (I 48) (612 * hh) (x + 1) c) := rfl
    have e1 := ih (x + 1) (by omega)
    rw [e0, i175_6]
    by_cases h1 : I 45 (612 * hh + x) = I 48 x
    · rw [decide_eq_true h1, Bool.true_or, Bool.true_and, ← e1]
      simp (disch := first | assumption | omega | decide) only [nI_add, n_mul, n_sub, n_le, n_lt, n_eq, n_ne1, n_0, m_bl_t, m_bl_f, if_true, if_false, Nat.reduceAdd, Nat.reduceMul, Nat.reduceSub, Nat.reduceLeDiff, Nat.reduceEqDiff, Nat.add_zero, Nat.add_sub_cancel, Option.toList, List.cons_append, List.nil_append, i175_7, i175_8, i175_9, i175_10, i175_11, i175_12, i175_13, i175_14, i175_15, i175_16, i175_17, i175_18, rv_27_0, rv_27_26, hx6]
      rw [i175_19, if_pos h1]
      simp (disch := first | assumption | omega | decide) only [nI_add, n_mul, n_sub, n_le, n_lt, n_eq, n_ne1, n_0, m_bl_t, m_bl_f, if_true, if_false, Nat.reduceAdd, Nat.reduceMul, Nat.reduceSub, Nat.reduceLeDiff, Nat.reduceEqDiff, Nat.add_zero, Nat.add_sub_cancel, Option.toList, List.cons_append, List.nil_append, i175_25, i175_26]
    · rw [decide_eq_false h1, Bool.false_or]
      simp (disch := first | assumption | omega | decide) only [nI_add, n_mul, n_sub, n_le, n_lt, n_eq, n_ne1, n_0, m_bl_t, m_bl_f, if_true, if_false, Nat.reduceAdd, Nat.reduceMul, Nat.reduceSub, Nat.reduceLeDiff, Nat.reduceEqDiff, Nat.add_zero, Nat.add_sub_cancel, Option.toList, List.cons_append, List.nil_append, i175_7, i175_8, i175_9, i175_10, i175_11, i175_12, i175_13, i175_14, i175_15, i175_16, i175_17, i175_18, rv_27_0, rv_27_26, hx6]
      rw [i175_19, if_neg h1]
      cases h2 : d_cmb x
      · rw [Bool.not_false, Bool.true_and, ← e1]
        simp (disch := first | assumption | omega | decide) only [nI_add, n_mul, n_sub, n_le, n_lt, n_eq, n_ne1, n_0, m_bl_t, m_bl_f, if_true, if_false, Nat.reduceAdd, Nat.reduceMul, Nat.reduceSub, Nat.reduceLeDiff, Nat.reduceEqDiff, Nat.add_zero, Nat.add_sub_cancel, Option.toList, List.cons_append, List.nil_append, i175_20, i175_21, i175_22, i175_25, i175_26, c173, h2, b_0]
      · rw [Bool.not_true, Bool.false_and, Bool.false_and]
        simp (disch := first | assumption | omega | decide) only [nI_add, n_mul, n_sub, n_le, n_lt, n_eq, n_ne1, n_0, m_bl_t, m_bl_f, if_true, if_false, Nat.reduceAdd, Nat.reduceMul, Nat.reduceSub, Nat.reduceLeDiff, Nat.reduceEqDiff, Nat.add_zero, Nat.add_sub_cancel, Option.toList, List.cons_append, List.nil_append, i175_20, i175_21, i175_22, i175_23, i175_24, c173, h2, b_0, Bool.true_eq_false]
theorem w175 (ht : 55 ≤ t) (hh4 : hh < 400) : WP V 175 0 (m_loc 175 [.ref 27, .int (nI hh)]) [] t I L (m_RR e 48 b) Q = Q (some (.int (m_bl (d_lkb (I 45) (I 48) (612 * hh))))) t I L (m_RR e 48 b) := by
  rw [show m_loc 175 [.ref 27, .int (nI hh)] = [.ref 27, .int (nI hh), m_u, m_u] from rfl]
  simp (disch := first | assumption | omega | decide) only [nI_add, n_mul, n_sub, n_le, n_lt, n_eq, n_ne1, n_0, m_bl_t, m_bl_f, if_true, if_false, Nat.reduceAdd, Nat.reduceMul, Nat.reduceSub, Nat.reduceLeDiff, Nat.reduceEqDiff, Nat.add_zero, Nat.add_sub_cancel, Option.toList, List.cons_append, List.nil_append, i175_0, i175_1, i175_2, i175_3, i175_4, i175_5]
  exact w175_6 ht hh4 612 0 rfl
theorem c175 (ht : 55 ≤ t) (hh4 : hh < 400) : WPC V 175 [.ref 27, .int (nI hh)] m n ls st t I L (m_RR e 48 b) Q = WP V m n ls ((.int (m_bl (d_lkb (I 45) (I 48) (612 * hh)))) :: st) t I L (m_RR e 48 b) Q := wpc_of (fun Q => w175 ht hh4)
theorem w176_4 (ht : 55 ≤ t) (hy : y ≤ 400) (hm : I 27 27 = nI y) : ∀ c x (is : Bool), x + c = y → WP V 176 4 [.ref 27, .int (m_bl is), .int (nI x)] [] t I L (m_RR e 48 b) Q = Q (some (.int (m_bl (is || s_any (fun hh => d_lkb (I 45) (I 48) (612 * hh)) x c)))) t I L (m_RR e 48 b) := by
  have h01 : ∀ c : Bool, m_01 (m_bl c) = true := m_01_bl
  intro c
  induction c with
  | zero =>
    intro x is hx
    obtain rfl : x = y := by omega
    show _ = Q (some (.int (m_bl (is || false)))) t I L (m_RR e 48 b)
    rw [Bool.or_false, i176_4]
    simp (disch := first | assumption | omega | decide | exact m_01_bl _) only [i176_5, i176_6, i176_7, i176_16, i176_17, n_le, hm, Nat.le_refl, if_true]
  | succ c ih =>
    intro x is hx
    have hxy : ¬ y ≤ x := by omega
    have hx4 : x < 400 := by omega
    cases is
    · have e0 : s_any (fun hh => d_lkb (I 45) (I 48) (612 * hh)) x (c + 1) = (d_lkb (I 45) (I 48) (612 * x) || s_any (fun hh => d_lkb (I 45) (I 48) (612 * hh)) (x + 1) c) := rfl
      rw [Bool.false_or, e0, ← ih (x + 1) _ (by omega), i176_4]
      simp (disch := first | assumption | omega | decide) only [nI_add, n_mul, n_sub, n_le, n_lt, n_eq, n_ne1, n_0, m_bl_t, m_bl_f, if_true, if_false, Nat.reduceAdd, Nat.reduceMul, Nat.reduceSub, Nat.reduceLeDiff, Nat.reduceEqDiff, Nat.add_zero, Nat.add_sub_cancel, Option.toList, List.cons_append, List.nil_append, i176_5, i176_6, i176_7, i176_8, i176_9, i176_10, i176_11, i176_12, i176_13, i176_14, i176_15, hm, hxy, c175 ht hx4]
    · rw [Bool.true_or, i176_4]
      simp (disch := first | assumption | omega | decide) only [nI_add, n_mul, n_sub, n_le, n_lt, n_eq, n_ne1, n_0, m_bl_t, m_bl_f, if_true, if_false, Nat.reduceAdd, Nat.reduceMul, Nat.reduceSub, Nat.reduceLeDiff, Nat.reduceEqDiff, Nat.add_zero, Nat.add_sub_cancel, Option.toList, List.cons_append, List.nil_append, i176_5, i176_6, i176_7, i176_8, i176_9, i176_16, i176_17, hm, hxy]
theorem w176 (ht : 55 ≤ t) (hy : y ≤ 400) (hm : I 27 27 = nI y) : WP V 176 0 (m_loc 176 [.ref 27]) [] t I L (m_RR e 48 b) Q = Q (some (.int (m_bl (s_any (fun hh => d_lkb (I 45) (I 48) (612 * hh)) 0 y)))) t I L (m_RR e 48 b) := by
  rw [show m_loc 176 [.ref 27] = [.ref 27, m_u, m_u] from rfl]
  have e0 := w176_4 (V := V) (t := t) (I := I) (L := L) (e := e) (b := b) (Q := Q) ht hy hm y 0 false (Nat.zero_add y)
  rw [Bool.false_or] at e0
  rw [← e0]
  simp (disch := first | assumption | omega | decide) only [nI_add, n_mul, n_sub, n_le, n_lt, n_eq, n_ne1, n_0, m_bl_t, m_bl_f, if_true, if_false, Nat.reduceAdd, Nat.reduceMul, Nat.reduceSub, Nat.reduceLeDiff, Nat.reduceEqDiff, Nat.add_zero, Nat.add_sub_cancel, Option.toList, List.cons_append, List.nil_append, i176_0, i176_1, i176_2, i176_3]
theorem c176 (ht : 55 ≤ t) (hy : y ≤ 400) (hm : I 27 27 = nI y) : WPC V 176 [.ref 27] m n ls st t I L (m_RR e 48 b) Q = WP V m n ls ((.int (m_bl (s_any (fun hh => d_lkb (I 45) (I 48) (612 * hh)) 0 y))) :: st) t I L (m_RR e 48 b) Q := wpc_of (fun Q => w176 ht hy hm)
theorem w180_14 (ht : 55 ≤ t) (hu : u < 3) (hv : v < 3) : WP V 180 14 [.ref 27, .ref 49, .int (nI v), .int (nI u)] [] t I L (m_RR e 48 b) Q = WP V 180 14 [.ref 27, .ref 49, .int (nI v), .int (nI (u + 1))] [] t (m_sc I 49 (m_sc (I 49) v (I 49 v + nI (d_elr (I 48) u v)))) L (m_RR e 48 b) Q := by
  have hA : m_aa 48 := Or.inr rfl
  have hu3 : ¬ 3 ≤ u := by omega
  unfold d_elr
  rw [i180_14]
  by_cases h1 : I 48 (150 + 154 * u + 101) = nI 1
  · by_cases h2 : I 48 (150 + 154 * u + 104) < I 48 (150 + 154 * v + 104)
    · have h3 : ¬ I 48 (150 + 154 * v + 104) ≤ I 48 (150 + 154 * u + 104) := Int32.not_le.mpr h2
      rw [if_pos ⟨h1, h2⟩]
      simp (disch := first | assumption | omega | decide) only [nI_add, n_mul, n_sub, n_le, n_lt, n_eq, n_ne1, n_0, m_bl_t, m_bl_f, if_true, if_false, Nat.reduceAdd, Nat.reduceMul, Nat.reduceSub, Nat.reduceLeDiff, Nat.reduceEqDiff, Nat.add_zero, Nat.add_sub_cancel, Option.toList, List.cons_append, List.nil_append, i180_15, i180_16, i180_17, i180_18, i180_19, i180_20, i180_21, i180_22, i180_23, i180_24, i180_25, i180_26, i180_27, i180_28, i180_29, i180_30, i180_31, i180_32, i180_33, i180_34, i180_35, i180_36, i180_37, i180_38, i180_39, i180_40, i180_41, i180_42, i180_43, i180_44, i180_45, i180_46, i180_48, i180_49, i180_50, i180_51, rv_27_0, hu3, c113, h1, h3]
    · have h3 : I 48 (150 + 154 * v + 104) ≤ I 48 (150 + 154 * u + 104) := Int32.not_lt.mp h2
      rw [if_neg (fun q => h2 q.2)]
      simp (disch := first | assumption | omega | decide) only [nI_add, n_mul, n_sub, n_le, n_lt, n_eq, n_ne1, n_0, m_bl_t, m_bl_f, if_true, if_false, Nat.reduceAdd, Nat.reduceMul, Nat.reduceSub, Nat.reduceLeDiff, Nat.reduceEqDiff, Nat.add_zero, Nat.add_sub_cancel, Option.toList, List.cons_append, List.nil_append, i180_15, i180_16, i180_17, i180_18, i180_19, i180_20, i180_21, i180_22, i180_23, i180_24, i180_25, i180_26, i180_27, i180_28, i180_29, i180_30, i180_31, i180_32, i180_33, i180_34, i180_35, i180_36, i180_37, i180_38, i180_39, i180_40, i180_41, i180_42, i180_43, i180_44, i180_47, i180_48, i180_49, i180_50, i180_51, rv_27_0, hu3, c113, h1, h3]
  · rw [if_neg (fun q => h1 q.1)]
    simp (disch := first | assumption | omega | decide) only [nI_add, n_mul, n_sub, n_le, n_lt, n_eq, n_ne1, n_0, m_bl_t, m_bl_f, if_true, if_false, Nat.reduceAdd, Nat.reduceMul, Nat.reduceSub, Nat.reduceLeDiff, Nat.reduceEqDiff, Nat.add_zero, Nat.add_sub_cancel, Option.toList, List.cons_append, List.nil_append, i180_15, i180_16, i180_17, i180_18, i180_19, i180_20, i180_21, i180_22, i180_23, i180_24, i180_25, i180_26, i180_27, i180_28, i180_29, i180_47, i180_48, i180_49, i180_50, i180_51, rv_27_0, hu3, c113, h1]
def d_sum (g : Nat → Int32) (v : Nat) : Nat := d_elr g 0 v + d_elr g 1 v + d_elr g 2 v
theorem w180_5 (ht : 55 ≤ t) (hv : v < 3) {w3 : Value} : WP V 180 5 [.ref 27, .ref 49, .int (nI v), w3] [] t I L (m_RR e 48 b) Q = WP V 180 5 [.ref 27, .ref 49, .int (nI (v + 1)), .int (nI 3)] [] t (m_sc I 49 (m_sc (I 49) v (nI (d_sum (I 48) v)))) L (m_RR e 48 b) Q := by
  have hv3 : ¬ 3 ≤ v := by omega
  have e48 : ∀ X, m_sc I 49 X 48 = I 48 := fun X => m_sc_ne (by omega)
  rw [i180_5]
  simp (disch := first | assumption | omega | decide) only [nI_add, n_mul, n_sub, n_le, n_lt, n_eq, n_ne1, n_0, m_bl_t, m_bl_f, if_true, if_false, Nat.reduceAdd, Nat.reduceMul, Nat.reduceSub, Nat.reduceLeDiff, Nat.reduceEqDiff, Nat.add_zero, Nat.add_sub_cancel, Option.toList, List.cons_append, List.nil_append, i180_6, i180_7, i180_8, i180_9, i180_10, i180_11, i180_12, i180_13, hv3]
  rw [w180_14 ht (by omega) hv]
  simp only [m_sc_self, s_scc, e48, nI_add, Nat.zero_add, Nat.reduceAdd]
  rw [w180_14 ht (by omega) hv]
  simp only [m_sc_self, s_scc, e48, nI_add, Nat.zero_add, Nat.reduceAdd]
  rw [w180_14 ht (by omega) hv]
  simp only [m_sc_self, s_scc, e48, nI_add, Nat.zero_add, Nat.reduceAdd]
  rw [i180_14]
  simp (disch := first | assumption | omega | decide) only [nI_add, n_mul, n_sub, n_le, n_lt, n_eq, n_ne1, n_0, m_bl_t, m_bl_f, if_true, if_false, Nat.reduceAdd, Nat.reduceMul, Nat.reduceSub, Nat.reduceLeDiff, Nat.reduceEqDiff, Nat.add_zero, Nat.add_sub_cancel, Option.toList, List.cons_append, List.nil_append, i180_15, i180_16, i180_52, i180_53, Nat.le_refl]
  rfl
theorem w180_56 (ht : 55 ≤ t) (hv : v < 3) {w3 : Value} : WP V 180 56 [.ref 27, .ref 49, .int (nI v), w3] [] t I L (m_RR e 48 b) Q = WP V 180 56 [.ref 27, .ref 49, .int (nI (v + 1)), w3] [] t (m_sc I 48 (m_sc (I 48) (150 + 154 * v + 104) (if I 48 (150 + 154 * v + 101) = nI 1 then I 49 v else nI 0))) L (m_RR e 48 b) Q := by
  have hA : m_aa 48 := Or.inr rfl
  have hv3 : ¬ 3 ≤ v := by omega
  rw [i180_56]
  by_cases h1 : I 48 (150 + 154 * v + 101) = nI 1
  · rw [if_pos h1]
    simp (disch := first | assumption | omega | decide) only [nI_add, n_mul, n_sub, n_le, n_lt, n_eq, n_ne1, n_0, m_bl_t, m_bl_f, if_true, if_false, Nat.reduceAdd, Nat.reduceMul, Nat.reduceSub, Nat.reduceLeDiff, Nat.reduceEqDiff, Nat.add_zero, Nat.add_sub_cancel, Option.toList, List.cons_append, List.nil_append, i180_57, i180_58, i180_59, i180_60, i180_61, i180_62, i180_63, i180_64, i180_65, i180_66, i180_67, i180_68, i180_69, i180_70, i180_71, i180_72, i180_73, i180_74, i180_75, i180_76, i180_77, i180_79, i180_80, i180_81, rv_27_0, hv3, c113, h1]
  · rw [if_neg h1]
    simp (disch := first | assumption | omega | decide) only [nI_add, n_mul, n_sub, n_le, n_lt, n_eq, n_ne1, n_0, m_bl_t, m_bl_f, if_true, if_false, Nat.reduceAdd, Nat.reduceMul, Nat.reduceSub, Nat.reduceLeDiff, Nat.reduceEqDiff, Nat.add_zero, Nat.add_sub_cancel, Option.toList, List.cons_append, List.nil_append, i180_57, i180_58, i180_59, i180_60, i180_61, i180_62, i180_63, i180_64, i180_65, i180_66, i180_67, i180_68, i180_69, i180_70, i180_71, i180_72, i180_73, i180_78, i180_79, i180_80, i180_81, rv_27_0, hv3, c113, h1]
def d_agd (I : m_I) : Nat → Int32 := m_sc (m_sc (m_sc (I 49) 0 (nI (d_sum (I 48) 0))) 1 (nI (d_sum (I 48) 1))) 2 (nI (d_sum (I 48) 2))
theorem w180 (ht : 55 ≤ t) : WP V 180 0 (m_loc 180 [.ref 27]) [] t I L (m_RR e 48 b) Q = Q none t (m_sc (m_sc I 49 (d_agd I)) 48 (d_ags (I 48))) L (m_RR e 48 b) := by
  rw [show m_loc 180 [.ref 27] = [.ref 27, m_u, m_u, m_u] from rfl]
  have e48 : ∀ X, m_sc I 49 X 48 = I 48 := fun X => m_sc_ne (by omega)
  simp (disch := first | assumption | omega | decide) only [nI_add, n_mul, n_sub, n_le, n_lt, n_eq, n_ne1, n_0, m_bl_t, m_bl_f, if_true, if_false, Nat.reduceAdd, Nat.reduceMul, Nat.reduceSub, Nat.reduceLeDiff, Nat.reduceEqDiff, Nat.add_zero, Nat.add_sub_cancel, Option.toList, List.cons_append, List.nil_append, i180_0, i180_1, i180_2, i180_3, i180_4, rv_27_34]
  rw [w180_5 ht (by omega)]
  simp only [m_sc_self, s_scc, e48, Nat.zero_add, Nat.reduceAdd]
  rw [w180_5 ht (by omega)]
  simp only [m_sc_self, s_scc, e48, Nat.zero_add, Nat.reduceAdd]
  rw [w180_5 ht (by omega)]
  simp only [m_sc_self, s_scc, e48, Nat.zero_add, Nat.reduceAdd]
  rw [i180_5]
  simp (disch := first | assumption | omega | decide) only [nI_add, n_mul, n_sub, n_le, n_lt, n_eq, n_ne1, n_0, m_bl_t, m_bl_f, if_true, if_false, Nat.reduceAdd, Nat.reduceMul, Nat.reduceSub, Nat.reduceLeDiff, Nat.reduceEqDiff, Nat.add_zero, Nat.add_sub_cancel, Option.toList, List.cons_append, List.nil_append, i180_6, i180_7, i180_54, i180_55, Nat.le_refl]
  rw [w180_56 ht (by omega), w180_56 ht (by omega), w180_56 ht (by omega), i180_56]
  simp (disch := first | assumption | omega | decide) only [nI_add, n_mul, n_sub, n_le, n_lt, n_eq, n_ne1, n_0, m_bl_t, m_bl_f, if_true, if_false, Nat.reduceAdd, Nat.reduceMul, Nat.reduceSub, Nat.reduceLeDiff, Nat.reduceEqDiff, Nat.add_zero, Nat.add_sub_cancel, Option.toList, List.cons_append, List.nil_append, i180_57, i180_58, i180_82, Nat.le_refl]
  have A : ∀ X, m_sc (m_sc I 49 (d_agd I)) 48 X 49 = d_agd I := fun X => by rw [m_sc_ne (by omega), m_sc_self]
  have B : m_sc I 49 (d_agd I) 49 = d_agd I := m_sc_self
  have a0 : d_agd I 0 = nI (d_sum (I 48) 0) := by unfold d_agd; rw [m_sc_ne (by omega), m_sc_ne (by omega), m_sc_self]
  have a1 : d_agd I 1 = nI (d_sum (I 48) 1) := by unfold d_agd; rw [m_sc_ne (by omega), m_sc_self]
  have a2 : d_agd I 2 = nI (d_sum (I 48) 2) := by unfold d_agd; rw [m_sc_self]
  have rk : ∀ v, d_rk (I 48) v = if I 48 (150 + 154 * v + 101) = nI 1 then d_sum (I 48) v else 0 := fun v => rfl
  have rn : ∀ v, (if I 48 (150 + 154 * v + 101) = nI 1 then nI (d_sum (I 48) v) else nI 0) = nI (d_rk (I 48) v) := fun v => by
    rw [rk v]
    split <;> rfl
  have C : m_sc (m_sc (m_sc (I 49) 0 (nI (d_sum (I 48) 0))) 1 (nI (d_sum (I 48) 1))) 2 (nI (d_sum (I 48) 2)) = d_agd I := rfl
  have r0 := rn 0
  have r1 := rn 1
  have r2 := rn 2
  simp only [Nat.reduceMul, Nat.reduceAdd] at r0 r1 r2
  simp (disch := omega) only [C, m_sc_self, s_scc, m_sc_ne, a0, a1, a2, Nat.reduceMul, Nat.reduceAdd, r0, r1, r2]
  rfl
theorem c180 (ht : 55 ≤ t) : WPC V 180 [.ref 27] m n ls st t I L (m_RR e 48 b) Q = WP V m n ls st t (m_sc (m_sc I 49 (d_agd I)) 48 (d_ags (I 48))) L (m_RR e 48 b) Q := wpc_of (fun Q => w180 ht)
end RBF
