/-! specs of the class's leaves -/
theorem n_0 : (0 : Int32) = nI 0 := nI_0.symm
def mC (J : m_I) (f g n w : Nat → Int32) : m_I := fun k => if k = 2 then f else if k = 26 then g else if k = 10 then n else if k = 11 then w else J k
theorem mC_2 {J : m_I} {f g n w : Nat → Int32} : mC J f g n w 2 = f := rfl
theorem mC_26 {J : m_I} {f g n w : Nat → Int32} : mC J f g n w 26 = g := rfl
theorem mC_10 {J : m_I} {f g n w : Nat → Int32} : mC J f g n w 10 = n := rfl
theorem mC_11 {J : m_I} {f g n w : Nat → Int32} : mC J f g n w 11 = w := rfl
theorem mC_4 {J : m_I} {f g n w : Nat → Int32} : mC J f g n w 4 = J 4 := rfl
theorem mC_5 {J : m_I} {f g n w : Nat → Int32} : mC J f g n w 5 = J 5 := rfl
theorem mC_7 {J : m_I} {f g n w : Nat → Int32} : mC J f g n w 7 = J 7 := rfl
theorem mC_8 {J : m_I} {f g n w : Nat → Int32} : mC J f g n w 8 = J 8 := rfl
theorem mC_0 {J : m_I} {f g n w : Nat → Int32} : mC J f g n w 0 = J 0 := rfl
theorem mC_12 {J : m_I} {f g n w : Nat → Int32} : mC J f g n w 12 = J 12 := rfl
theorem mC_o {J : m_I} {f g n w : Nat → Int32} {k : Nat} (h : k ≠ 2 ∧ k ≠ 26 ∧ k ≠ 10 ∧ k ≠ 11) : mC J f g n w k = J k := by simp [mC, h]
theorem mC_s2 {J : m_I} {f g n w f' : Nat → Int32} : m_sc (mC J f g n w) 2 f' = mC J f' g n w := by
  funext k
  by_cases h : k = 2 <;> simp [m_sc, mC, h]
theorem mC_s26 {J : m_I} {f g n w f' : Nat → Int32} : m_sc (mC J f g n w) 26 f' = mC J f f' n w := by
  funext k
  by_cases h : k = 26
  · subst h; simp [m_sc, mC]
  · simp [m_sc, mC, h]
theorem mC_s10 {J : m_I} {f g n w f' : Nat → Int32} : m_sc (mC J f g n w) 10 f' = mC J f g f' w := by
  funext k
  by_cases h : k = 10
  · subst h; simp [m_sc, mC]
  · simp [m_sc, mC, h]
theorem mC_s11 {J : m_I} {f g n w f' : Nat → Int32} : m_sc (mC J f g n w) 11 f' = mC J f g n f' := by
  funext k
  by_cases h : k = 11
  · subst h; simp [m_sc, mC]
  · simp [m_sc, mC, h]
theorem mC_self {I : m_I} : mC I (I 2) (I 26) (I 10) (I 11) = I := by
  funext k
  unfold mC
  split
  · rename_i h; rw [h]
  · split
    · rename_i h; rw [h]
    · split
      · rename_i h; rw [h]
      · split
        · rename_i h; rw [h]
        · rfl
theorem sc_ne26 {I : m_I} {f : Nat → Int32} : m_sc I 2 f 26 = I 26 := if_neg (by decide)
theorem scE {α : Type} {f : Nat → α} {k j : Nat} {x : α} (h : j = k) : m_sc f k x j = x := if_pos h
/-- v on the places lo .. hi - 1 -/
def c_fill {α : Type} (f : Nat → α) (lo hi : Nat) (v : α) : Nat → α := fun j => if lo ≤ j ∧ j < hi then v else f j
theorem c_fill_in {α : Type} {f : Nat → α} {lo hi j : Nat} {v : α} (h : lo ≤ j ∧ j < hi) : c_fill f lo hi v j = v := if_pos h
theorem c_fill_out {α : Type} {f : Nat → α} {lo hi j : Nat} {v : α} (h : ¬ (lo ≤ j ∧ j < hi)) : c_fill f lo hi v j = f j := if_neg h
theorem c_fill_step {α : Type} {f : Nat → α} {lo x : Nat} {v : α} (h : lo ≤ x) : m_sc (c_fill f lo x v) x v = c_fill f lo (x + 1) v := by
  funext j
  by_cases hj : j = x
  · subst hj; rw [scE rfl, c_fill_in ⟨h, by omega⟩]
  · rw [m_sc_ne hj]
    by_cases h2 : lo ≤ j ∧ j < x
    · rw [c_fill_in h2, c_fill_in ⟨h2.1, by omega⟩]
    · rw [c_fill_out h2, c_fill_out (by omega)]
theorem c_fill_0 {α : Type} {f : Nat → α} {lo : Nat} {v : α} : c_fill f lo lo v = f := by
  funext j
  exact c_fill_out (by omega)
/-- u's marks go, on eight places -/
def c_relx (f : Nat → Int32) (lo x u : Nat) : Nat → Int32 := fun j => if lo ≤ j ∧ j < lo + x ∧ f j = nI u then -1 else f j
def c_rel (f : Nat → Int32) (lo u : Nat) : Nat → Int32 := c_relx f lo 8 u
theorem c_relx_at {f : Nat → Int32} {lo x u : Nat} : c_relx f lo x u (lo + x) = f (lo + x) := if_neg (by omega)
theorem c_relx_t {f : Nat → Int32} {lo x u : Nat} (h : f (lo + x) = nI u) : m_sc (c_relx f lo x u) (lo + x) (-1) = c_relx f lo (x + 1) u := by
  funext j
  by_cases hj : j = lo + x
  · subst hj; rw [scE rfl, c_relx, if_pos ⟨by omega, by omega, h⟩]
  · rw [m_sc_ne hj]
    unfold c_relx
    by_cases h2 : lo ≤ j ∧ j < lo + x ∧ f j = nI u
    · rw [if_pos h2, if_pos ⟨h2.1, by omega, h2.2.2⟩]
    · rw [if_neg h2, if_neg (fun z => h2 ⟨z.1, by omega, z.2.2⟩)]
theorem c_relx_f {f : Nat → Int32} {lo x u : Nat} (h : ¬ f (lo + x) = nI u) : c_relx f lo x u = c_relx f lo (x + 1) u := by
  funext j
  unfold c_relx
  by_cases h2 : lo ≤ j ∧ j < lo + x ∧ f j = nI u
  · rw [if_pos h2, if_pos ⟨h2.1, by omega, h2.2.2⟩]
  · rw [if_neg h2, if_neg (fun z => ?_)]
    by_cases hj : j = lo + x
    · subst hj; exact h z.2.2
    · exact h2 ⟨z.1, by omega, z.2.2⟩
theorem c_relx_0 {f : Nat → Int32} {lo u : Nat} : c_relx f lo 0 u = f := by
  funext j
  exact if_neg (by omega)
section T20
variable {V : m_V} {t m n : Nat} {ls st : List Value} {I : m_I} {L : m_L} {R : m_R} {e : Option Nat} {a b : Nat} {Q : Option Value → Nat → m_I → m_L → m_R → Prop} {u x : Nat}
theorem w194 {N lo hi : Nat} (h1 : lo ≤ hi) (h2 : hi ≤ N) (hn : N < 2147483648) : WP V 194 0 (m_loc 194 [.int (nI N), .int (nI lo), .int (nI hi)]) [] t I L R Q = Q none t I L R := by
  rw [show m_loc 194 [.int (nI N), .int (nI lo), .int (nI hi)] = [.int (nI N), .int (nI lo), .int (nI hi)] from rfl]
  have h0 : 0 ≤ lo := Nat.zero_le _
  simp (disch := first | assumption | omega | decide) only [nI_add, n_mul, n_sub, n_le, n_lt, n_eq, n_ne1, n_0, m_bl_t, m_bl_f, if_true, if_false, Nat.reduceAdd, Nat.reduceMul, Nat.reduceSub, Nat.reduceLeDiff, Option.toList, List.cons_append, List.nil_append, i194_0, i194_1, i194_2, i194_3, i194_21, i194_22, i194_23, i194_28, i194_29, i194_30, i194_31, i194_36, h1, h2, h0]
theorem c194 {N lo hi : Nat} (h1 : lo ≤ hi) (h2 : hi ≤ N) (hn : N < 2147483648) : WPC V 194 [.int (nI N), .int (nI lo), .int (nI hi)] m n ls st t I L R Q = WP V m n ls st t I L R Q := wpc_of (fun Q => w194 h1 h2 hn)
theorem w197_7 {k N : Nat} {v : Int32} (hk : k < t) (hN : m_ar k 2 N = true) (hN2 : N < 2147483648) {lo hi : Nat} (h1 : hi ≤ N) {l0 : Value} : ∀ (c x : Nat), x + c = hi → lo ≤ x → WP V 197 7 [.ref k, l0, .int (nI hi), .int v, .int (nI x)] [] t (m_sc I k (c_fill (I k) lo x v)) L R Q = Q none t (m_sc I k (c_fill (I k) lo hi v)) L R := by
  intro c
  induction c with
  | zero =>
    intro x hx h2
    obtain rfl : x = hi := by omega
    rw [i197_7]
    simp (disch := first | assumption | omega | decide) only [nI_add, n_mul, n_sub, n_le, n_lt, n_eq, n_ne1, n_0, m_bl_t, m_bl_f, if_true, if_false, Nat.reduceAdd, Nat.reduceMul, Nat.reduceSub, Nat.reduceLeDiff, Option.toList, List.cons_append, List.nil_append, i197_8, i197_9, i197_10, i197_11, i197_12, i197_13, i197_14, i197_15, i197_16, Nat.le_refl]
  | succ c ih =>
    intro x hx h2
    have hlt : ¬ hi ≤ x := by omega
    have h3 : x < N := by omega
    rw [i197_7]
    simp (disch := first | assumption | omega | decide) only [nI_add, n_mul, n_sub, n_le, n_lt, n_eq, n_ne1, n_0, m_bl_t, m_bl_f, if_true, if_false, Nat.reduceAdd, Nat.reduceMul, Nat.reduceSub, Nat.reduceLeDiff, Option.toList, List.cons_append, List.nil_append, i197_8, i197_9, i197_10, i197_11, i197_12, i197_13, i197_14, i197_15, hlt, s_scc, m_sc_self, c_fill_step]
    exact ih (x + 1) (by omega) (by omega)
theorem w197 {k N : Nat} {v : Int32} (hk : k < t) (hN : m_ar k 2 N = true) (hN2 : N < 2147483648) {lo hi : Nat} (h1 : lo ≤ hi) (h2 : hi ≤ N) : WP V 197 0 (m_loc 197 [.ref k, .int (nI lo), .int (nI hi), .int v]) [] t I L R Q = Q none t (m_sc I k (c_fill (I k) lo hi v)) L R := by
  rw [show m_loc 197 [.ref k, .int (nI lo), .int (nI hi), .int v] = [.ref k, .int (nI lo), .int (nI hi), .int v, m_u] from rfl]
  simp (disch := first | assumption | omega | decide) only [nI_add, n_mul, n_sub, n_le, n_lt, n_eq, n_ne1, n_0, m_bl_t, m_bl_f, if_true, if_false, Nat.reduceAdd, Nat.reduceMul, Nat.reduceSub, Nat.reduceLeDiff, Option.toList, List.cons_append, List.nil_append, i197_0, i197_1, i197_2, i197_3, i197_1 hN hk (by decide : 2 ≤ 2), i197_4]
  rw [wpc_of (fun Q => w194 h1 h2 hN2)]
  simp only [Option.toList, List.nil_append]
  simp (disch := first | assumption | omega | decide) only [nI_add, n_mul, n_sub, n_le, n_lt, n_eq, n_ne1, n_0, m_bl_t, m_bl_f, if_true, if_false, Nat.reduceAdd, Nat.reduceMul, Nat.reduceSub, Nat.reduceLeDiff, Option.toList, List.cons_append, List.nil_append, i197_5, i197_6]
  have := w197_7 (V := V) (I := I) (L := L) (R := R) (Q := Q) (v := v) (l0 := .int (nI lo)) hk hN hN2 (lo := lo) h2 (hi - lo) lo (by omega) (Nat.le_refl _)
  rw [c_fill_0, s_sce] at this
  exact this
theorem c197 {k N : Nat} {v : Int32} (hk : k < t) (hN : m_ar k 2 N = true) (hN2 : N < 2147483648) {lo hi : Nat} (h1 : lo ≤ hi) (h2 : hi ≤ N) : WPC V 197 [.ref k, .int (nI lo), .int (nI hi), .int v] m n ls st t I L R Q = WP V m n ls st t (m_sc I k (c_fill (I k) lo hi v)) L R Q := wpc_of (fun Q => w197 hk hN hN2 h1 h2)
theorem w8 (ht : 55 ≤ t) {v : Int32} : WP V 8 0 (m_loc 8 [.ref 26, .int v]) [] t I L (m_RR e a b) Q = Q (some (.int (m_bl (decide (I 2 564 = v))))) t I L (m_RR e a b) := by
  rw [show m_loc 8 [.ref 26, .int v] = [.ref 26, .int v] from rfl]
  simp (disch := first | assumption | omega | decide) only [nI_add, n_mul, n_sub, n_le, n_lt, n_eq, n_ne1, n_0, m_bl_t, m_bl_f, if_true, if_false, Nat.reduceAdd, Nat.reduceMul, Nat.reduceSub, Nat.reduceLeDiff, Option.toList, List.cons_append, List.nil_append, i8_0, i8_1, i8_2, i8_3, i8_4, i8_5, i8_6, i8_7, i8_8, i8_9, rv_26_1]
  by_cases h : I 2 564 = v <;> simp [h, m_bl]
theorem c8 (ht : 55 ≤ t) {v : Int32} : WPC V 8 [.ref 26, .int v] m n ls st t I L (m_RR e a b) Q = WP V m n ls ((.int (m_bl (decide (I 2 564 = v)))) :: st) t I L (m_RR e a b) Q := wpc_of (fun Q => w8 ht)
theorem w9 {v z : Int32} : WP V 9 0 (m_loc 9 [.int v, .int z]) [] t I L R Q = Q (some (.int (m_bl (decide (¬ v = -1) && decide (¬ v = z))))) t I L R := by
  rw [show m_loc 9 [.int v, .int z] = [.int v, .int z] from rfl]
  simp (disch := first | assumption | omega | decide) only [nI_add, n_mul, n_sub, n_le, n_lt, n_eq, n_ne1, n_0, m_bl_t, m_bl_f, if_true, if_false, Nat.reduceAdd, Nat.reduceMul, Nat.reduceSub, Nat.reduceLeDiff, Option.toList, List.cons_append, List.nil_append, i9_0, i9_1, i9_2, i9_3, i9_4, i9_5, i9_6, i9_7, i9_8, i9_9]
  by_cases h : v = -1
  · simp [h, m_bl]
  · by_cases h2 : v = z
    · subst h2; simp [h, m_bl]
    · simp [h, h2, m_bl]
theorem c9 {v z : Int32} : WPC V 9 [.int v, .int z] m n ls st t I L R Q = WP V m n ls ((.int (m_bl (decide (¬ v = -1) && decide (¬ v = z)))) :: st) t I L R Q := wpc_of (fun Q => w9 )
theorem w28_2 (ht : 55 ≤ t) (hu : u < 3) {lo : Nat} (hlo : lo ≤ 500) {J : m_I} : ∀ (c x : Nat), x + c = 8 → WP V 28 2 [.ref 26, .int (nI u), .int (nI lo), .int (nI x)] [] t (m_sc I 2 (c_relx (I 2) lo x u)) L (m_RR e a b) Q = Q none t (m_sc I 2 (c_rel (I 2) lo u)) L (m_RR e a b) := by
  intro c
  induction c with
  | zero =>
    intro x hx
    obtain rfl : x = 8 := by omega
    rw [i28_2]
    simp (disch := first | assumption | omega | decide) only [nI_add, n_mul, n_sub, n_le, n_lt, n_eq, n_ne1, n_0, m_bl_t, m_bl_f, if_true, if_false, Nat.reduceAdd, Nat.reduceMul, Nat.reduceSub, Nat.reduceLeDiff, Option.toList, List.cons_append, List.nil_append, i28_3, i28_4, i28_22, Nat.le_refl, c_rel]
  | succ c ih =>
    intro x hx
    have hx8 : ¬ 8 ≤ x := by omega
    rw [i28_2]
    simp (disch := first | assumption | omega | decide) only [nI_add, n_mul, n_sub, n_le, n_lt, n_eq, n_ne1, n_0, m_bl_t, m_bl_f, if_true, if_false, Nat.reduceAdd, Nat.reduceMul, Nat.reduceSub, Nat.reduceLeDiff, Option.toList, List.cons_append, List.nil_append, i28_3, i28_4, i28_5, i28_6, i28_7, i28_8, i28_9, i28_10, i28_11, i28_12, i28_13, i28_14, i28_15, i28_16, i28_17, i28_18, i28_19, i28_20, i28_21, rv_26_1, hx8, m_sc_self, c_relx_at, s_scc]
    by_cases h : I 2 (lo + x) = nI u
    · rw [if_pos h, c_relx_t h]; exact ih (x + 1) (by omega)
    · rw [if_neg h, c_relx_f h]; exact ih (x + 1) (by omega)
theorem w28 (ht : 55 ≤ t) (hu : u < 3) {lo : Nat} (hlo : lo ≤ 500) : WP V 28 0 (m_loc 28 [.ref 26, .int (nI u), .int (nI lo)]) [] t I L (m_RR e a b) Q = Q none t (m_sc I 2 (c_rel (I 2) lo u)) L (m_RR e a b) := by
  rw [show m_loc 28 [.ref 26, .int (nI u), .int (nI lo)] = [.ref 26, .int (nI u), .int (nI lo), m_u] from rfl]
  simp (disch := first | assumption | omega | decide) only [nI_add, n_mul, n_sub, n_le, n_lt, n_eq, n_ne1, n_0, m_bl_t, m_bl_f, if_true, if_false, Nat.reduceAdd, Nat.reduceMul, Nat.reduceSub, Nat.reduceLeDiff, Option.toList, List.cons_append, List.nil_append, i28_0, i28_1]
  have := w28_2 (V := V) (I := I) (L := L) (e := e) (a := a) (b := b) (Q := Q) ht hu hlo (J := I) 8 0 rfl
  rw [c_relx_0, s_sce] at this
  exact this
theorem c28 (ht : 55 ≤ t) (hu : u < 3) {lo : Nat} (hlo : lo ≤ 500) : WPC V 28 [.ref 26, .int (nI u), .int (nI lo)] m n ls st t I L (m_RR e a b) Q = WP V m n ls st t (m_sc I 2 (c_rel (I 2) lo u)) L (m_RR e a b) Q := wpc_of (fun Q => w28 ht hu hlo)
def c_unlock (f : Nat → Int32) (u : Nat) : Nat → Int32 := if f 1 = nI u then m_sc f 1 (-1) else f
theorem w29 (ht : 55 ≤ t) : WP V 29 0 (m_loc 29 [.ref 26, .int (nI u)]) [] t I L (m_RR e a b) Q = Q none t (m_sc I 2 (c_unlock (I 2) u)) L (m_RR e a b) := by
  rw [show m_loc 29 [.ref 26, .int (nI u)] = [.ref 26, .int (nI u)] from rfl]
  simp (disch := first | assumption | omega | decide) only [nI_add, n_mul, n_sub, n_le, n_lt, n_eq, n_ne1, n_0, m_bl_t, m_bl_f, if_true, if_false, Nat.reduceAdd, Nat.reduceMul, Nat.reduceSub, Nat.reduceLeDiff, Option.toList, List.cons_append, List.nil_append, i29_0, i29_1, i29_2, i29_3, i29_4, i29_5, i29_6, i29_7, i29_8, i29_9, i29_10, i29_11, rv_26_1]
  by_cases h : I 2 1 = nI u <;> simp [h, c_unlock, s_sce]
theorem c29 (ht : 55 ≤ t) : WPC V 29 [.ref 26, .int (nI u)] m n ls st t I L (m_RR e a b) Q = WP V m n ls st t (m_sc I 2 (c_unlock (I 2) u)) L (m_RR e a b) Q := wpc_of (fun Q => w29 ht)
theorem w26 (ht : 55 ≤ t) (hu : u < 3) : WP V 26 0 (m_loc 26 [.ref 26, .int (nI u)]) [] t I L (m_RR e a b) Q = Q none t (m_sc I 2 (va_cpy (I 2) (I 2) (148 + 47 * u) (21 + 4 * u) 4)) L (m_RR e a b) := by
  rw [show m_loc 26 [.ref 26, .int (nI u)] = [.ref 26, .int (nI u)] from rfl]
  simp (disch := first | assumption | omega | decide) only [nI_add, n_mul, n_sub, n_le, n_lt, n_eq, n_ne1, n_0, m_bl_t, m_bl_f, if_true, if_false, Nat.reduceAdd, Nat.reduceMul, Nat.reduceSub, Nat.reduceLeDiff, Option.toList, List.cons_append, List.nil_append, i26_0, i26_1, i26_2, i26_3, i26_4, i26_5, i26_6, i26_7, i26_8, i26_9, i26_10, i26_11, i26_12, i26_13, i26_14, i26_15, i26_16, rv_26_1]
theorem c26 (ht : 55 ≤ t) (hu : u < 3) : WPC V 26 [.ref 26, .int (nI u)] m n ls st t I L (m_RR e a b) Q = WP V m n ls st t (m_sc I 2 (va_cpy (I 2) (I 2) (148 + 47 * u) (21 + 4 * u) 4)) L (m_RR e a b) Q := wpc_of (fun Q => w26 ht hu)
theorem w17 (ht : 55 ≤ t) {v z : Int32} : WP V 17 0 (m_loc 17 [.ref 26, .int v, .int z]) [] t I L R Q = Q (some (.int (nI 6))) t (m_sc I 26 (m_sc (m_sc (I 26) 2 v) 3 z)) L R := by
  rw [show m_loc 17 [.ref 26, .int v, .int z] = [.ref 26, .int v, .int z] from rfl]
  simp (disch := first | assumption | omega | decide) only [nI_add, n_mul, n_sub, n_le, n_lt, n_eq, n_ne1, n_0, m_bl_t, m_bl_f, if_true, if_false, Nat.reduceAdd, Nat.reduceMul, Nat.reduceSub, Nat.reduceLeDiff, Option.toList, List.cons_append, List.nil_append, i17_0, i17_1, i17_2, i17_3, i17_4, i17_5, i17_6, i17_7, s_scc, m_sc_self]
theorem c17 (ht : 55 ≤ t) {v z : Int32} : WPC V 17 [.ref 26, .int v, .int z] m n ls st t I L R Q = WP V m n ls ((.int (nI 6)) :: st) t (m_sc I 26 (m_sc (m_sc (I 26) 2 v) 3 z)) L R Q := wpc_of (fun Q => w17 ht)
def c_come (f : Nat → Int32) (u x : Nat) : Nat → Int32 := if f (152 + 47 * u + x) = -1 then m_sc f (152 + 47 * u + x) (f (65 + x)) else f
theorem w13 (ht : 55 ≤ t) (hu : u < 3) (hx : x < 8) : WP V 13 0 (m_loc 13 [.ref 26, .int (nI u), .int (nI x)]) [] t I L (m_RR e a b) Q = Q none t (m_sc I 2 (c_come (I 2) u x)) L (m_RR e a b) := by
  rw [show m_loc 13 [.ref 26, .int (nI u), .int (nI x)] = [.ref 26, .int (nI u), .int (nI x), m_u] from rfl]
  simp (disch := first | assumption | omega | decide) only [nI_add, n_mul, n_sub, n_le, n_lt, n_eq, n_ne1, n_0, m_bl_t, m_bl_f, if_true, if_false, Nat.reduceAdd, Nat.reduceMul, Nat.reduceSub, Nat.reduceLeDiff, Option.toList, List.cons_append, List.nil_append, i13_0, i13_1, i13_2, i13_3, i13_4, i13_5, i13_6, i13_7, i13_8, i13_9, i13_10, i13_11, i13_12, i13_13, i13_14, i13_15, i13_16, i13_17, i13_18, i13_19, i13_20, i13_21, i13_22, i13_23, i13_24, rv_26_1]
  by_cases h : I 2 (152 + 47 * u + x) = -1 <;> simp [h, c_come, s_sce]
/-- see(): the first reading of a cell is kept -/
theorem c13 (ht : 55 ≤ t) (hu : u < 3) (hx : x < 8) : WPC V 13 [.ref 26, .int (nI u), .int (nI x)] m n ls st t I L (m_RR e a b) Q = WP V m n ls st t (m_sc I 2 (c_come (I 2) u x)) L (m_RR e a b) Q := wpc_of (fun Q => w13 ht hu hx)
def c_see (f : Nat → Int32) (u x k : Nat) : Nat → Int32 := if f (160 + 47 * u + x) = -1 then m_sc (m_sc f (160 + 47 * u + x) (f (49 + k + x))) (160 + 47 * u + x + 8) (f (57 + k + x)) else f
theorem w16 (ht : 55 ≤ t) (hu : u < 3) (hx : x < 8) {k : Nat} (hk : k ≤ 72) : WP V 16 0 (m_loc 16 [.ref 26, .int (nI u), .int (nI x), .int (nI k)]) [] t I L (m_RR e a b) Q = Q (some (.int (nI 6))) t (m_sc (m_sc I 2 (c_see (I 2) u x k)) 26 (m_sc (m_sc (I 26) 2 (I 2 (49 + k + x))) 3 (I 2 (57 + k + x)))) L (m_RR e a b) := by
  rw [show m_loc 16 [.ref 26, .int (nI u), .int (nI x), .int (nI k)] = [.ref 26, .int (nI u), .int (nI x), .int (nI k), m_u, m_u, m_u] from rfl]
  simp (disch := first | assumption | omega | decide) only [nI_add, n_mul, n_sub, n_le, n_lt, n_eq, n_ne1, n_0, m_bl_t, m_bl_f, if_true, if_false, Nat.reduceAdd, Nat.reduceMul, Nat.reduceSub, Nat.reduceLeDiff, Option.toList, List.cons_append, List.nil_append, i16_0, i16_1, i16_2, i16_3, i16_4, i16_5, i16_6, i16_7, i16_8, i16_9, i16_10, i16_11, i16_12, i16_13, i16_14, i16_15, i16_16, i16_17, i16_18, i16_19, i16_20, i16_21, i16_22, i16_23, i16_24, i16_25, i16_26, i16_27, i16_28, i16_29, i16_30, i16_31, i16_32, i16_33, i16_34, i16_35, i16_36, i16_37, i16_38, i16_39, i16_40, i16_41, i16_42, i16_43, i16_44, i16_45, i16_46, i16_47, rv_26_1, wpc_of (fun Q => w17 ht), s_scc, m_sc_self, Option.toList, List.cons_append, List.nil_append, i16_48, sc_ne26]
  by_cases h : I 2 (160 + 47 * u + x) = -1 <;> simp [h, c_see, s_sce]
theorem c16 (ht : 55 ≤ t) (hu : u < 3) (hx : x < 8) {k : Nat} (hk : k ≤ 72) : WPC V 16 [.ref 26, .int (nI u), .int (nI x), .int (nI k)] m n ls st t I L (m_RR e a b) Q = WP V m n ls ((.int (nI 6)) :: st) t (m_sc (m_sc I 2 (c_see (I 2) u x k)) 26 (m_sc (m_sc (I 26) 2 (I 2 (49 + k + x))) 3 (I 2 (57 + k + x)))) L (m_RR e a b) Q := wpc_of (fun Q => w16 ht hu hx hk)
end T20
