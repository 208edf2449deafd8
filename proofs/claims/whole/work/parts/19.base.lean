/-! what the methods' specs are written with -/
theorem n_mul (a b : Nat) : nI a * nI b = nI (a * b) := (Int32.ofNat_mul a b).symm
theorem n_sub {a b : Nat} (h : b ≤ a) : nI a - nI b = nI (a - b) := by
  obtain ⟨c, rfl⟩ : ∃ c, a = c + b := ⟨a - b, by omega⟩
  rw [← nI_add, Int32.add_sub_cancel, Nat.add_sub_cancel]
theorem n_le {a b : Nat} (ha : a < 2147483648) (hb : b < 2147483648) : (nI a ≤ nI b) = (a ≤ b) := propext (nI_leI ha hb)
theorem n_lt {a b : Nat} (ha : a < 2147483648) (hb : b < 2147483648) : (nI a < nI b) = (a < b) := propext (nI_ltI ha hb)
theorem n_eq {a b : Nat} (ha : a < 2147483648) (hb : b < 2147483648) : (nI a = nI b) = (a = b) := propext (nI_eq ha hb)
theorem n_ne1 {a : Nat} (ha : a < 2147483648) : (nI a = -1) = False := by
  refine propext ⟨fun h => ?_, fun h => h.elim⟩
  have h1 := nI_toInt ha
  rw [h] at h1
  have : (-1 : Int32).toInt = -1 := by decide
  omega
theorem n_m1 (n : Nat) : nI (n + 1) + (-1) = nI n := pk_m1 n
/-- some place from x on, k of them -/
def s_any (p : Nat → Bool) : Nat → Nat → Bool
  | _, 0 => false
  | x, k + 1 => p x || s_any p (x + 1) k
theorem s_any_iff {p : Nat → Bool} : ∀ {k x : Nat}, s_any p x k = true ↔ ∃ j, x ≤ j ∧ j < x + k ∧ p j = true
  | 0, x => by simp [s_any]; omega
  | k + 1, x => by
    rw [s_any, Bool.or_eq_true, s_any_iff]
    constructor
    · rintro (h | ⟨j, h1, h2, h3⟩)
      · exact ⟨x, Nat.le_refl _, by omega, h⟩
      · exact ⟨j, by omega, by omega, h3⟩
    · rintro ⟨j, h1, h2, h3⟩
      by_cases hj : j = x
      · subst hj; exact Or.inl h3
      · exact Or.inr ⟨j, by omega, by omega, h3⟩
theorem m_bl_t : m_bl true = nI 1 := rfl
theorem m_bl_f : m_bl false = nI 0 := rfl
/-- a loop over places x .. x + k - 1 of a row -/
def s_loop {α : Type} (f : Nat → α → α) : Nat → Nat → α → α
  | _, 0, s => s
  | x, k + 1, s => s_loop f (x + 1) k (f x s)
theorem s_scc {α : Type} {f : Nat → α} {k : Nat} {x y : α} : m_sc (m_sc f k x) k y = m_sc f k y := by
  funext j
  by_cases h : j = k <;> simp [m_sc, h]
theorem s_sce {α : Type} {f : Nat → α} {k : Nat} : m_sc f k (f k) = f := by
  funext j
  by_cases h : j = k <;> simp [m_sc, h]
def s_stale (f : Nat → Int32) (u : Nat) (x : Nat) : Bool := decide (¬ f (152 + 47 * u + x) = -1) && decide (¬ f (152 + 47 * u + x) = f (65 + x))
section T2A
variable {V : m_V} {t : Nat} {I : m_I} {L : m_L} {e : Option Nat} {a b : Nat} {Q : Option Value → Nat → m_I → m_L → m_R → Prop}
theorem w24_8 (ht : 55 ≤ t) {u : Nat} (hu : u < 3) : ∀ (k x : Nat), x + k = 8 → WP V 24 8 [.ref 26, .int (nI u), .int (nI (152 + 47 * u)), .int (nI x)] [] t I L (m_RR e a b) Q = Q (some (.int (m_bl (s_any (s_stale (I 2) u) x k)))) t I L (m_RR e a b) := by
  intro k
  induction k with
  | zero =>
    intro x hx
    obtain rfl : x = 8 := by omega
    rw [i24_8]
    simp (disch := first | assumption | omega | decide) only [i24_9, i24_10, n_le, i24_36, i24_37, s_any, m_bl_f, if_true, Nat.le_refl]
  | succ k ih =>
    intro x hx
    have hx8 : ¬ 8 ≤ x := by omega
    rw [i24_8]
    simp (disch := first | assumption | omega | decide) only [i24_9, i24_10, n_le, hx8, if_false, i24_11, i24_12, rv_26_1, i24_13, i24_14, i24_15, nI_add, i24_16, i24_17, i24_18, i24_19, i24_20, i24_21, i24_22, i24_23, i24_24, i24_25, i24_26, i24_27, i24_28, i24_29, i24_30, i24_31, i24_32, i24_33, i24_34, i24_35, ih (x + 1) (by omega)]
    by_cases h1 : I 2 (152 + 47 * u + x) = -1
    · simp [h1, s_any, s_stale]
    · by_cases h2 : I 2 (152 + 47 * u + x) = I 2 (65 + x)
      · simp [h1, h2, s_any, s_stale]
      · simp [h1, h2, s_any, s_stale, m_bl]
theorem w24 (ht : 55 ≤ t) {u : Nat} (hu : u < 3) : WP V 24 0 (m_loc 24 [.ref 26, .int (nI u)]) [] t I L (m_RR e a b) Q = Q (some (.int (m_bl (s_any (s_stale (I 2) u) 0 8)))) t I L (m_RR e a b) := by
  rw [show m_loc 24 [.ref 26, .int (nI u)] = [.ref 26, .int (nI u), m_u, m_u] from rfl]
  simp (disch := first | assumption | omega | decide) only [i24_0, i24_1, i24_2, i24_3, n_mul, i24_4, nI_add, i24_5, i24_6, i24_7]
  exact w24_8 ht hu 8 0 rfl
end T2A
