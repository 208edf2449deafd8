/-! wipe: alike -/
section RZG
variable {V : m_V} {m n : Nat} {ls st : List Value} {t N M : Nat} {I I' : m_I} {R : m_R} {L L' : m_L} {e : Option Nat} {Q : Option Value → Nat → m_I → m_L → m_R → Prop}
def c_su (S : Nat → Nat) : Nat → Nat
  | 0 => 0
  | x + 1 => c_su S x + S x
def z_wp (c : Nat) (I : m_I) : Nat → m_I
  | 0 => I
  | x + 1 => m_sc (z_wp c I x) c (m_sc (z_wp c I x c) x (nI 0))
theorem wp_ne {c x k : Nat} (h : k ≠ c) : z_wp c I x k = I k := by
  induction x with
  | zero => rfl
  | succ x ih => show m_sc _ _ _ k = _; rw [m_sc_ne h, ih]
theorem wp_at {c x y : Nat} : z_wp c I x c y = if y < x then nI 0 else I c y := by
  induction x with
  | zero => rw [if_neg (Nat.not_lt_zero _)]; rfl
  | succ x ih =>
    show m_sc (z_wp c I x) c (m_sc (z_wp c I x c) x (nI 0)) c y = _
    rw [m_sc_self]
    by_cases h : y = x
    · subst h; rw [m_sc_self, if_pos (Nat.lt_succ_self _)]
    · rw [m_sc_ne h, ih]
      by_cases h2 : y < x
      · rw [if_pos h2, if_pos (by omega)]
      · rw [if_neg h2, if_neg (by omega)]
theorem w5 (ht : 55 ≤ t) {S : Nat → Nat} {a b : Nat} (hS : ∀ x, x < 6 → I 5 x = nI (S x)) : WP V 5 0 (m_loc 5 [.ref 3]) [] t I L (m_RR e a b) Q = Q (some (.int (nI (c_su S 6)))) t (z_wp 5 I 6) L (m_RR e a b) := by
  rw [show m_loc 5 [.ref 3] = [.ref 3, m_u, m_u] from rfl]
  have st : ∀ x, x < 6 → WP V 5 4 [.ref 3, .int (nI (c_su S x)), .int (nI x)] [] t (z_wp 5 I x) L (m_RR e a b) Q = WP V 5 4 [.ref 3, .int (nI (c_su S (x + 1))), .int (nI (x + 1))] [] t (z_wp 5 I (x + 1)) L (m_RR e a b) Q := fun x hx => w5_4 (s := S x) ht hx (by rw [wp_at, if_neg (Nat.lt_irrefl _), hS x hx])
  simp (disch := first | assumption | omega | decide) only [nI_add, n_mul, n_sub, n_le, n_lt, n_eq, n_ne1, n_0, m_bl_t, m_bl_f, if_true, if_false, Nat.reduceAdd, Nat.reduceMul, Nat.reduceSub, Nat.reduceLeDiff, Nat.reduceEqDiff, Nat.add_zero, Nat.add_sub_cancel, Option.toList, List.cons_append, List.nil_append, i5_0, i5_1, i5_2, i5_3]
  refine (st 0 (by omega)).trans ((st 1 (by omega)).trans ((st 2 (by omega)).trans ((st 3 (by omega)).trans ((st 4 (by omega)).trans ((st 5 (by omega)).trans ?_)))))
  have h66 : 6 ≤ 6 := by decide
  rw [i5_4]
  simp (disch := first | assumption | omega | decide) only [nI_add, n_mul, n_sub, n_le, n_lt, n_eq, n_ne1, n_0, m_bl_t, m_bl_f, if_true, if_false, Nat.reduceAdd, Nat.reduceMul, Nat.reduceSub, Nat.reduceLeDiff, Nat.reduceEqDiff, Nat.add_zero, Nat.add_sub_cancel, Option.toList, List.cons_append, List.nil_append, i5_5, i5_6, i5_21, i5_22, h66]
theorem c5 (ht : 55 ≤ t) {S : Nat → Nat} {a b : Nat} (hS : ∀ x, x < 6 → I 5 x = nI (S x)) : WPC V 5 [.ref 3] m n ls st t I L (m_RR e a b) Q = WP V m n ls ((.int (nI (c_su S 6))) :: st) t (z_wp 5 I 6) L (m_RR e a b) Q := wpc_of (fun Q => w5 ht hS)
theorem w126_9 (ht : 55 ≤ t) {x q s : Nat} {e : Option Nat} {b : Nat} (hx : x < 6) (hs : I 29 x = nI s) : WP V 126 9 [.ref 27, .int (nI q), .int (nI x)] [] t I L (m_RR e 28 b) Q = WP V 126 9 [.ref 27, .int (nI (q + s)), .int (nI (x + 1))] [] t (m_sc I 29 (m_sc (I 29) x (nI 0))) L (m_RR e 28 b) Q := by
  have hx6 : ¬ 6 ≤ x := by omega
  have hA := aa28
  rw [i126_9]
  simp (disch := first | assumption | omega | decide) only [nI_add, n_mul, n_sub, n_le, n_lt, n_eq, n_ne1, n_0, m_bl_t, m_bl_f, if_true, if_false, Nat.reduceAdd, Nat.reduceMul, Nat.reduceSub, Nat.reduceLeDiff, Nat.reduceEqDiff, Nat.add_zero, Nat.add_sub_cancel, Option.toList, List.cons_append, List.nil_append, i126_10, i126_11, i126_12, i126_13, i126_14, i126_15, i126_16, i126_17, i126_18, i126_19, i126_20, i126_21, i126_22, i126_23, i126_24, i126_25, rv_27_6, hx6, hs]
theorem p_wipe (hT : TP N e I L) (ht : 55 ≤ t) : pair_ok V t e N I L 87 [] 126 [] := by
  have eC : m_loc 87 (.ref 0 :: []) = [.ref 0] := rfl
  have eD : m_loc 126 (.ref 27 :: []) = [.ref 27, m_u, m_u] := rfl
  have hA := aa28
  have hfr := rl_frs hT.1
  cases hd : d_fr (I 28)
  · rw [hd] at hfr
    refine pair_v (v := .int (-103)) hT (fun Q => ?_) (fun Q => ?_)
    · rw [eC]
      simp (disch := first | assumption | omega | decide) only [nI_add, n_mul, n_sub, n_le, n_lt, n_eq, n_ne1, n_0, m_bl_t, m_bl_f, if_true, if_false, Nat.reduceAdd, Nat.reduceMul, Nat.reduceSub, Nat.reduceLeDiff, Nat.reduceEqDiff, Nat.add_zero, Nat.add_sub_cancel, Option.toList, List.cons_append, List.nil_append, i87_0, i87_1, i87_2, i87_3, rv_0_0, c49, hfr, Bool.not_false]
      simp (disch := first | assumption | omega | decide) only [nI_add, n_mul, n_sub, n_le, n_lt, n_eq, n_ne1, n_0, m_bl_t, m_bl_f, if_true, if_false, Nat.reduceAdd, Nat.reduceMul, Nat.reduceSub, Nat.reduceLeDiff, Nat.reduceEqDiff, Nat.add_zero, Nat.add_sub_cancel, Option.toList, List.cons_append, List.nil_append, i87_4, i87_5, i87_10]
    · rw [eD]
      simp (disch := first | assumption | omega | decide) only [nI_add, n_mul, n_sub, n_le, n_lt, n_eq, n_ne1, n_0, m_bl_t, m_bl_f, if_true, if_false, Nat.reduceAdd, Nat.reduceMul, Nat.reduceSub, Nat.reduceLeDiff, Nat.reduceEqDiff, Nat.add_zero, Nat.add_sub_cancel, Option.toList, List.cons_append, List.nil_append, i126_0, i126_1, i126_2, c119, hd]
      simp (disch := first | assumption | omega | decide) only [nI_add, n_mul, n_sub, n_le, n_lt, n_eq, n_ne1, n_0, m_bl_t, m_bl_f, if_true, if_false, Nat.reduceAdd, Nat.reduceMul, Nat.reduceSub, Nat.reduceLeDiff, Nat.reduceEqDiff, Nat.add_zero, Nat.add_sub_cancel, Option.toList, List.cons_append, List.nil_append, i126_3, i126_4]
  · rw [hd] at hfr
    have hcd := hT.1.2.2.1
    obtain ⟨S, hS⟩ : ∃ S : Nat → Nat, ∀ x, x < 6 → I 5 x = nI (S x) ∧ I 29 x = nI (S x) := ⟨fun x => (I 5 x).toNatClampNeg, fun x hx => by
      obtain ⟨s, s1, s2, s3, s4⟩ := hcd x hx
      dsimp only
      rw [s2, s3, nI_clamp (by omega)]
      exact ⟨rfl, rfl⟩⟩
    have hS5 : ∀ x, x < 6 → I 5 x = nI (S x) := fun x hx => (hS x hx).1
    have O1 : ∀ k, k ≠ 5 → z_wp 5 I 6 k = I k := fun k hk => wp_ne hk
    have O : ∀ k, k ≠ 5 ∧ k ≠ 29 → z_wp 29 (z_wp 5 I 6) 6 k = I k := fun k hk => by rw [wp_ne hk.2, O1 k hk.1]
    refine ⟨.int (nI (c_su S 6)), z_wp 5 I 6, L, z_wp 29 (z_wp 5 I 6) 6, L, fun Q => ?_, fun Q => ?_, ?_⟩
    · rw [eC]
      simp (disch := first | assumption | omega | decide) only [nI_add, n_mul, n_sub, n_le, n_lt, n_eq, n_ne1, n_0, m_bl_t, m_bl_f, if_true, if_false, Nat.reduceAdd, Nat.reduceMul, Nat.reduceSub, Nat.reduceLeDiff, Nat.reduceEqDiff, Nat.add_zero, Nat.add_sub_cancel, Option.toList, List.cons_append, List.nil_append, i87_0, i87_1, i87_2, i87_3, rv_0_0, c49, hfr, Bool.not_true]
      simp (disch := first | assumption | omega | decide) only [nI_add, n_mul, n_sub, n_le, n_lt, n_eq, n_ne1, n_0, m_bl_t, m_bl_f, if_true, if_false, Nat.reduceAdd, Nat.reduceMul, Nat.reduceSub, Nat.reduceLeDiff, Nat.reduceEqDiff, Nat.add_zero, Nat.add_sub_cancel, Option.toList, List.cons_append, List.nil_append, i87_6, i87_7, i87_8, i87_9, i87_10, rv_0_0, rv_13_1, rv_1_1, c5 ht hS5]
    · rw [eD]
      have st : ∀ x, x < 6 → WP V 126 9 [.ref 27, .int (nI (c_su S x)), .int (nI x)] [] t (z_wp 29 (z_wp 5 I 6) x) L (m_RR e 28 48) Q = WP V 126 9 [.ref 27, .int (nI (c_su S (x + 1))), .int (nI (x + 1))] [] t (z_wp 29 (z_wp 5 I 6) (x + 1)) L (m_RR e 28 48) Q := fun x hx => w126_9 (s := S x) ht hx (by rw [wp_at, if_neg (Nat.lt_irrefl _), O1 29 (by omega), (hS x hx).2])
      have e28 : z_wp 5 I 6 28 = I 28 := O1 28 (by omega)
      simp (disch := first | assumption | omega | decide) only [nI_add, n_mul, n_sub, n_le, n_lt, n_eq, n_ne1, n_0, m_bl_t, m_bl_f, if_true, if_false, Nat.reduceAdd, Nat.reduceMul, Nat.reduceSub, Nat.reduceLeDiff, Nat.reduceEqDiff, Nat.add_zero, Nat.add_sub_cancel, Option.toList, List.cons_append, List.nil_append, i126_0, i126_1, i126_2, c119, hd, e28]
      simp (disch := first | assumption | omega | decide) only [nI_add, n_mul, n_sub, n_le, n_lt, n_eq, n_ne1, n_0, m_bl_t, m_bl_f, if_true, if_false, Nat.reduceAdd, Nat.reduceMul, Nat.reduceSub, Nat.reduceLeDiff, Nat.reduceEqDiff, Nat.add_zero, Nat.add_sub_cancel, Option.toList, List.cons_append, List.nil_append, i126_5, i126_6, i126_7, i126_8]
      refine (st 0 (by omega)).trans ((st 1 (by omega)).trans ((st 2 (by omega)).trans ((st 3 (by omega)).trans ((st 4 (by omega)).trans ((st 5 (by omega)).trans ?_)))))
      have h66 : 6 ≤ 6 := by decide
      rw [i126_9]
      simp (disch := first | assumption | omega | decide) only [nI_add, n_mul, n_sub, n_le, n_lt, n_eq, n_ne1, n_0, m_bl_t, m_bl_f, if_true, if_false, Nat.reduceAdd, Nat.reduceMul, Nat.reduceSub, Nat.reduceLeDiff, Nat.reduceEqDiff, Nat.add_zero, Nat.add_sub_cancel, Option.toList, List.cons_append, List.nil_append, i126_10, i126_11, i126_26, i126_27, h66]
    · have hcd2 : rl_cd (z_wp 29 (z_wp 5 I 6) 6) := fun c2 hc2 => by
        refine ⟨0, by omega, ?_, ?_, fun p hp => absurd hp (Nat.not_lt_zero _)⟩
        · rw [wp_ne (by omega), wp_at, if_pos hc2]
        · rw [wp_at, if_pos hc2]
      refine TP_of hT ⟨rl_XX_le (XX_cell hT.1 (O _ (by omega)) (O _ (by omega)) (O _ (by omega)) (O _ (by omega)) (O _ (by omega)) (O _ (by omega)) (O _ (by omega)) (O _ (by omega)) (O _ (by omega))) (Nat.le_add_right _ _), ro_cell hT.1.2.1 (O _ (by omega)) (O _ (by omega)) (O _ (by omega)) (O _ (by omega)) (O _ (by omega)) rfl rfl, hcd2, fs_cell hT.1.2.2.2 (O _ (by omega)) (O _ (by omega)) (O _ (by omega))⟩ (O _ (by omega)) (fun j hj => by rw [O _ (by omega)]) (O _ (by omega)) (O _ (by omega)) (O _ (by omega)) (fun k hk => O _ (by unfold cellK at hk; omega)) rfl rfl (Nat.le_add_right _ _)
end RZG
