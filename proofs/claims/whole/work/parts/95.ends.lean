/-! explore: ends -/
section RBG
variable {V : m_V} {t m n : Nat} {ls st : List Value} {I J : m_I} {L : m_L} {R : m_R} {e : Option Nat} {a b : Nat} {Q : Option Value → Nat → m_I → m_L → m_R → Prop} {u v x k s c i y d hh o at' : Nat} {p f g F F' r : Nat → Int32} {h : Int32}
def e_wr (r F : Nat → Int32) (at' : Nat) : Nat → Int32 := fun k => if at' ≤ k ∧ k < at' + 19 then r (k - at') else F k
def e_al (F : Nat → Int32) (m o : Nat) : Bool := z_sm F (fun j => F (19 * m + j)) (19 * o) 0 19
def e_dup (F : Nat → Int32) (m : Nat) : Bool := s_any (e_al F m) 0 m
def e_st (r : Nat → Int32) (q : Nat × (Nat → Int32)) : Nat × (Nat → Int32) := (if e_dup (e_wr r q.2 (19 * q.1)) q.1 = true then q.1 else q.1 + 1, e_wr r q.2 (19 * q.1))
def e_f (F : Nat → Int32) (row : Nat → Nat → Int32) (S : Nat → Bool) : Nat → Nat × (Nat → Int32)
  | 0 => (0, F)
  | i + 1 => if S i = true then e_st (row i) (e_f F row S i) else e_f F row S i
theorem z_sm_cg {f' p' : Nat → Int32} (h1 : ∀ j, x ≤ j → j < x + c → p' (s + j) = p (s + j)) (h2 : ∀ j, x ≤ j → j < x + c → f' j = f j) : z_sm p' f' s x c = z_sm p f s x c := by
  rw [Bool.eq_iff_iff, z_sm_iff, z_sm_iff]
  constructor
  · intro q j j1 j2
    rw [← h1 j j1 j2, ← h2 j j1 j2]; exact q j j1 j2
  · intro q j j1 j2
    rw [h1 j j1 j2, h2 j j1 j2]; exact q j j1 j2
theorem e_dup_cg (h : ∀ k, k < 19 * m + 19 → F' k = F k) : e_dup F' m = e_dup F m := by
  refine s_any_cg m 0 (fun o _ ho => ?_)
  exact z_sm_cg (fun j _ j2 => h _ (by omega)) (fun j _ j2 => h _ (by omega))
theorem e_f_le {row : Nat → Nat → Int32} {S : Nat → Bool} : ∀ i, (e_f F row S i).1 ≤ i := by
  intro i
  induction i with
  | zero => exact Nat.le_refl _
  | succ i ih =>
    show (if S i = true then e_st (row i) (e_f F row S i) else e_f F row S i).1 ≤ i + 1
    split
    · unfold e_st
      dsimp only
      split <;> omega
    · omega
theorem e_f_cg {row row' : Nat → Nat → Int32} {S S' : Nat → Bool} : ∀ y, (∀ i, i < y → ∀ j, j < 19 → row' i j = row i j) → (∀ i, i < y → S' i = S i) → (e_f F' row' S' y).1 = (e_f F row S y).1 ∧ ∀ k, k < 19 * (e_f F row S y).1 → (e_f F' row' S' y).2 k = (e_f F row S y).2 k := by
  intro y
  induction y with
  | zero => intro _ _; exact ⟨rfl, fun k hk => by exact absurd hk (by show ¬ k < 19 * 0; omega)⟩
  | succ y ih =>
    intro hr hS
    obtain ⟨h1, h2⟩ := ih (fun i hi => hr i (by omega)) (fun i hi => hS i (by omega))
    show (if S' y = true then e_st (row' y) (e_f F' row' S' y) else e_f F' row' S' y).1 = (if S y = true then e_st (row y) (e_f F row S y) else e_f F row S y).1 ∧ ∀ k, k < 19 * (if S y = true then e_st (row y) (e_f F row S y) else e_f F row S y).1 → (if S' y = true then e_st (row' y) (e_f F' row' S' y) else e_f F' row' S' y).2 k = (if S y = true then e_st (row y) (e_f F row S y) else e_f F row S y).2 k
    rw [hS y (by omega)]
    obtain ⟨q', hq'⟩ : ∃ q, q = e_f F' row' S' y := ⟨_, rfl⟩
    obtain ⟨q, hq⟩ : ∃ q, q = e_f F row S y := ⟨_, rfl⟩
    rw [← hq', ← hq] at h1 h2 ⊢
    cases S y
    · rw [if_neg Bool.false_ne_true, if_neg Bool.false_ne_true]
      exact ⟨h1, h2⟩
    · rw [if_pos rfl, if_pos rfl]
      have w : ∀ k, k < 19 * q.1 + 19 → e_wr (row' y) q'.2 (19 * q'.1) k = e_wr (row y) q.2 (19 * q.1) k := fun k hk => by
        unfold e_wr
        rw [h1]
        by_cases q5 : 19 * q.1 ≤ k ∧ k < 19 * q.1 + 19
        · rw [if_pos q5, if_pos q5]; exact hr y (by omega) _ (by omega)
        · rw [if_neg q5, if_neg q5]; exact h2 k (by omega)
      have dd : e_dup (e_wr (row' y) q'.2 (19 * q'.1)) q'.1 = e_dup (e_wr (row y) q.2 (19 * q.1)) q.1 := by rw [h1] at w ⊢; exact e_dup_cg w
      unfold e_st
      rw [dd]
      refine ⟨by dsimp only; rw [h1], fun k hk => ?_⟩
      dsimp only at hk ⊢
      refine w k ?_
      split at hk <;> omega
/-- the class's end -/
def z_er (p : Nat → Int32) (i : Nat) : Nat → Int32 := fun j => if j < 16 then p (i * 581 + 49 + j) else p (i * 581 + 3 + (j - 16))
theorem z_er_w : va_cpy p (va_cpy p F (i * 581 + 49) at' 16) (i * 581 + 3) (at' + 16) 3 = e_wr (z_er p i) F at' := by
  funext k
  unfold va_cpy e_wr z_er
  by_cases h1 : at' + 16 ≤ k ∧ k < at' + 16 + 3
  · rw [if_pos h1, if_pos (by omega), if_neg (by omega), show k - at' - 16 = k - (at' + 16) by omega]
  · rw [if_neg h1]
    by_cases h2 : at' ≤ k ∧ k < at' + 16
    · rw [if_pos h2, if_pos (by omega), if_pos (by omega)]
    · rw [if_neg h2, if_neg (by omega)]
theorem w42_7 (ht : 62 ≤ t) (hm : 19 * m + 19 ≤ 7600) (ho : o < m) : ∀ c j, j + c = 19 → ∃ w3 : Int32, ∀ Q, WP V 42 7 [.ref 55, .int (nI (19 * m)), .int (nI (19 * o)), .int (nI j)] [] t I L (m_RR e a b) Q = if z_sm (I 61) (fun j => I 61 (19 * m + j)) (19 * o) j c = true then Q (some (.int (nI 0))) t I L (m_RR e a b) else WP V 42 2 [.ref 55, .int (nI (19 * m)), .int (nI (19 * o + 19)), .int w3] [] t I L (m_RR e a b) Q := by
  intro c
  induction c with
  | zero =>
    intro j hj
    obtain rfl : j = 19 := by omega
    refine ⟨0, fun Q => ?_⟩
    have e0 : z_sm (I 61) (fun j => I 61 (19 * m + j)) (19 * o) 19 0 = true := rfl
    rw [e0, if_pos rfl, i42_7]
    simp (disch := first | assumption | omega | decide) only [nI_add, n_mul, n_sub, n_le, n_lt, n_eq, n_ne1, n_0, m_bl_t, m_bl_f, if_true, if_false, Nat.reduceAdd, Nat.reduceMul, Nat.reduceSub, Nat.reduceLeDiff, Nat.reduceEqDiff, Nat.add_zero, Nat.add_sub_cancel, Option.toList, List.cons_append, List.nil_append, i42_8, i42_9, i42_25, i42_26, i42_27, i42_28, i42_29, Nat.le_refl]
  | succ c ih =>
    intro j hj
    have hj9 : ¬ 19 ≤ j := by omega
    have hj8 : ¬ j = 19 := by omega
    have e0 : z_sm (I 61) (fun j => I 61 (19 * m + j)) (19 * o) j (c + 1) = (decide (I 61 (19 * o + j) = I 61 (19 * m + j)) && z_sm (I 61) (fun j => I 61 (19 * m + j)) (19 * o) (j + 1) c) := rfl
    by_cases h1 : I 61 (19 * o + j) = I 61 (19 * m + j)
    · obtain ⟨w3, hw⟩ := ih (j + 1) (by omega)
      refine ⟨w3, fun Q => ?_⟩
      rw [e0, decide_eq_true h1, Bool.true_and, ← hw Q, i42_7]
      simp (disch := first | assumption | omega | decide) only [nI_add, n_mul, n_sub, n_le, n_lt, n_eq, n_ne1, n_0, m_bl_t, m_bl_f, if_true, if_false, Nat.reduceAdd, Nat.reduceMul, Nat.reduceSub, Nat.reduceLeDiff, Nat.reduceEqDiff, Nat.add_zero, Nat.add_sub_cancel, Option.toList, List.cons_append, List.nil_append, i42_8, i42_9, i42_10, i42_11, i42_12, i42_13, i42_14, i42_15, i42_16, i42_17, i42_18, i42_19, i42_20, i42_21, rv_55_9, hj9]
      rw [i42_22, if_pos h1]
      simp (disch := first | assumption | omega | decide) only [nI_add, n_mul, n_sub, n_le, n_lt, n_eq, n_ne1, n_0, m_bl_t, m_bl_f, if_true, if_false, Nat.reduceAdd, Nat.reduceMul, Nat.reduceSub, Nat.reduceLeDiff, Nat.reduceEqDiff, Nat.add_zero, Nat.add_sub_cancel, Option.toList, List.cons_append, List.nil_append, i42_23, i42_24]
    · refine ⟨nI j, fun Q => ?_⟩
      rw [e0, decide_eq_false h1, Bool.false_and, if_neg Bool.false_ne_true, i42_7]
      simp (disch := first | assumption | omega | decide) only [nI_add, n_mul, n_sub, n_le, n_lt, n_eq, n_ne1, n_0, m_bl_t, m_bl_f, if_true, if_false, Nat.reduceAdd, Nat.reduceMul, Nat.reduceSub, Nat.reduceLeDiff, Nat.reduceEqDiff, Nat.add_zero, Nat.add_sub_cancel, Option.toList, List.cons_append, List.nil_append, i42_8, i42_9, i42_10, i42_11, i42_12, i42_13, i42_14, i42_15, i42_16, i42_17, i42_18, i42_19, i42_20, i42_21, rv_55_9, hj9]
      rw [i42_22, if_neg h1]
      simp (disch := first | assumption | omega | decide) only [nI_add, n_mul, n_sub, n_le, n_lt, n_eq, n_ne1, n_0, m_bl_t, m_bl_f, if_true, if_false, Nat.reduceAdd, Nat.reduceMul, Nat.reduceSub, Nat.reduceLeDiff, Nat.reduceEqDiff, Nat.add_zero, Nat.add_sub_cancel, Option.toList, List.cons_append, List.nil_append, i42_25, i42_26, i42_27, i42_30, i42_31, hj8]
theorem w42_2 (ht : 62 ≤ t) (hm : 19 * m + 19 ≤ 7600) : ∀ c o (w3 : Value), o + c = m → WP V 42 2 [.ref 55, .int (nI (19 * m)), .int (nI (19 * o)), w3] [] t I L (m_RR e a b) Q = Q (some (.int (m_bl (!s_any (e_al (I 61) m) o c)))) t I L (m_RR e a b) := by
  intro c
  induction c with
  | zero =>
    intro o w3 ho
    obtain rfl : o = m := by omega
    show _ = Q (some (.int (m_bl true))) t I L (m_RR e a b)
    rw [i42_2]
    simp (disch := first | assumption | omega | decide) only [nI_add, n_mul, n_sub, n_le, n_lt, n_eq, n_ne1, n_0, m_bl_t, m_bl_f, if_true, if_false, Nat.reduceAdd, Nat.reduceMul, Nat.reduceSub, Nat.reduceLeDiff, Nat.reduceEqDiff, Nat.add_zero, Nat.add_sub_cancel, Option.toList, List.cons_append, List.nil_append, i42_3, i42_4, i42_32, i42_33, Nat.le_refl]
  | succ c ih =>
    intro o w3 ho
    have ho9 : ¬ 19 * m ≤ 19 * o := by omega
    obtain ⟨w3', hw⟩ := w42_7 (V := V) (I := I) (L := L) (e := e) (a := a) (b := b) ht hm (show o < m by omega) 19 0 rfl
    have e0 : s_any (e_al (I 61) m) o (c + 1) = (e_al (I 61) m o || s_any (e_al (I 61) m) (o + 1) c) := rfl
    have e2 := ih (o + 1) (.int w3') (by omega)
    rw [show 19 * (o + 1) = 19 * o + 19 by omega] at e2
    have run : WP V 42 2 [.ref 55, .int (nI (19 * m)), .int (nI (19 * o)), w3] [] t I L (m_RR e a b) Q = WP V 42 7 [.ref 55, .int (nI (19 * m)), .int (nI (19 * o)), .int (nI 0)] [] t I L (m_RR e a b) Q := by
      rw [i42_2]
      simp (disch := first | assumption | omega | decide) only [nI_add, n_mul, n_sub, n_le, n_lt, n_eq, n_ne1, n_0, m_bl_t, m_bl_f, if_true, if_false, Nat.reduceAdd, Nat.reduceMul, Nat.reduceSub, Nat.reduceLeDiff, Nat.reduceEqDiff, Nat.add_zero, Nat.add_sub_cancel, Option.toList, List.cons_append, List.nil_append, i42_3, i42_4, i42_5, i42_6, ho9]
    rw [run, hw Q, e0]
    cases h1 : e_al (I 61) m o
    · unfold e_al at h1
      rw [h1, if_neg Bool.false_ne_true, Bool.false_or, e2]
    · unfold e_al at h1
      rw [h1, if_pos rfl, Bool.true_or, Bool.not_true, m_bl_f]
theorem w42 (ht : 62 ≤ t) (hm : 19 * k + 19 ≤ 7600) : WP V 42 0 (m_loc 42 [.ref 55, .int (nI (19 * k))]) [] t I L (m_RR e a b) Q = Q (some (.int (m_bl (!e_dup (I 61) k)))) t I L (m_RR e a b) := by
  rw [show m_loc 42 [.ref 55, .int (nI (19 * k))] = [.ref 55, .int (nI (19 * k)), m_u, m_u] from rfl]
  simp (disch := first | assumption | omega | decide) only [nI_add, n_mul, n_sub, n_le, n_lt, n_eq, n_ne1, n_0, m_bl_t, m_bl_f, if_true, if_false, Nat.reduceAdd, Nat.reduceMul, Nat.reduceSub, Nat.reduceLeDiff, Nat.reduceEqDiff, Nat.add_zero, Nat.add_sub_cancel, Option.toList, List.cons_append, List.nil_append, i42_0, i42_1]
  exact w42_2 ht hm k 0 m_u (Nat.zero_add k)
theorem c42 (ht : 62 ≤ t) (hm : 19 * k + 19 ≤ 7600) : WPC V 42 [.ref 55, .int (nI (19 * k))] m n ls st t I L (m_RR e a b) Q = WP V m n ls ((.int (m_bl (!e_dup (I 61) k))) :: st) t I L (m_RR e a b) Q := wpc_of (fun Q => w42 ht hm)
def z_S (sl : Nat → Int32) (i : Nat) : Bool := !decide (sl i = nI 0)
def z_gm (I : m_I) (q : Nat × (Nat → Int32)) : m_I := m_sc (m_sc I 61 q.2) 55 (m_sc (I 55) 10 (nI q.1))
theorem z_gm_o (h1 : k ≠ 55 ∧ k ≠ 61) : z_gm I (m, F) k = I k := by unfold z_gm; rw [m_sc_ne h1.1, m_sc_ne h1.2]
theorem z_gm_61 : z_gm I (m, F) 61 = F := by unfold z_gm; rw [m_sc_ne (by omega), m_sc_self]
theorem z_gm_55 : z_gm I (m, F) 55 = m_sc (I 55) 10 (nI m) := by unfold z_gm; rw [m_sc_self]
theorem z_gm_s61 : m_sc (z_gm I (m, F)) 61 F' = z_gm I (m, F') := by
  unfold z_gm
  rw [m_sc_cm (by omega), s_scc]
theorem z_gm_s55 : m_sc (z_gm I (m, F)) 55 (m_sc (m_sc (I 55) 10 (nI m)) 10 (nI n)) = z_gm I (n, F) := by
  unfold z_gm
  rw [s_scc, s_scc]
set_option maxRecDepth 20000 in
theorem w41_5 (ht : 62 ≤ t) (hi : i < y) (hy : y ≤ 400) (h8 : I 55 8 = nI y) {q : Nat × (Nat → Int32)} (hq : q.1 ≤ i) (hw2 : True) {w2 : Value} : ∃ w2', ∀ Q, WP V 41 5 [.ref 55, .int (nI i), w2] [] t (z_gm I q) L (m_RR e a b) Q = WP V 41 5 [.ref 55, .int (nI (i + 1)), w2'] [] t (z_gm I (if z_S (I 59) i = true then e_st (z_er (I 57) i) q else q)) L (m_RR e a b) Q := by
  obtain ⟨mm, F⟩ := q
  dsimp only at hq
  have hiy : ¬ y ≤ i := by omega
  have k59 : z_gm I (mm, F) 59 = I 59 := z_gm_o (by omega)
  have k57 : z_gm I (mm, F) 57 = I 57 := z_gm_o (by omega)
  have k61 : z_gm I (mm, F) 61 = F := z_gm_61
  have k55 : z_gm I (mm, F) 55 = m_sc (I 55) 10 (nI mm) := z_gm_55
  have k8 : m_sc (I 55) 10 (nI mm) 8 = nI y := by rw [m_sc_ne (by omega)]; exact h8
  have k10 : m_sc (I 55) 10 (nI mm) 10 = nI mm := m_sc_self
  cases hS : z_S (I 59) i
  · have h0 : I 59 i = nI 0 := by unfold z_S at hS; rw [Bool.not_eq_false'] at hS; exact of_decide_eq_true hS
    refine ⟨w2, fun Q => ?_⟩
    rw [if_neg Bool.false_ne_true, i41_5]
    simp (disch := first | assumption | omega | decide) only [nI_add, n_mul, n_sub, n_le, n_lt, n_eq, n_ne1, n_0, m_bl_t, m_bl_f, if_true, if_false, Nat.reduceAdd, Nat.reduceMul, Nat.reduceSub, Nat.reduceLeDiff, Nat.reduceEqDiff, Nat.add_zero, Nat.add_sub_cancel, Option.toList, List.cons_append, List.nil_append, i41_6, i41_7, i41_8, i41_9, i41_10, i41_11, i41_12, i41_13, i41_14, i41_56, i41_57, rv_55_6, k55, k8, hiy, k59, h0]
  · have h0 : ¬ I 59 i = nI 0 := by unfold z_S at hS; rw [Bool.not_eq_true'] at hS; exact of_decide_eq_false hS
    refine ⟨.int (nI (19 * mm)), fun Q => ?_⟩
    have hl : i * 581 + 49 + 16 ≤ 232400 := by omega
    have hl2 : i * 581 + 3 + 3 ≤ 232400 := by omega
    have hb1 : 19 * mm + 16 ≤ 7600 := by omega
    have hb2 : 19 * mm + 16 + 3 ≤ 7600 := by omega
    have hb3 : 19 * mm + 19 ≤ 7600 := by omega
    have mc : mm * 19 = 19 * mm := Nat.mul_comm _ _
    have j57 : ∀ X, z_gm I (mm, X) 57 = I 57 := fun X => z_gm_o (by omega)
    have j61 : ∀ X, z_gm I (mm, X) 61 = X := fun X => z_gm_61
    have j55 : ∀ X, z_gm I (mm, X) 55 = m_sc (I 55) 10 (nI mm) := fun X => z_gm_55
    have s61 : ∀ X Y, m_sc (z_gm I (mm, X)) 61 Y = z_gm I (mm, Y) := fun X Y => z_gm_s61
    have c42' : ∀ {X : Nat → Int32} {m n : Nat} {ls st : List Value} {Q : Option Value → Nat → m_I → m_L → m_R → Prop}, WPC V 42 [.ref 55, .int (nI (19 * mm))] m n ls st t (z_gm I (mm, X)) L (m_RR e a b) Q = WP V m n ls (.int (m_bl (!e_dup X mm)) :: st) t (z_gm I (mm, X)) L (m_RR e a b) Q := fun {X m n ls st Q} => by
      rw [c42 ht hb3, j61]
    rw [if_pos rfl, i41_5]
    simp (disch := first | assumption | omega | decide) only [nI_add, n_mul, n_sub, n_le, n_lt, n_eq, n_ne1, n_0, m_bl_t, m_bl_f, if_true, if_false, Nat.reduceAdd, Nat.reduceMul, Nat.reduceSub, Nat.reduceLeDiff, Nat.reduceEqDiff, Nat.add_zero, Nat.add_sub_cancel, Option.toList, List.cons_append, List.nil_append, i41_6, i41_7, i41_8, i41_9, i41_10, i41_11, i41_12, i41_13, i41_15, i41_16, i41_17, i41_18, i41_19, rv_55_6, k55, k8, k10, hiy, k59, h0, mc]
    simp (disch := first | assumption | omega | decide) only [nI_add, n_mul, n_sub, n_le, n_lt, n_eq, n_ne1, n_0, m_bl_t, m_bl_f, if_true, if_false, Nat.reduceAdd, Nat.reduceMul, Nat.reduceSub, Nat.reduceLeDiff, Nat.reduceEqDiff, Nat.add_zero, Nat.add_sub_cancel, Option.toList, List.cons_append, List.nil_append, i41_20, i41_21, i41_22, i41_23, i41_24, i41_25, i41_26, i41_27, i41_28, i41_29, i41_30, i41_31, i41_32, i41_33, i41_34, i41_35, i41_36, i41_37, i41_38, i41_39, i41_40, i41_41, i41_42, i41_43, i41_44, i41_45, i41_46, i41_47, i41_48, rv_55_4, rv_55_9, j57, j61, s61, z_er_w, c42']
    unfold e_st
    dsimp only
    cases hd : e_dup (e_wr (z_er (I 57) i) F (19 * mm)) mm
    · rw [if_neg Bool.false_ne_true]
      simp (disch := first | assumption | omega | decide) only [nI_add, n_mul, n_sub, n_le, n_lt, n_eq, n_ne1, n_0, m_bl_t, m_bl_f, if_true, if_false, Nat.reduceAdd, Nat.reduceMul, Nat.reduceSub, Nat.reduceLeDiff, Nat.reduceEqDiff, Nat.add_zero, Nat.add_sub_cancel, Option.toList, List.cons_append, List.nil_append, i41_49, i41_50, i41_51, i41_52, i41_53, i41_54, i41_55, i41_56, i41_57, Bool.not_false, b_0, j55, k10, z_gm_s55]
    · rw [if_pos rfl]
      simp (disch := first | assumption | omega | decide) only [nI_add, n_mul, n_sub, n_le, n_lt, n_eq, n_ne1, n_0, m_bl_t, m_bl_f, if_true, if_false, Nat.reduceAdd, Nat.reduceMul, Nat.reduceSub, Nat.reduceLeDiff, Nat.reduceEqDiff, Nat.add_zero, Nat.add_sub_cancel, Option.toList, List.cons_append, List.nil_append, i41_49, i41_56, i41_57, Bool.not_true, b_0]
theorem w41_r (ht : 62 ≤ t) (hy : y ≤ 400) (h8 : I 55 8 = nI y) {F0 : Nat → Int32} : ∀ c i (w2 : Value), i + c = y → WP V 41 5 [.ref 55, .int (nI i), w2] [] t (z_gm I (e_f F0 (z_er (I 57)) (z_S (I 59)) i)) L (m_RR e a b) Q = Q none t (z_gm I (e_f F0 (z_er (I 57)) (z_S (I 59)) y)) L (m_RR e a b) := by
  intro c
  induction c with
  | zero =>
    intro i w2 hi
    obtain rfl : i = y := by omega
    have k55 : ∀ q : Nat × (Nat → Int32), z_gm I q 55 8 = nI i := fun q => by
      unfold z_gm; rw [m_sc_self, m_sc_ne (by omega)]; exact h8
    rw [i41_5]
    simp (disch := first | assumption | omega | decide) only [nI_add, n_mul, n_sub, n_le, n_lt, n_eq, n_ne1, n_0, m_bl_t, m_bl_f, if_true, if_false, Nat.reduceAdd, Nat.reduceMul, Nat.reduceSub, Nat.reduceLeDiff, Nat.reduceEqDiff, Nat.add_zero, Nat.add_sub_cancel, Option.toList, List.cons_append, List.nil_append, i41_6, i41_7, i41_8, i41_58, k55, Nat.le_refl]
  | succ c ih =>
    intro i w2 hi
    obtain ⟨w2', hw⟩ := w41_5 (V := V) (L := L) (e := e) (a := a) (b := b) (i := i) ht (by omega) hy h8 (q := e_f F0 (z_er (I 57)) (z_S (I 59)) i) (e_f_le i) trivial (w2 := w2)
    rw [hw Q]
    exact ih (i + 1) w2' (by omega)
theorem w41 (ht : 62 ≤ t) (hy : y ≤ 400) (h8 : I 55 8 = nI y) : WP V 41 0 (m_loc 41 [.ref 55]) [] t I L (m_RR e a b) Q = Q none t (z_gm I (e_f (I 61) (z_er (I 57)) (z_S (I 59)) y)) L (m_RR e a b) := by
  rw [show m_loc 41 [.ref 55] = [.ref 55, m_u, m_u] from rfl]
  have e1 := w41_r (V := V) (L := L) (e := e) (a := a) (b := b) (Q := Q) (F0 := I 61) ht hy h8 y 0 m_u (Nat.zero_add y)
  rw [← e1]
  simp (disch := first | assumption | omega | decide) only [nI_add, n_mul, n_sub, n_le, n_lt, n_eq, n_ne1, n_0, m_bl_t, m_bl_f, if_true, if_false, Nat.reduceAdd, Nat.reduceMul, Nat.reduceSub, Nat.reduceLeDiff, Nat.reduceEqDiff, Nat.add_zero, Nat.add_sub_cancel, Option.toList, List.cons_append, List.nil_append, i41_0, i41_1, i41_2, i41_3, i41_4]
  have e0 : z_gm I (e_f (I 61) (z_er (I 57)) (z_S (I 59)) 0) = m_sc I 55 (m_sc (I 55) 10 (nI 0)) := by
    unfold z_gm e_f
    dsimp only
    rw [s_sce]
  rw [e0]
theorem c41 (ht : 62 ≤ t) (hy : y ≤ 400) (h8 : I 55 8 = nI y) : WPC V 41 [.ref 55] m n ls st t I L (m_RR e a b) Q = WP V m n ls st t (z_gm I (e_f (I 61) (z_er (I 57)) (z_S (I 59)) y)) L (m_RR e a b) Q := wpc_of (fun Q => w41 ht hy h8)
end RBG
