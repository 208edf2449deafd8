/-! acts and codes: both -/
def z_beg (f : Nat → Int32) (u : Nat) : Nat := if f (3 + u) = nI 0 then 0 else 1
def c_begun (f : Nat → Int32) : Nat := z_beg f 0 + z_beg f 1 + z_beg f 2
def c_isb (v : Int32) (l : Nat) : Bool := decide (l = 0) || (decide (nI 0 ≤ v) && decide (v < nI l))
def c_fit (kk : Nat) (v1 v2 v3 : Int32) : Bool := c_isb v1 ((m_Bl 1000).getD kk 0) && (c_isb v2 ((m_Bl 1001).getD kk 0) && c_isb v3 ((m_Bl 1002).getD kk 0))
/-- the tables hold what they do -/
def tab_ok (V : m_V) : Prop := ∀ k j, 1000 ≤ k → k < 1003 → V.2 k j = nI ((m_Bl k).getD j 0)
section T58
variable {V : m_V} {t m n : Nat} {ls st : List Value} {I J : m_I} {f nn ww g h : Nat → Int32} {o : m_I} {L : m_L} {R : m_R} {e : Option Nat} {a b : Nat} {Q : Option Value → Nat → m_I → m_L → m_R → Prop} {u x k : Nat}
theorem w48_4 (ht : 55 ≤ t) {q x : Nat} (hq : q < 10) (hx : x < 3) : WP V 48 4 [.ref 1, .int (nI q), .int (nI x)] [] t I L (m_RR e a b) Q = WP V 48 4 [.ref 1, .int (nI (q + z_beg (I 2) x)), .int (nI (x + 1))] [] t I L (m_RR e a b) Q := by
  have hx3 : ¬ 3 ≤ x := by omega
  rw [i48_4]
  simp (disch := first | assumption | omega | decide) only [nI_add, n_mul, n_sub, n_le, n_lt, n_eq, n_ne1, n_0, m_bl_t, m_bl_f, if_true, if_false, Nat.reduceAdd, Nat.reduceMul, Nat.reduceSub, Nat.reduceLeDiff, Nat.reduceEqDiff, Nat.add_zero, Nat.add_sub_cancel, Option.toList, List.cons_append, List.nil_append, i48_5, i48_6, i48_7, i48_8, i48_9, i48_10, i48_11, i48_12, i48_13, i48_14, i48_15, i48_16, rv_13_0, rv_1_0, hx3]
  unfold z_beg
  by_cases h1 : I 2 (3 + x) = nI 0
  · simp only [h1, if_true, Nat.add_zero]
  · simp only [h1, if_false]
theorem w48 (ht : 55 ≤ t) : WP V 48 0 (m_loc 48 [.ref 1]) [] t I L (m_RR e a b) Q = Q (some (.int (nI (c_begun (I 2))))) t I L (m_RR e a b) := by
  rw [show m_loc 48 [.ref 1] = [.ref 1, m_u, m_u] from rfl]
  have z1 : ∀ u, z_beg (I 2) u ≤ 1 := fun u => by unfold z_beg; split <;> omega
  have y0 := z1 0
  have y1 := z1 1
  simp (disch := first | assumption | omega | decide) only [nI_add, n_mul, n_sub, n_le, n_lt, n_eq, n_ne1, n_0, m_bl_t, m_bl_f, if_true, if_false, Nat.reduceAdd, Nat.reduceMul, Nat.reduceSub, Nat.reduceLeDiff, Nat.reduceEqDiff, Nat.add_zero, Nat.add_sub_cancel, Option.toList, List.cons_append, List.nil_append, i48_0, i48_1, i48_2, i48_3]
  rw [w48_4 ht (by omega) (by omega), w48_4 ht (by have := z1 0; omega) (by omega), w48_4 ht (by have := z1 0; have := z1 (0 + 1); omega) (by omega), i48_4]
  simp (disch := first | assumption | omega | decide) only [nI_add, n_mul, n_sub, n_le, n_lt, n_eq, n_ne1, n_0, m_bl_t, m_bl_f, if_true, if_false, Nat.reduceAdd, Nat.reduceMul, Nat.reduceSub, Nat.reduceLeDiff, Nat.reduceEqDiff, Nat.add_zero, Nat.add_sub_cancel, Option.toList, List.cons_append, List.nil_append, i48_5, i48_6, i48_17, i48_18, Nat.zero_add, Nat.le_refl]
  rfl
theorem c48 (ht : 55 ≤ t) : WPC V 48 [.ref 1] m n ls st t I L (m_RR e a b) Q = WP V m n ls ((.int (nI (c_begun (I 2)))) :: st) t I L (m_RR e a b) Q := wpc_of (fun Q => w48 ht)
theorem w49 (ht : 55 ≤ t) : WP V 49 0 (m_loc 49 [.ref 1]) [] t I L (m_RR e a b) Q = Q (some (.int (m_bl (decide (0 < c_begun (I 2)))))) t I L (m_RR e a b) := by
  rw [show m_loc 49 [.ref 1] = [.ref 1] from rfl]
  have z1 : ∀ u, z_beg (I 2) u ≤ 1 := fun u => by unfold z_beg; split <;> omega
  have hb : c_begun (I 2) < 10 := by have := z1 0; have := z1 1; have := z1 2; unfold c_begun; omega
  simp (disch := first | assumption | omega | decide) only [nI_add, n_mul, n_sub, n_le, n_lt, n_eq, n_ne1, n_0, m_bl_t, m_bl_f, if_true, if_false, Nat.reduceAdd, Nat.reduceMul, Nat.reduceSub, Nat.reduceLeDiff, Nat.reduceEqDiff, Nat.add_zero, Nat.add_sub_cancel, Option.toList, List.cons_append, List.nil_append, i49_0, i49_1, i49_2, i49_3, i49_4, i49_5, i49_6, c48]
  by_cases h1 : c_begun (I 2) = 0
  · simp [h1, m_bl]
  · have h2 : 0 < c_begun (I 2) := by omega
    have h3 : ¬ c_begun (I 2) ≤ 0 := by omega
    simp only [h2, h3, if_false, decide_true, m_bl_t]
theorem c49 (ht : 55 ≤ t) : WPC V 49 [.ref 1] m n ls st t I L (m_RR e a b) Q = WP V m n ls ((.int (m_bl (decide (0 < c_begun (I 2))))) :: st) t I L (m_RR e a b) Q := wpc_of (fun Q => w49 ht)
def d_fr (g : Nat → Int32) : Bool := decide (g 150 = nI 0) && (decide (g 304 = nI 0) && decide (g 458 = nI 0))
theorem w119_4 (ht : 55 ≤ t) {q : Bool} {x : Nat} (hx : x < 3) : WP V 119 4 [.ref 27, .int (m_bl q), .int (nI x)] [] t I L (m_RR e 28 b) Q = WP V 119 4 [.ref 27, .int (m_bl (q && decide (I 28 (150 + 154 * x) = nI 0))), .int (nI (x + 1))] [] t I L (m_RR e 28 b) Q := by
  have hx3 : ¬ 3 ≤ x := by omega
  have hA : m_ar 28 2 612 = true := by decide
  rw [i119_4]
  simp (disch := first | assumption | omega | decide) only [nI_add, n_mul, n_sub, n_le, n_lt, n_eq, n_ne1, n_0, m_bl_t, m_bl_f, if_true, if_false, Nat.reduceAdd, Nat.reduceMul, Nat.reduceSub, Nat.reduceLeDiff, Nat.reduceEqDiff, Nat.add_zero, Nat.add_sub_cancel, Option.toList, List.cons_append, List.nil_append, i119_5, i119_6, i119_7, i119_8, hx3, b_0]
  cases q
  · simp (disch := first | assumption | omega | decide) only [nI_add, n_mul, n_sub, n_le, n_lt, n_eq, n_ne1, n_0, m_bl_t, m_bl_f, if_true, if_false, Nat.reduceAdd, Nat.reduceMul, Nat.reduceSub, Nat.reduceLeDiff, Nat.reduceEqDiff, Nat.add_zero, Nat.add_sub_cancel, Option.toList, List.cons_append, List.nil_append, i119_19, i119_20, i119_21, i119_22, Bool.false_and, m_bl_f]
  · simp (disch := first | assumption | omega | decide) only [nI_add, n_mul, n_sub, n_le, n_lt, n_eq, n_ne1, n_0, m_bl_t, m_bl_f, if_true, if_false, Nat.reduceAdd, Nat.reduceMul, Nat.reduceSub, Nat.reduceLeDiff, Nat.reduceEqDiff, Nat.add_zero, Nat.add_sub_cancel, Option.toList, List.cons_append, List.nil_append, Bool.true_eq_false, i119_9, i119_10, i119_11, i119_12, i119_13, i119_14, i119_15, i119_16, rv_27_0, c113, Bool.true_and]
    by_cases h1 : I 28 (150 + 154 * x) = nI 0
    · simp (disch := first | assumption | omega | decide) only [nI_add, n_mul, n_sub, n_le, n_lt, n_eq, n_ne1, n_0, m_bl_t, m_bl_f, if_true, if_false, Nat.reduceAdd, Nat.reduceMul, Nat.reduceSub, Nat.reduceLeDiff, Nat.reduceEqDiff, Nat.add_zero, Nat.add_sub_cancel, Option.toList, List.cons_append, List.nil_append, h1, i119_17, i119_18, i119_19, i119_20, i119_21, i119_22, decide_true, m_bl_t]
    · simp (disch := first | assumption | omega | decide) only [nI_add, n_mul, n_sub, n_le, n_lt, n_eq, n_ne1, n_0, m_bl_t, m_bl_f, if_true, if_false, Nat.reduceAdd, Nat.reduceMul, Nat.reduceSub, Nat.reduceLeDiff, Nat.reduceEqDiff, Nat.add_zero, Nat.add_sub_cancel, Option.toList, List.cons_append, List.nil_append, h1, i119_17, i119_18, i119_19, i119_20, i119_21, i119_22, decide_false, m_bl_f]
theorem w119 (ht : 55 ≤ t) : WP V 119 0 (m_loc 119 [.ref 27]) [] t I L (m_RR e 28 b) Q = Q (some (.int (m_bl (d_fr (I 28))))) t I L (m_RR e 28 b) := by
  rw [show m_loc 119 [.ref 27] = [.ref 27, m_u, m_u] from rfl]
  simp (disch := first | assumption | omega | decide) only [nI_add, n_mul, n_sub, n_le, n_lt, n_eq, n_ne1, n_0, m_bl_t, m_bl_f, if_true, if_false, Nat.reduceAdd, Nat.reduceMul, Nat.reduceSub, Nat.reduceLeDiff, Nat.reduceEqDiff, Nat.add_zero, Nat.add_sub_cancel, Option.toList, List.cons_append, List.nil_append, i119_0, i119_1, i119_2, i119_3]
  rw [show (nI 1) = m_bl true from rfl, w119_4 ht (by omega), w119_4 ht (by omega), w119_4 ht (by omega), i119_4]
  simp (disch := first | assumption | omega | decide) only [nI_add, n_mul, n_sub, n_le, n_lt, n_eq, n_ne1, n_0, m_bl_t, m_bl_f, if_true, if_false, Nat.reduceAdd, Nat.reduceMul, Nat.reduceSub, Nat.reduceLeDiff, Nat.reduceEqDiff, Nat.add_zero, Nat.add_sub_cancel, Option.toList, List.cons_append, List.nil_append, i119_5, i119_6, i119_23, Nat.le_refl, Nat.zero_add, Nat.mul_zero, Nat.mul_one]
  rw [i119_24 (m_01_bl _)]
  unfold d_fr
  rw [Bool.true_and, Bool.and_assoc]
theorem c119 (ht : 55 ≤ t) : WPC V 119 [.ref 27] m n ls st t I L (m_RR e 28 b) Q = WP V m n ls ((.int (m_bl (d_fr (I 28)))) :: st) t I L (m_RR e 28 b) Q := wpc_of (fun Q => w119 ht)
theorem w120 {v : Int32} : WP V 120 0 (m_loc 120 [.int v]) [] t I L R Q = Q (some (.int (m_bl (d_in v (nI 0) (nI 3))))) t I L R := by
  rw [show m_loc 120 [.int v] = [.int v] from rfl]
  simp (disch := first | assumption | omega | decide) only [i120_0, i120_1, i120_2, i120_3, c111, Option.toList, List.cons_append, List.nil_append]
  rw [i120_4 (m_01_bl _)]
theorem c120 {v : Int32} : WPC V 120 [.int v] m n ls st t I L R Q = WP V m n ls ((.int (m_bl (d_in v (nI 0) (nI 3)))) :: st) t I L R Q := wpc_of (fun Q => w120 )
theorem w121 {v : Int32} : WP V 121 0 (m_loc 121 [.int v]) [] t I L R Q = Q (some (.int (m_bl (d_in v (nI 0) (nI 7))))) t I L R := by
  rw [show m_loc 121 [.int v] = [.int v] from rfl]
  simp (disch := first | assumption | omega | decide) only [i121_0, i121_1, i121_2, i121_3, c111, Option.toList, List.cons_append, List.nil_append]
  rw [i121_4 (m_01_bl _)]
theorem c121 {v : Int32} : WPC V 121 [.int v] m n ls st t I L R Q = WP V m n ls ((.int (m_bl (d_in v (nI 0) (nI 7)))) :: st) t I L R Q := wpc_of (fun Q => w121 )
theorem w123 {v : Int32} : WP V 123 0 (m_loc 123 [.int v]) [] t I L R Q = Q (some (.int (m_bl (d_in v (nI 0) (nI 40))))) t I L R := by
  rw [show m_loc 123 [.int v] = [.int v] from rfl]
  simp (disch := first | assumption | omega | decide) only [i123_0, i123_1, i123_2, i123_3, c111, Option.toList, List.cons_append, List.nil_append]
  rw [i123_4 (m_01_bl _)]
theorem c123 {v : Int32} : WPC V 123 [.int v] m n ls st t I L R Q = WP V m n ls ((.int (m_bl (d_in v (nI 0) (nI 40)))) :: st) t I L R Q := wpc_of (fun Q => w123 )
theorem w2 {v : Int32} {l : Nat} (hl : l < 1000) : WP V 2 0 (m_loc 2 [.int v, .int (nI l)]) [] t I L R Q = Q (some (.int (m_bl (c_isb v l)))) t I L R := by
  rw [show m_loc 2 [.int v, .int (nI l)] = [.int v, .int (nI l)] from rfl]
  unfold c_isb
  by_cases h0 : l = 0
  · subst h0
    simp (disch := first | assumption | omega | decide) only [nI_add, n_mul, n_sub, n_le, n_lt, n_eq, n_ne1, n_0, m_bl_t, m_bl_f, if_true, if_false, Nat.reduceAdd, Nat.reduceMul, Nat.reduceSub, Nat.reduceLeDiff, Nat.reduceEqDiff, Nat.add_zero, Nat.add_sub_cancel, Option.toList, List.cons_append, List.nil_append, i2_0, i2_1, i2_6, i2_7, i2_8, i2_9, decide_true, Bool.true_or, m_bl_t]
  · simp (disch := first | assumption | omega | decide) only [nI_add, n_mul, n_sub, n_le, n_lt, n_eq, n_ne1, n_0, m_bl_t, m_bl_f, if_true, if_false, Nat.reduceAdd, Nat.reduceMul, Nat.reduceSub, Nat.reduceLeDiff, Nat.reduceEqDiff, Nat.add_zero, Nat.add_sub_cancel, Option.toList, List.cons_append, List.nil_append, i2_0, i2_1, i2_2, i2_3, i2_4, i2_5, h0, c109, b_0, decide_false, Bool.false_or]
    cases h1 : (decide (nI 0 ≤ v) && decide (v < nI l))
    · simp (disch := first | assumption | omega | decide) only [nI_add, n_mul, n_sub, n_le, n_lt, n_eq, n_ne1, n_0, m_bl_t, m_bl_f, if_true, if_false, Nat.reduceAdd, Nat.reduceMul, Nat.reduceSub, Nat.reduceLeDiff, Nat.reduceEqDiff, Nat.add_zero, Nat.add_sub_cancel, Option.toList, List.cons_append, List.nil_append, i2_8, i2_9, m_bl_f]
    · simp (disch := first | assumption | omega | decide) only [nI_add, n_mul, n_sub, n_le, n_lt, n_eq, n_ne1, n_0, m_bl_t, m_bl_f, if_true, if_false, Nat.reduceAdd, Nat.reduceMul, Nat.reduceSub, Nat.reduceLeDiff, Nat.reduceEqDiff, Nat.add_zero, Nat.add_sub_cancel, Option.toList, List.cons_append, List.nil_append, Bool.true_eq_false, i2_6, i2_7, i2_8, i2_9, m_bl_t]
theorem c2 {v : Int32} {l : Nat} (hl : l < 1000) : WPC V 2 [.int v, .int (nI l)] m n ls st t I L R Q = WP V m n ls ((.int (m_bl (c_isb v l))) :: st) t I L R Q := wpc_of (fun Q => w2 hl)
theorem wp_tlen {m n pc len a b : Nat} {l : List Nat} (hf : (m_tb m)[n]? = some (pc, .arraylength, len, a, b, l)) : WP V m n ls (.ref 1000 :: st) t I L R Q = WP V m (n + 1) ls (.int (nI 22) :: st) t I L R Q := by
  refine wp_go ?_
  simp only [m_nx, hf, m_alu, m_lcl, m_br, m_mem]
  rw [if_pos ⟨Or.inr (by decide), by decide⟩]
  rfl
theorem i1_4t : WP V 1 4 ls (.ref 1000 :: st) t I L R Q = WP V 1 5 ls (.int (nI 22) :: st) t I L R Q := wp_tlen rfl
theorem m_Bl_lt {T kk : Nat} (hT : T = 1000 ∨ T = 1001 ∨ T = 1002) : (m_Bl T).getD kk 0 < 1000 := by
  have hall : ∀ l : List Nat, (∀ z ∈ l, z < 1000) → l.getD kk 0 < 1000 := by
    intro l hl
    rw [List.getD_eq_getElem?_getD]
    cases hq : l[kk]? with
    | none => decide
    | some z => exact hl z (List.mem_of_getElem? hq)
  refine hall _ ?_
  rcases hT with rfl | rfl | rfl <;> decide
theorem w1 (hV : tab_ok V) {v1 v2 v3 : Int32} {kk : Nat} (hk : kk < 22) : WP V 1 0 (m_loc 1 [.int (nI kk), .int v1, .int v2, .int v3]) [] t I L R Q = Q (some (.int (m_bl (c_fit kk v1 v2 v3)))) t I L R := by
  rw [show m_loc 1 [.int (nI kk), .int v1, .int v2, .int v3] = [.int (nI kk), .int v1, .int v2, .int v3] from rfl]
  have k0 : ¬ kk < 0 := by omega
  have k22 : ¬ 22 ≤ kk := by omega
  have b0 := m_Bl_lt (T := 1000) (kk := kk) (by omega)
  have b1 := m_Bl_lt (T := 1001) (kk := kk) (by omega)
  have b2 := m_Bl_lt (T := 1002) (kk := kk) (by omega)
  have e0 := hV 1000 kk (by omega) (by omega)
  have e1 := hV 1001 kk (by omega) (by omega)
  have e2 := hV 1002 kk (by omega) (by omega)
  simp (disch := first | assumption | omega | decide) only [nI_add, n_mul, n_sub, n_le, n_lt, n_eq, n_ne1, n_0, m_bl_t, m_bl_f, if_true, if_false, Nat.reduceAdd, Nat.reduceMul, Nat.reduceSub, Nat.reduceLeDiff, Nat.reduceEqDiff, Nat.add_zero, Nat.add_sub_cancel, Option.toList, List.cons_append, List.nil_append, i1_0, i1_1, i1_2, i1_3, i1_4t, i1_5, k0, k22, i1_6, i1_7, i1_8, i1_9, i1_10, i1_11, e0, c2, b_0]
  unfold c_fit
  cases h1 : c_isb v1 ((m_Bl 1000).getD kk 0)
  · simp (disch := first | assumption | omega | decide) only [nI_add, n_mul, n_sub, n_le, n_lt, n_eq, n_ne1, n_0, m_bl_t, m_bl_f, if_true, if_false, Nat.reduceAdd, Nat.reduceMul, Nat.reduceSub, Nat.reduceLeDiff, Nat.reduceEqDiff, Nat.add_zero, Nat.add_sub_cancel, Option.toList, List.cons_append, List.nil_append, i1_26, i1_27, Bool.false_and, m_bl_f]
  · simp (disch := first | assumption | omega | decide) only [nI_add, n_mul, n_sub, n_le, n_lt, n_eq, n_ne1, n_0, m_bl_t, m_bl_f, if_true, if_false, Nat.reduceAdd, Nat.reduceMul, Nat.reduceSub, Nat.reduceLeDiff, Nat.reduceEqDiff, Nat.add_zero, Nat.add_sub_cancel, Option.toList, List.cons_append, List.nil_append, Bool.true_eq_false, i1_12, i1_13, i1_14, i1_15, i1_16, i1_17, e1, c2, b_0, Bool.true_and]
    cases h2 : c_isb v2 ((m_Bl 1001).getD kk 0)
    · simp (disch := first | assumption | omega | decide) only [nI_add, n_mul, n_sub, n_le, n_lt, n_eq, n_ne1, n_0, m_bl_t, m_bl_f, if_true, if_false, Nat.reduceAdd, Nat.reduceMul, Nat.reduceSub, Nat.reduceLeDiff, Nat.reduceEqDiff, Nat.add_zero, Nat.add_sub_cancel, Option.toList, List.cons_append, List.nil_append, i1_26, i1_27, Bool.false_and, m_bl_f]
    · simp (disch := first | assumption | omega | decide) only [nI_add, n_mul, n_sub, n_le, n_lt, n_eq, n_ne1, n_0, m_bl_t, m_bl_f, if_true, if_false, Nat.reduceAdd, Nat.reduceMul, Nat.reduceSub, Nat.reduceLeDiff, Nat.reduceEqDiff, Nat.add_zero, Nat.add_sub_cancel, Option.toList, List.cons_append, List.nil_append, Bool.true_eq_false, i1_18, i1_19, i1_20, i1_21, i1_22, i1_23, e2, c2, b_0, Bool.true_and]
      cases h3 : c_isb v3 ((m_Bl 1002).getD kk 0)
      · simp (disch := first | assumption | omega | decide) only [nI_add, n_mul, n_sub, n_le, n_lt, n_eq, n_ne1, n_0, m_bl_t, m_bl_f, if_true, if_false, Nat.reduceAdd, Nat.reduceMul, Nat.reduceSub, Nat.reduceLeDiff, Nat.reduceEqDiff, Nat.add_zero, Nat.add_sub_cancel, Option.toList, List.cons_append, List.nil_append, i1_26, i1_27, m_bl_f]
      · simp (disch := first | assumption | omega | decide) only [nI_add, n_mul, n_sub, n_le, n_lt, n_eq, n_ne1, n_0, m_bl_t, m_bl_f, if_true, if_false, Nat.reduceAdd, Nat.reduceMul, Nat.reduceSub, Nat.reduceLeDiff, Nat.reduceEqDiff, Nat.add_zero, Nat.add_sub_cancel, Option.toList, List.cons_append, List.nil_append, Bool.true_eq_false, i1_24, i1_25, i1_26, i1_27, m_bl_t]
theorem c1 (hV : tab_ok V) {v1 v2 v3 : Int32} {kk : Nat} (hk : kk < 22) : WPC V 1 [.int (nI kk), .int v1, .int v2, .int v3] m n ls st t I L R Q = WP V m n ls ((.int (m_bl (c_fit kk v1 v2 v3))) :: st) t I L R Q := wpc_of (fun Q => w1 hV hk)
theorem w1o {v v1 v2 v3 : Int32} (hk : d_in v (nI 0) (nI 21) = false) : WP V 1 0 (m_loc 1 [.int v, .int v1, .int v2, .int v3]) [] t I L R Q = Q (some (.int (nI 0))) t I L R := by
  rw [show m_loc 1 [.int v, .int v1, .int v2, .int v3] = [.int v, .int v1, .int v2, .int v3] from rfl]
  by_cases h0 : v < nI 0
  · simp (disch := first | assumption | omega | decide) only [nI_add, n_mul, n_sub, n_le, n_lt, n_eq, n_ne1, n_0, m_bl_t, m_bl_f, if_true, if_false, Nat.reduceAdd, Nat.reduceMul, Nat.reduceSub, Nat.reduceLeDiff, Nat.reduceEqDiff, Nat.add_zero, Nat.add_sub_cancel, Option.toList, List.cons_append, List.nil_append, i1_0, i1_1, h0, i1_26, i1_27]
  · have h2 : nI 22 ≤ v := by
      have := (n_inx (m := 21) (by omega) v).1
      rw [hk, decide_eq_true (Int32.not_lt.mp h0), Bool.true_and] at this
      exact Int32.not_lt.mp (of_decide_eq_false this.symm)
    simp (disch := first | assumption | omega | decide) only [nI_add, n_mul, n_sub, n_le, n_lt, n_eq, n_ne1, n_0, m_bl_t, m_bl_f, if_true, if_false, Nat.reduceAdd, Nat.reduceMul, Nat.reduceSub, Nat.reduceLeDiff, Nat.reduceEqDiff, Nat.add_zero, Nat.add_sub_cancel, Option.toList, List.cons_append, List.nil_append, i1_0, i1_1, i1_2, i1_3, i1_4t, i1_5, h0, h2, i1_26, i1_27]
theorem c1o {v v1 v2 v3 : Int32} (hk : d_in v (nI 0) (nI 21) = false) : WPC V 1 [.int v, .int v1, .int v2, .int v3] m n ls st t I L R Q = WP V m n ls ((.int (nI 0)) :: st) t I L R Q := wpc_of (fun Q => w1o hk)
theorem c_isb_in {v : Int32} {l : Nat} (hl : l + 1 < 1000) : c_isb v (l + 1) = d_in v (nI 0) (nI l) := by
  unfold c_isb
  rw [decide_eq_false (Nat.succ_ne_zero l), Bool.false_or, (n_inx (m := l) (by omega) v).1]
theorem c_isb_0 {v : Int32} : c_isb v 0 = true := rfl
theorem w124 {v1 v2 v3 : Int32} {kk : Nat} (hk : kk < 22) : WP V 124 0 (m_loc 124 [.int (nI kk), .int v1, .int v2, .int v3]) [] t I L R Q = Q (some (.int (m_bl (c_fit kk v1 v2 v3)))) t I L R := by
  rw [show m_loc 124 [.int (nI kk), .int v1, .int v2, .int v3] = [.int (nI kk), .int v1, .int v2, .int v3] from rfl]
  have B : ∀ T kk : Nat, ∀ z : Nat, (m_Bl T).getD kk 0 = z → (m_Bl T).getD kk 0 = z := fun _ _ _ h => h
  rw [i124_0]
  obtain rfl | rfl | rfl | rfl | rfl | rfl | rfl | rfl | rfl | rfl | rfl | rfl | rfl | rfl | rfl | rfl | rfl | rfl | rfl | rfl | rfl | rfl : kk = 0 ∨ kk = 1 ∨ kk = 2 ∨ kk = 3 ∨ kk = 4 ∨ kk = 5 ∨ kk = 6 ∨ kk = 7 ∨ kk = 8 ∨ kk = 9 ∨ kk = 10 ∨ kk = 11 ∨ kk = 12 ∨ kk = 13 ∨ kk = 14 ∨ kk = 15 ∨ kk = 16 ∨ kk = 17 ∨ kk = 18 ∨ kk = 19 ∨ kk = 20 ∨ kk = 21 := by omega
  -- one place
  · rw [show c_fit 0 v1 v2 v3 = c_isb v1 4 from Bool.and_true _, c_isb_in (by omega)]
    simp (disch := first | assumption | omega | decide) only [nI_add, n_mul, n_sub, n_le, n_lt, n_eq, n_ne1, n_0, m_bl_t, m_bl_f, if_true, if_false, Nat.reduceAdd, Nat.reduceMul, Nat.reduceSub, Nat.reduceLeDiff, Nat.reduceEqDiff, Nat.add_zero, Nat.add_sub_cancel, Option.toList, List.cons_append, List.nil_append, i124_1s0, i124_2, i124_3, c120]
    rw [i124_4 (m_01_bl _)]
  · rw [show c_fit 1 v1 v2 v3 = (c_isb v1 4 && c_isb v2 4) by show (c_isb v1 4 && (c_isb v2 4 && true)) = _; rw [Bool.and_true], c_isb_in (by omega), c_isb_in (by omega)]
    simp (disch := first | assumption | omega | decide) only [nI_add, n_mul, n_sub, n_le, n_lt, n_eq, n_ne1, n_0, m_bl_t, m_bl_f, if_true, if_false, Nat.reduceAdd, Nat.reduceMul, Nat.reduceSub, Nat.reduceLeDiff, Nat.reduceEqDiff, Nat.add_zero, Nat.add_sub_cancel, Option.toList, List.cons_append, List.nil_append, i124_1s1, i124_5, i124_6, i124_7, c120, b_0]
    cases q1 : d_in v1 (nI 0) (nI 3) <;> cases q2 : d_in v2 (nI 0) (nI 3) <;> simp (disch := first | assumption | omega | decide) only [nI_add, n_mul, n_sub, n_le, n_lt, n_eq, n_ne1, n_0, m_bl_t, m_bl_f, if_true, if_false, Nat.reduceAdd, Nat.reduceMul, Nat.reduceSub, Nat.reduceLeDiff, Nat.reduceEqDiff, Nat.add_zero, Nat.add_sub_cancel, Option.toList, List.cons_append, List.nil_append, i124_8, i124_9, i124_10, i124_11, i124_12, i124_13, i124_14, c120, b_0, q2, Bool.true_eq_false, Bool.and_self, Bool.and_true, Bool.and_false, Bool.true_and, Bool.false_and, m_bl_t, m_bl_f]
  · rw [show c_fit 2 v1 v2 v3 = (c_isb v1 4 && c_isb v2 4) by show (c_isb v1 4 && (c_isb v2 4 && true)) = _; rw [Bool.and_true], c_isb_in (by omega), c_isb_in (by omega)]
    simp (disch := first | assumption | omega | decide) only [nI_add, n_mul, n_sub, n_le, n_lt, n_eq, n_ne1, n_0, m_bl_t, m_bl_f, if_true, if_false, Nat.reduceAdd, Nat.reduceMul, Nat.reduceSub, Nat.reduceLeDiff, Nat.reduceEqDiff, Nat.add_zero, Nat.add_sub_cancel, Option.toList, List.cons_append, List.nil_append, i124_1s2, i124_5, i124_6, i124_7, c120, b_0]
    cases q1 : d_in v1 (nI 0) (nI 3) <;> cases q2 : d_in v2 (nI 0) (nI 3) <;> simp (disch := first | assumption | omega | decide) only [nI_add, n_mul, n_sub, n_le, n_lt, n_eq, n_ne1, n_0, m_bl_t, m_bl_f, if_true, if_false, Nat.reduceAdd, Nat.reduceMul, Nat.reduceSub, Nat.reduceLeDiff, Nat.reduceEqDiff, Nat.add_zero, Nat.add_sub_cancel, Option.toList, List.cons_append, List.nil_append, i124_8, i124_9, i124_10, i124_11, i124_12, i124_13, i124_14, c120, b_0, q2, Bool.true_eq_false, Bool.and_self, Bool.and_true, Bool.and_false, Bool.true_and, Bool.false_and, m_bl_t, m_bl_f]
  · rw [show c_fit 3 v1 v2 v3 = (c_isb v1 4 && c_isb v2 4) by show (c_isb v1 4 && (c_isb v2 4 && true)) = _; rw [Bool.and_true], c_isb_in (by omega), c_isb_in (by omega)]
    simp (disch := first | assumption | omega | decide) only [nI_add, n_mul, n_sub, n_le, n_lt, n_eq, n_ne1, n_0, m_bl_t, m_bl_f, if_true, if_false, Nat.reduceAdd, Nat.reduceMul, Nat.reduceSub, Nat.reduceLeDiff, Nat.reduceEqDiff, Nat.add_zero, Nat.add_sub_cancel, Option.toList, List.cons_append, List.nil_append, i124_1s3, i124_5, i124_6, i124_7, c120, b_0]
    cases q1 : d_in v1 (nI 0) (nI 3) <;> cases q2 : d_in v2 (nI 0) (nI 3) <;> simp (disch := first | assumption | omega | decide) only [nI_add, n_mul, n_sub, n_le, n_lt, n_eq, n_ne1, n_0, m_bl_t, m_bl_f, if_true, if_false, Nat.reduceAdd, Nat.reduceMul, Nat.reduceSub, Nat.reduceLeDiff, Nat.reduceEqDiff, Nat.add_zero, Nat.add_sub_cancel, Option.toList, List.cons_append, List.nil_append, i124_8, i124_9, i124_10, i124_11, i124_12, i124_13, i124_14, c120, b_0, q2, Bool.true_eq_false, Bool.and_self, Bool.and_true, Bool.and_false, Bool.true_and, Bool.false_and, m_bl_t, m_bl_f]
  · rw [show c_fit 4 v1 v2 v3 = (c_isb v1 4 && c_isb v2 8) by show (c_isb v1 4 && (c_isb v2 8 && true)) = _; rw [Bool.and_true], c_isb_in (by omega), c_isb_in (by omega)]
    simp (disch := first | assumption | omega | decide) only [nI_add, n_mul, n_sub, n_le, n_lt, n_eq, n_ne1, n_0, m_bl_t, m_bl_f, if_true, if_false, Nat.reduceAdd, Nat.reduceMul, Nat.reduceSub, Nat.reduceLeDiff, Nat.reduceEqDiff, Nat.add_zero, Nat.add_sub_cancel, Option.toList, List.cons_append, List.nil_append, i124_1s4, i124_15, i124_16, i124_17, c120, b_0]
    cases q1 : d_in v1 (nI 0) (nI 3) <;> cases q2 : d_in v2 (nI 0) (nI 7) <;> simp (disch := first | assumption | omega | decide) only [nI_add, n_mul, n_sub, n_le, n_lt, n_eq, n_ne1, n_0, m_bl_t, m_bl_f, if_true, if_false, Nat.reduceAdd, Nat.reduceMul, Nat.reduceSub, Nat.reduceLeDiff, Nat.reduceEqDiff, Nat.add_zero, Nat.add_sub_cancel, Option.toList, List.cons_append, List.nil_append, i124_18, i124_19, i124_20, i124_21, i124_22, i124_23, i124_24, c121, b_0, q2, Bool.true_eq_false, Bool.and_self, Bool.and_true, Bool.and_false, Bool.true_and, Bool.false_and, m_bl_t, m_bl_f]
  · rw [show c_fit 5 v1 v2 v3 = (c_isb v1 8 && c_isb v2 4) by show (c_isb v1 8 && (c_isb v2 4 && true)) = _; rw [Bool.and_true], c_isb_in (by omega), c_isb_in (by omega)]
    simp (disch := first | assumption | omega | decide) only [nI_add, n_mul, n_sub, n_le, n_lt, n_eq, n_ne1, n_0, m_bl_t, m_bl_f, if_true, if_false, Nat.reduceAdd, Nat.reduceMul, Nat.reduceSub, Nat.reduceLeDiff, Nat.reduceEqDiff, Nat.add_zero, Nat.add_sub_cancel, Option.toList, List.cons_append, List.nil_append, i124_1s5, i124_25, i124_26, i124_27, c121, b_0]
    cases q1 : d_in v1 (nI 0) (nI 7) <;> cases q2 : d_in v2 (nI 0) (nI 3) <;> simp (disch := first | assumption | omega | decide) only [nI_add, n_mul, n_sub, n_le, n_lt, n_eq, n_ne1, n_0, m_bl_t, m_bl_f, if_true, if_false, Nat.reduceAdd, Nat.reduceMul, Nat.reduceSub, Nat.reduceLeDiff, Nat.reduceEqDiff, Nat.add_zero, Nat.add_sub_cancel, Option.toList, List.cons_append, List.nil_append, i124_28, i124_29, i124_30, i124_31, i124_32, i124_33, i124_34, c120, b_0, q2, Bool.true_eq_false, Bool.and_self, Bool.and_true, Bool.and_false, Bool.true_and, Bool.false_and, m_bl_t, m_bl_f]
  · rw [show c_fit 6 v1 v2 v3 = (c_isb v1 8 && c_isb v2 6) by show (c_isb v1 8 && (c_isb v2 6 && true)) = _; rw [Bool.and_true], c_isb_in (by omega), c_isb_in (by omega)]
    simp (disch := first | assumption | omega | decide) only [nI_add, n_mul, n_sub, n_le, n_lt, n_eq, n_ne1, n_0, m_bl_t, m_bl_f, if_true, if_false, Nat.reduceAdd, Nat.reduceMul, Nat.reduceSub, Nat.reduceLeDiff, Nat.reduceEqDiff, Nat.add_zero, Nat.add_sub_cancel, Option.toList, List.cons_append, List.nil_append, i124_1s6, i124_35, i124_36, i124_37, c121, b_0]
    cases q1 : d_in v1 (nI 0) (nI 7) <;> cases q2 : d_in v2 (nI 0) (nI 5) <;> simp (disch := first | assumption | omega | decide) only [nI_add, n_mul, n_sub, n_le, n_lt, n_eq, n_ne1, n_0, m_bl_t, m_bl_f, if_true, if_false, Nat.reduceAdd, Nat.reduceMul, Nat.reduceSub, Nat.reduceLeDiff, Nat.reduceEqDiff, Nat.add_zero, Nat.add_sub_cancel, Option.toList, List.cons_append, List.nil_append, i124_38, i124_39, i124_40, i124_41, i124_42, i124_43, i124_44, i124_45, i124_46, c111, b_0, q2, Bool.true_eq_false, Bool.and_self, Bool.and_true, Bool.and_false, Bool.true_and, Bool.false_and, m_bl_t, m_bl_f]
  · rw [show c_fit 7 v1 v2 v3 = c_isb v1 8 from Bool.and_true _, c_isb_in (by omega)]
    simp (disch := first | assumption | omega | decide) only [nI_add, n_mul, n_sub, n_le, n_lt, n_eq, n_ne1, n_0, m_bl_t, m_bl_f, if_true, if_false, Nat.reduceAdd, Nat.reduceMul, Nat.reduceSub, Nat.reduceLeDiff, Nat.reduceEqDiff, Nat.add_zero, Nat.add_sub_cancel, Option.toList, List.cons_append, List.nil_append, i124_1s7, i124_47, i124_48, c121]
    rw [i124_49 (m_01_bl _)]
  · rw [show c_fit 8 v1 v2 v3 = (c_isb v1 4 && (c_isb v2 8 && c_isb v3 4)) from rfl, c_isb_in (by omega), c_isb_in (by omega), c_isb_in (by omega)]
    simp (disch := first | assumption | omega | decide) only [nI_add, n_mul, n_sub, n_le, n_lt, n_eq, n_ne1, n_0, m_bl_t, m_bl_f, if_true, if_false, Nat.reduceAdd, Nat.reduceMul, Nat.reduceSub, Nat.reduceLeDiff, Nat.reduceEqDiff, Nat.add_zero, Nat.add_sub_cancel, Option.toList, List.cons_append, List.nil_append, i124_1s8, i124_50, i124_51, i124_52, c120, b_0]
    cases q1 : d_in v1 (nI 0) (nI 3) <;> cases q2 : d_in v2 (nI 0) (nI 7) <;> cases q3 : d_in v3 (nI 0) (nI 3) <;> simp (disch := first | assumption | omega | decide) only [nI_add, n_mul, n_sub, n_le, n_lt, n_eq, n_ne1, n_0, m_bl_t, m_bl_f, if_true, if_false, Nat.reduceAdd, Nat.reduceMul, Nat.reduceSub, Nat.reduceLeDiff, Nat.reduceEqDiff, Nat.add_zero, Nat.add_sub_cancel, Option.toList, List.cons_append, List.nil_append, i124_53, i124_54, i124_55, i124_56, i124_57, i124_58, i124_59, i124_60, i124_61, i124_62, c121, c120, b_0, q2, q3, Bool.true_eq_false, Bool.and_self, Bool.and_true, Bool.and_false, Bool.true_and, Bool.false_and, m_bl_t, m_bl_f]
  · rw [show c_fit 9 v1 v2 v3 = c_isb v1 41 from Bool.and_true _, c_isb_in (by omega)]
    simp (disch := first | assumption | omega | decide) only [nI_add, n_mul, n_sub, n_le, n_lt, n_eq, n_ne1, n_0, m_bl_t, m_bl_f, if_true, if_false, Nat.reduceAdd, Nat.reduceMul, Nat.reduceSub, Nat.reduceLeDiff, Nat.reduceEqDiff, Nat.add_zero, Nat.add_sub_cancel, Option.toList, List.cons_append, List.nil_append, i124_1s9, i124_63, i124_64, c123]
    rw [i124_65 (m_01_bl _)]
  · rw [show c_fit 10 v1 v2 v3 = (c_isb v1 4 && c_isb v2 41) by show (c_isb v1 4 && (c_isb v2 41 && true)) = _; rw [Bool.and_true], c_isb_in (by omega), c_isb_in (by omega)]
    simp (disch := first | assumption | omega | decide) only [nI_add, n_mul, n_sub, n_le, n_lt, n_eq, n_ne1, n_0, m_bl_t, m_bl_f, if_true, if_false, Nat.reduceAdd, Nat.reduceMul, Nat.reduceSub, Nat.reduceLeDiff, Nat.reduceEqDiff, Nat.add_zero, Nat.add_sub_cancel, Option.toList, List.cons_append, List.nil_append, i124_1s10, i124_66, i124_67, i124_68, c120, b_0]
    cases q1 : d_in v1 (nI 0) (nI 3) <;> cases q2 : d_in v2 (nI 0) (nI 40) <;> simp (disch := first | assumption | omega | decide) only [nI_add, n_mul, n_sub, n_le, n_lt, n_eq, n_ne1, n_0, m_bl_t, m_bl_f, if_true, if_false, Nat.reduceAdd, Nat.reduceMul, Nat.reduceSub, Nat.reduceLeDiff, Nat.reduceEqDiff, Nat.add_zero, Nat.add_sub_cancel, Option.toList, List.cons_append, List.nil_append, i124_69, i124_70, i124_71, i124_72, i124_73, i124_74, i124_75, c123, b_0, q2, Bool.true_eq_false, Bool.and_self, Bool.and_true, Bool.and_false, Bool.true_and, Bool.false_and, m_bl_t, m_bl_f]
  · rw [show c_fit 11 v1 v2 v3 = c_isb v1 4 from Bool.and_true _, c_isb_in (by omega)]
    simp (disch := first | assumption | omega | decide) only [nI_add, n_mul, n_sub, n_le, n_lt, n_eq, n_ne1, n_0, m_bl_t, m_bl_f, if_true, if_false, Nat.reduceAdd, Nat.reduceMul, Nat.reduceSub, Nat.reduceLeDiff, Nat.reduceEqDiff, Nat.add_zero, Nat.add_sub_cancel, Option.toList, List.cons_append, List.nil_append, i124_1s11, i124_76, i124_77, i124_78, i124_79, c111]
    rw [i124_80 (m_01_bl _)]
  · rw [show c_fit 12 v1 v2 v3 = true from rfl]
    have hd : d_in (nI 12) (nI 12) (nI 19) = true := by decide
    simp (disch := first | assumption | omega | decide) only [nI_add, n_mul, n_sub, n_le, n_lt, n_eq, n_ne1, n_0, m_bl_t, m_bl_f, if_true, if_false, Nat.reduceAdd, Nat.reduceMul, Nat.reduceSub, Nat.reduceLeDiff, Nat.reduceEqDiff, Nat.add_zero, Nat.add_sub_cancel, Option.toList, List.cons_append, List.nil_append, i124_1s12, i124_81, i124_82, i124_83, i124_84, c111, hd]
    rw [i124_85 (by decide)]
  · rw [show c_fit 13 v1 v2 v3 = true from rfl]
    have hd : d_in (nI 13) (nI 12) (nI 19) = true := by decide
    simp (disch := first | assumption | omega | decide) only [nI_add, n_mul, n_sub, n_le, n_lt, n_eq, n_ne1, n_0, m_bl_t, m_bl_f, if_true, if_false, Nat.reduceAdd, Nat.reduceMul, Nat.reduceSub, Nat.reduceLeDiff, Nat.reduceEqDiff, Nat.add_zero, Nat.add_sub_cancel, Option.toList, List.cons_append, List.nil_append, i124_1s13, i124_81, i124_82, i124_83, i124_84, c111, hd]
    rw [i124_85 (by decide)]
  · rw [show c_fit 14 v1 v2 v3 = c_isb v1 41 from Bool.and_true _, c_isb_in (by omega)]
    simp (disch := first | assumption | omega | decide) only [nI_add, n_mul, n_sub, n_le, n_lt, n_eq, n_ne1, n_0, m_bl_t, m_bl_f, if_true, if_false, Nat.reduceAdd, Nat.reduceMul, Nat.reduceSub, Nat.reduceLeDiff, Nat.reduceEqDiff, Nat.add_zero, Nat.add_sub_cancel, Option.toList, List.cons_append, List.nil_append, i124_1s14, i124_63, i124_64, c123]
    rw [i124_65 (m_01_bl _)]
  · rw [show c_fit 15 v1 v2 v3 = c_isb v1 41 from Bool.and_true _, c_isb_in (by omega)]
    simp (disch := first | assumption | omega | decide) only [nI_add, n_mul, n_sub, n_le, n_lt, n_eq, n_ne1, n_0, m_bl_t, m_bl_f, if_true, if_false, Nat.reduceAdd, Nat.reduceMul, Nat.reduceSub, Nat.reduceLeDiff, Nat.reduceEqDiff, Nat.add_zero, Nat.add_sub_cancel, Option.toList, List.cons_append, List.nil_append, i124_1s15, i124_63, i124_64, c123]
    rw [i124_65 (m_01_bl _)]
  · rw [show c_fit 16 v1 v2 v3 = c_isb v1 41 from Bool.and_true _, c_isb_in (by omega)]
    simp (disch := first | assumption | omega | decide) only [nI_add, n_mul, n_sub, n_le, n_lt, n_eq, n_ne1, n_0, m_bl_t, m_bl_f, if_true, if_false, Nat.reduceAdd, Nat.reduceMul, Nat.reduceSub, Nat.reduceLeDiff, Nat.reduceEqDiff, Nat.add_zero, Nat.add_sub_cancel, Option.toList, List.cons_append, List.nil_append, i124_1s16, i124_63, i124_64, c123]
    rw [i124_65 (m_01_bl _)]
  · rw [show c_fit 17 v1 v2 v3 = true from rfl]
    have hd : d_in (nI 17) (nI 12) (nI 19) = true := by decide
    simp (disch := first | assumption | omega | decide) only [nI_add, n_mul, n_sub, n_le, n_lt, n_eq, n_ne1, n_0, m_bl_t, m_bl_f, if_true, if_false, Nat.reduceAdd, Nat.reduceMul, Nat.reduceSub, Nat.reduceLeDiff, Nat.reduceEqDiff, Nat.add_zero, Nat.add_sub_cancel, Option.toList, List.cons_append, List.nil_append, i124_1s17, i124_81, i124_82, i124_83, i124_84, c111, hd]
    rw [i124_85 (by decide)]
  · rw [show c_fit 18 v1 v2 v3 = c_isb v1 41 from Bool.and_true _, c_isb_in (by omega)]
    simp (disch := first | assumption | omega | decide) only [nI_add, n_mul, n_sub, n_le, n_lt, n_eq, n_ne1, n_0, m_bl_t, m_bl_f, if_true, if_false, Nat.reduceAdd, Nat.reduceMul, Nat.reduceSub, Nat.reduceLeDiff, Nat.reduceEqDiff, Nat.add_zero, Nat.add_sub_cancel, Option.toList, List.cons_append, List.nil_append, i124_1s18, i124_63, i124_64, c123]
    rw [i124_65 (m_01_bl _)]
  · rw [show c_fit 19 v1 v2 v3 = true from rfl]
    have hd : d_in (nI 19) (nI 12) (nI 19) = true := by decide
    simp (disch := first | assumption | omega | decide) only [nI_add, n_mul, n_sub, n_le, n_lt, n_eq, n_ne1, n_0, m_bl_t, m_bl_f, if_true, if_false, Nat.reduceAdd, Nat.reduceMul, Nat.reduceSub, Nat.reduceLeDiff, Nat.reduceEqDiff, Nat.add_zero, Nat.add_sub_cancel, Option.toList, List.cons_append, List.nil_append, i124_1s19, i124_81, i124_82, i124_83, i124_84, c111, hd]
    rw [i124_85 (by decide)]
  · rw [show c_fit 20 v1 v2 v3 = c_isb v1 4 from Bool.and_true _, c_isb_in (by omega)]
    simp (disch := first | assumption | omega | decide) only [nI_add, n_mul, n_sub, n_le, n_lt, n_eq, n_ne1, n_0, m_bl_t, m_bl_f, if_true, if_false, Nat.reduceAdd, Nat.reduceMul, Nat.reduceSub, Nat.reduceLeDiff, Nat.reduceEqDiff, Nat.add_zero, Nat.add_sub_cancel, Option.toList, List.cons_append, List.nil_append, i124_1s20, i124_2, i124_3, c120]
    rw [i124_4 (m_01_bl _)]
  · rw [show c_fit 21 v1 v2 v3 = (c_isb v1 4 && c_isb v2 4) by show (c_isb v1 4 && (c_isb v2 4 && true)) = _; rw [Bool.and_true], c_isb_in (by omega), c_isb_in (by omega)]
    simp (disch := first | assumption | omega | decide) only [nI_add, n_mul, n_sub, n_le, n_lt, n_eq, n_ne1, n_0, m_bl_t, m_bl_f, if_true, if_false, Nat.reduceAdd, Nat.reduceMul, Nat.reduceSub, Nat.reduceLeDiff, Nat.reduceEqDiff, Nat.add_zero, Nat.add_sub_cancel, Option.toList, List.cons_append, List.nil_append, i124_1s21, i124_5, i124_6, i124_7, c120, b_0]
    cases q1 : d_in v1 (nI 0) (nI 3) <;> cases q2 : d_in v2 (nI 0) (nI 3) <;> simp (disch := first | assumption | omega | decide) only [nI_add, n_mul, n_sub, n_le, n_lt, n_eq, n_ne1, n_0, m_bl_t, m_bl_f, if_true, if_false, Nat.reduceAdd, Nat.reduceMul, Nat.reduceSub, Nat.reduceLeDiff, Nat.reduceEqDiff, Nat.add_zero, Nat.add_sub_cancel, Option.toList, List.cons_append, List.nil_append, i124_8, i124_9, i124_10, i124_11, i124_12, i124_13, i124_14, c120, b_0, q2, Bool.true_eq_false, Bool.and_self, Bool.and_true, Bool.and_false, Bool.true_and, Bool.false_and, m_bl_t, m_bl_f]
theorem c124 {v1 v2 v3 : Int32} {kk : Nat} (hk : kk < 22) : WPC V 124 [.int (nI kk), .int v1, .int v2, .int v3] m n ls st t I L R Q = WP V m n ls ((.int (m_bl (c_fit kk v1 v2 v3))) :: st) t I L R Q := wpc_of (fun Q => w124 hk)
theorem w124o {v v1 v2 v3 : Int32} (hk : d_in v (nI 0) (nI 21) = false) : WP V 124 0 (m_loc 124 [.int v, .int v1, .int v2, .int v3]) [] t I L R Q = Q (some (.int (nI 0))) t I L R := by
  rw [show m_loc 124 [.int v, .int v1, .int v2, .int v3] = [.int v, .int v1, .int v2, .int v3] from rfl]
  have h1 : v.toInt < 0 ∨ 21 < v.toInt := by
    unfold d_in at hk
    by_cases h0 : nI 0 ≤ v
    · rw [decide_eq_true h0, Bool.true_and] at hk
      have h2 := of_decide_eq_false hk
      rw [Int32.le_iff_toInt_le, nI_toInt (by decide)] at h2
      omega
    · rw [Int32.le_iff_toInt_le, nI_toInt (by decide)] at h0
      omega
  have hd : d_in v (nI 12) (nI 19) = false := by
    unfold d_in
    rcases h1 with h1 | h1
    · have : ¬ nI 12 ≤ v := by
        rw [Int32.le_iff_toInt_le, nI_toInt (by decide)]; omega
      rw [decide_eq_false this, Bool.false_and]
    · have : ¬ v ≤ nI 19 := by
        rw [Int32.le_iff_toInt_le, nI_toInt (by decide)]; omega
      rw [decide_eq_false this, Bool.and_false]
  rw [i124_0, i124_1sd h1]
  simp (disch := first | assumption | omega | decide) only [nI_add, n_mul, n_sub, n_le, n_lt, n_eq, n_ne1, n_0, m_bl_t, m_bl_f, if_true, if_false, Nat.reduceAdd, Nat.reduceMul, Nat.reduceSub, Nat.reduceLeDiff, Nat.reduceEqDiff, Nat.add_zero, Nat.add_sub_cancel, Option.toList, List.cons_append, List.nil_append, i124_81, i124_82, i124_83, i124_84, c111, hd]
  rw [i124_85 (by decide)]
theorem c124o {v v1 v2 v3 : Int32} (hk : d_in v (nI 0) (nI 21) = false) : WPC V 124 [.int v, .int v1, .int v2, .int v3] m n ls st t I L R Q = WP V m n ls ((.int (nI 0)) :: st) t I L R Q := wpc_of (fun Q => w124o hk)
end T58
