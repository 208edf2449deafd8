/-! specs: writing a cell, and the order -/
abbrev c_P : Type := Int32 × (Nat → Int32) × (Nat → Int32) × (Nat → Int32)
def c_nw (ww f : Nat → Int32) (u x k : Nat) : Nat → Int32 := m_sc (m_sc (m_sc (c_fill (c_fill (c_fill (c_fill (m_sc (m_sc ww (k * 35) (nI u)) (k * 35 + 1) (nI 0)) (k * 35 + 2) (k * 35 + 2 + 8) (-1)) (k * 35 + 2 + 8) (k * 35 + 18) (nI 0)) (k * 35 + 18) (k * 35 + 18 + 8) (-1)) (k * 35 + 18 + 8) (k * 35 + 34) (nI 0)) (k * 35 + 18 + x) (f (49 + x))) (k * 35 + 18 + 8 + x) (f (57 + x))) (k * 35 + 34) (f 0)
def c_noteW (f nn ww : Nat → Int32) (u x k : Nat) : (Nat → Int32) × (Nat → Int32) := if ¬ nn 3 = nI 0 then (nn, ww) else if k ≤ 59 then (m_sc nn 2 (nI (k + 1)), c_nw ww f u x k) else (m_sc nn 2 (nI (k + 1)), ww)
def c_putF (f : Nat → Int32) (x : Nat) (v z : Int32) : Nat → Int32 := c_change (m_sc (m_sc f 559 (f 559 + nI 1)) 0 (f 0 + nI 1)) x v z
def c_putO (f nn ww : Nat → Int32) (u x k : Nat) (v z : Int32) : c_P :=
  if decide (¬ f (41 + x) = -1) || c_oth (f 1) (nI u) then (nI 0, f, nn, ww)
  else if c_oth (f (33 + x)) (nI u) then (nI 0, f, nn, ww)
  else (nI 6, c_putF f x v z, c_noteW (c_putF f x v z) nn ww u x k)
def c_log (f : Nat → Int32) (u x : Nat) (v z : Int32) : Nat → Int32 := m_sc (m_sc f (176 + 47 * u + x) v) (176 + 47 * u + 8 + x) z
def c_put2 (f : Nat → Int32) (u x : Nat) (kd v z : Int32) : Nat → Int32 :=
  let f1 := if f 564 = nI 1 then m_sc f (33 + x) (nI u) else f
  c_log (if kd = nI 3 then m_sc f1 (41 + x) (nI u) else f1) u x v z
def c_put (f nn ww : Nat → Int32) (u x k : Nat) (v z : Int32) : c_P :=
  if f (15 + u) = -1 then c_putO f nn ww u x k v z
  else if f (15 + u) = nI 1 then (nI 105, f, nn, ww)
  else if f 564 = nI 3 then (nI 6, c_log f u x v z, nn, ww)
  else if c_oth (f (41 + x)) (nI u) then (nI 0, f, nn, ww)
  else if c_rival f u x = -1 then (nI 6, c_put2 f u x (f (15 + u)) v z, nn, ww)
  else if c_elder f u (c_own f x) then (nI 6, c_put2 (c_anew f (c_own f x)) u x (f (15 + u)) v z, nn, ww) else (nI 0, f, nn, ww)
/-- the first place from x on, k of them, or the one behind -/
def s_find (p : Nat → Bool) : Nat → Nat → Nat
  | x, 0 => x
  | x, k + 1 => if p x then x else s_find p (x + 1) k
theorem s_find_le {p : Nat → Bool} : ∀ {k x : Nat}, s_find p x k ≤ x + k
  | 0, x => Nat.le_refl _
  | k + 1, x => by
    rw [s_find]
    split
    · omega
    · have := s_find_le (p := p) (k := k) (x := x + 1); omega
def c_plc (ww : Nat → Int32) (z : Int32) (k : Nat) : Nat := s_find (fun i => decide (z < ww (i * 35 + 34))) 0 k
def c_ins (f ww : Nat → Int32) (u k i : Nat) (made : Int32) : Nat → Int32 :=
  m_sc (va_cpy f (va_cpy f (m_sc (m_sc (va_cpy ww ww (i * 35) (i * 35 + 35) ((k - i) * 35)) (i * 35) (nI u)) (i * 35 + 1) (f (15 + u))) (160 + 47 * u) (i * 35 + 2) 16) (176 + 47 * u) (i * 35 + 18) 16) (i * 35 + 34) made
def c_isp (f : Nat → Int32) (u : Nat) : Bool := decide (f 564 = nI 2) && decide (f (15 + u) = nI 1)
def c_note (f nn ww : Nat → Int32) (u k : Nat) (made : Int32) : (Nat → Int32) × (Nat → Int32) :=
  if ¬ nn 3 = nI 0 then (nn, ww) else if k ≤ 59 then (m_sc nn 2 (nI (k + 1)), c_ins f ww u k (if c_isp f u then c_plc ww (f (145 + 47 * u)) k else k) made) else (m_sc nn 2 (nI (k + 1)), ww)
theorem n_10 : ((1 : Nat) = 0) = False := by simp
section T24
variable {V : m_V} {t m n : Nat} {ls st : List Value} {I J : m_I} {f g nn ww : Nat → Int32} {L : m_L} {R : m_R} {e : Option Nat} {a b : Nat} {Q : Option Value → Nat → m_I → m_L → m_R → Prop} {u x k : Nat}
theorem w57 (ht : 55 ≤ t) (hu : u < 3) (hx : x < 8) (hk : nn 2 = nI k) (hk2 : k < 1000000) : WP V 57 0 (m_loc 57 [.ref 10, .ref 2, .int (nI u), .int (nI x)]) [] t (mC J f g nn ww) L (m_RR e a b) Q = Q none t (mC J f g (c_noteW f nn ww u x k).1 (c_noteW f nn ww u x k).2) L (m_RR e a b) := by
  rw [show m_loc 57 [.ref 10, .ref 2, .int (nI u), .int (nI x)] = [.ref 10, .ref 2, .int (nI u), .int (nI x), m_u] from rfl]
  have hN : m_ar 2 2 581 = true := by decide
  simp (disch := first | assumption | omega | decide) only [nI_add, n_mul, n_sub, n_le, n_lt, n_eq, n_ne1, n_0, m_bl_t, m_bl_f, if_true, if_false, Nat.reduceAdd, Nat.reduceMul, Nat.reduceSub, Nat.reduceLeDiff, Nat.add_zero, Nat.add_sub_cancel, Option.toList, List.cons_append, List.nil_append, i57_0, i57_1, i57_2, i57_3, i57_4, i57_5, i57_6, i57_7, i57_8, i57_9, i57_10, i57_11, i57_12, i57_13, i57_14, mC_10, mC_s10, hk, m_sc_self]
  unfold c_noteW
  by_cases h1 : nn 3 = nI 0
  · by_cases h2 : k ≤ 59
    · simp (disch := first | assumption | omega | decide) only [nI_add, n_mul, n_sub, n_le, n_lt, n_eq, n_ne1, n_0, m_bl_t, m_bl_f, if_true, if_false, Nat.reduceAdd, Nat.reduceMul, Nat.reduceSub, Nat.reduceLeDiff, Nat.add_zero, Nat.add_sub_cancel, Option.toList, List.cons_append, List.nil_append, h1, h2, not_true, i57_15, i57_16, i57_17, i57_18, i57_19, i57_20, i57_21, i57_22, i57_23, i57_24, i57_25, i57_26, i57_27, i57_28, i57_29, i57_30, i57_31, i57_32, i57_33, i57_34, i57_35, i57_36, i57_37, i57_38, i57_39, i57_40, i57_41, i57_42, i57_43, i57_44, i57_45, i57_46, i57_47, i57_48, i57_49, i57_50, i57_51, i57_52, i57_53, i57_54, i57_55, i57_56, i57_57, i57_58, i57_59, i57_60, i57_61, i57_62, i57_63, i57_64, i57_65, i57_66, i57_67, i57_68, i57_69, i57_70, i57_71, i57_72, i57_73, i57_74, i57_75, i57_76, i57_77, i57_78, i57_79, i57_80, i57_81, i57_82, i57_83, i57_84, i57_85, i57_86, i57_87, i57_88, i57_89, i57_90, i57_91, i57_92, i57_93, i57_94, i57_95, i57_96, i57_97, i57_98, i57_99, i57_100, i57_101, i57_102, i57_103, i57_104, i57_105, i57_106, i57_107, i57_108, i57_109, i57_110, i57_111, i57_112, i57_113, i57_114, i57_115, i57_116, i57_117, i57_118, i57_119, i57_120, i57_121, rv_10_0, rv_22_0, mC_10, mC_11, mC_2, mC_s11, m_sc_self, c197 (k := 11) (N := 2100)]
      rfl
    · simp only [h1, h2, not_true, if_false, if_true]
  · simp only [h1, not_false_iff, if_true, if_false]
theorem c57 (ht : 55 ≤ t) (hu : u < 3) (hx : x < 8) (hk : nn 2 = nI k) (hk2 : k < 1000000) : WPC V 57 [.ref 10, .ref 2, .int (nI u), .int (nI x)] m n ls st t (mC J f g nn ww) L (m_RR e a b) Q = WP V m n ls st t (mC J f g (c_noteW f nn ww u x k).1 (c_noteW f nn ww u x k).2) L (m_RR e a b) Q := wpc_of (fun Q => w57 ht hu hx hk hk2)
theorem w21 (ht : 55 ≤ t) (hu : u < 3) (hx : x < 8) (hk : nn 2 = nI k) (hk2 : k < 1000000) {v z : Int32} : WP V 21 0 (m_loc 21 [.ref 26, .int (nI u), .int (nI x), .int v, .int z]) [] t (mC J f g nn ww) L (m_RR e a b) Q = Q (some (.int (c_putO f nn ww u x k v z).1)) t (mC J (c_putO f nn ww u x k v z).2.1 g (c_putO f nn ww u x k v z).2.2.1 (c_putO f nn ww u x k v z).2.2.2) L (m_RR e a b) := by
  rw [show m_loc 21 [.ref 26, .int (nI u), .int (nI x), .int v, .int z] = [.ref 26, .int (nI u), .int (nI x), .int v, .int z] from rfl]
  simp (disch := first | assumption | omega | decide) only [nI_add, n_mul, n_sub, n_le, n_lt, n_eq, n_ne1, n_0, m_bl_t, m_bl_f, if_true, if_false, Nat.reduceAdd, Nat.reduceMul, Nat.reduceSub, Nat.reduceLeDiff, Nat.add_zero, Nat.add_sub_cancel, Option.toList, List.cons_append, List.nil_append, i21_0, i21_1, i21_2, i21_3, i21_4, i21_5, i21_6, i21_7, i21_8, i21_9, i21_10, i21_11, i21_12, i21_13, i21_14, i21_15, i21_16, i21_17, i21_18, i21_19, i21_20, i21_21, i21_22, i21_23, i21_24, i21_25, i21_26, i21_27, i21_28, i21_29, i21_30, i21_31, i21_32, i21_33, i21_34, i21_35, i21_36, i21_37, i21_38, i21_39, i21_40, i21_41, i21_42, i21_43, i21_44, i21_45, i21_46, i21_47, i21_48, i21_49, i21_50, i21_51, i21_52, i21_53, i21_54, i21_55, i21_56, i21_57, i21_58, i21_59, rv_13_3, rv_1_3, rv_26_0, rv_26_1, mC_2, mC_s2, c9', b_0, m_sc_ne, c52, c57 (k := k)]
  unfold c_putO
  by_cases h1 : f (41 + x) = -1
  · cases h2 : c_oth (f 1) (nI u)
    · cases h3 : c_oth (f (33 + x)) (nI u) <;> simp [h1, c_putF]
    · simp [h1]
  · simp [h1]
theorem c21 (ht : 55 ≤ t) (hu : u < 3) (hx : x < 8) (hk : nn 2 = nI k) (hk2 : k < 1000000) {v z : Int32} : WPC V 21 [.ref 26, .int (nI u), .int (nI x), .int v, .int z] m n ls st t (mC J f g nn ww) L (m_RR e a b) Q = WP V m n ls ((.int (c_putO f nn ww u x k v z).1) :: st) t (mC J (c_putO f nn ww u x k v z).2.1 g (c_putO f nn ww u x k v z).2.2.1 (c_putO f nn ww u x k v z).2.2.2) L (m_RR e a b) Q := wpc_of (fun Q => w21 ht hu hx hk hk2)
theorem w20_58 (ht : 55 ≤ t) (hu : u < 3) (hx : x < 8) {v z kd : Int32} {y : Value} : WP V 20 58 [.ref 26, .int (nI u), .int (nI x), .int v, .int z, .int kd, y] [] t (mC J f g nn ww) L (m_RR e a b) Q = Q (some (.int (nI 6))) t (mC J (c_put2 f u x kd v z) g nn ww) L (m_RR e a b) := by
  have tail : ∀ (F : Nat → Int32), WP V 20 79 [.ref 26, .int (nI u), .int (nI x), .int v, .int z, .int kd, y] [] t (mC J F g nn ww) L (m_RR e a b) Q = Q (some (.int (nI 6))) t (mC J (c_log F u x v z) g nn ww) L (m_RR e a b) := by
    intro F
    simp (disch := first | assumption | omega | decide) only [nI_add, n_mul, n_sub, n_le, n_lt, n_eq, n_ne1, n_0, m_bl_t, m_bl_f, if_true, if_false, Nat.reduceAdd, Nat.reduceMul, Nat.reduceSub, Nat.reduceLeDiff, Nat.add_zero, Nat.add_sub_cancel, Option.toList, List.cons_append, List.nil_append, i20_79, i20_80, i20_81, i20_82, i20_83, i20_84, i20_85, i20_86, i20_87, i20_88, i20_89, i20_90, i20_91, i20_92, i20_93, i20_94, i20_95, i20_96, i20_97, i20_98, i20_99, i20_100, i20_101, i20_102, i20_103, i20_104, rv_26_1, mC_2, mC_s2]
    rfl
  have mid : ∀ (F : Nat → Int32), WP V 20 69 [.ref 26, .int (nI u), .int (nI x), .int v, .int z, .int kd, y] [] t (mC J F g nn ww) L (m_RR e a b) Q = Q (some (.int (nI 6))) t (mC J (c_log (if kd = nI 3 then m_sc F (41 + x) (nI u) else F) u x v z) g nn ww) L (m_RR e a b) := by
    intro F
    simp (disch := first | assumption | omega | decide) only [nI_add, n_mul, n_sub, n_le, n_lt, n_eq, n_ne1, n_0, m_bl_t, m_bl_f, if_true, if_false, Nat.reduceAdd, Nat.reduceMul, Nat.reduceSub, Nat.reduceLeDiff, Nat.add_zero, Nat.add_sub_cancel, Option.toList, List.cons_append, List.nil_append, i20_69, i20_70, i20_71, i20_72, i20_73, i20_74, i20_75, i20_76, i20_77, i20_78, rv_26_1, mC_2, mC_s2, tail]
    by_cases h : kd = nI 3 <;> simp [h]
  simp (disch := first | assumption | omega | decide) only [nI_add, n_mul, n_sub, n_le, n_lt, n_eq, n_ne1, n_0, m_bl_t, m_bl_f, if_true, if_false, Nat.reduceAdd, Nat.reduceMul, Nat.reduceSub, Nat.reduceLeDiff, Nat.add_zero, Nat.add_sub_cancel, Option.toList, List.cons_append, List.nil_append, i20_58, i20_59, i20_60, i20_61, i20_62, i20_63, i20_64, i20_65, i20_66, i20_67, i20_68, rv_26_1, mC_2, mC_s2, c8, b_0, mid]
  unfold c_put2
  by_cases h : f 564 = nI 1 <;> simp [h]
theorem w20 (ht : 55 ≤ t) (hu : u < 3) (hx : x < 8) (hO : c_owned f x) (hk : nn 2 = nI k) (hk2 : k < 1000000) {v z : Int32} : WP V 20 0 (m_loc 20 [.ref 26, .int (nI u), .int (nI x), .int v, .int z]) [] t (mC J f g nn ww) L (m_RR e a b) Q = Q (some (.int (c_put f nn ww u x k v z).1)) t (mC J (c_put f nn ww u x k v z).2.1 g (c_put f nn ww u x k v z).2.2.1 (c_put f nn ww u x k v z).2.2.2) L (m_RR e a b) := by
  rw [show m_loc 20 [.ref 26, .int (nI u), .int (nI x), .int v, .int z] = [.ref 26, .int (nI u), .int (nI x), .int v, .int z, m_u, m_u] from rfl]
  simp (disch := first | assumption | omega | decide) only [nI_add, n_mul, n_sub, n_le, n_lt, n_eq, n_ne1, n_0, m_bl_t, m_bl_f, if_true, if_false, Nat.reduceAdd, Nat.reduceMul, Nat.reduceSub, Nat.reduceLeDiff, Nat.add_zero, Nat.add_sub_cancel, Option.toList, List.cons_append, List.nil_append, i20_0, i20_1, i20_2, i20_3, i20_4, i20_5, i20_6, i20_7, i20_8, i20_9, rv_26_1, mC_2]
  by_cases h1 : f (15 + u) = -1
  · simp (disch := first | assumption | omega | decide) only [nI_add, n_mul, n_sub, n_le, n_lt, n_eq, n_ne1, n_0, m_bl_t, m_bl_f, if_true, if_false, Nat.reduceAdd, Nat.reduceMul, Nat.reduceSub, Nat.reduceLeDiff, Nat.add_zero, Nat.add_sub_cancel, Option.toList, List.cons_append, List.nil_append, h1, i20_10, i20_11, i20_12, i20_13, i20_14, i20_15, i20_16, c21 (k := k)]
    simp [c_put, h1]
  · simp (disch := first | assumption | omega | decide) only [nI_add, n_mul, n_sub, n_le, n_lt, n_eq, n_ne1, n_0, m_bl_t, m_bl_f, if_true, if_false, Nat.reduceAdd, Nat.reduceMul, Nat.reduceSub, Nat.reduceLeDiff, Nat.add_zero, Nat.add_sub_cancel, Option.toList, List.cons_append, List.nil_append, h1, i20_17, i20_18, i20_19, i20_20, i20_21, i20_22, i20_23, i20_24, i20_25, mC_2, c8, b_0]
    by_cases h2 : f (15 + u) = nI 1
    · simp [c_put, h2, n_ne1]
    · by_cases h3 : f 564 = nI 3
      · simp (disch := first | assumption | omega | decide) only [nI_add, n_mul, n_sub, n_le, n_lt, n_eq, n_ne1, n_0, m_bl_t, m_bl_f, if_true, if_false, Nat.reduceAdd, Nat.reduceMul, Nat.reduceSub, Nat.reduceLeDiff, Nat.add_zero, Nat.add_sub_cancel, Option.toList, List.cons_append, List.nil_append, h2, h3, decide_true, Bool.true_eq_false, i20_79, i20_80, i20_81, i20_82, i20_83, i20_84, i20_85, i20_86, i20_87, i20_88, i20_89, i20_90, i20_91, i20_92, i20_93, i20_94, i20_95, i20_96, i20_97, i20_98, i20_99, i20_100, i20_101, i20_102, i20_103, i20_104, rv_26_1, mC_2, mC_s2]
        simp [c_put, h1, h2, h3, c_log]
      · simp (disch := first | assumption | omega | decide) only [nI_add, n_mul, n_sub, n_le, n_lt, n_eq, n_ne1, n_0, m_bl_t, m_bl_f, if_true, if_false, Nat.reduceAdd, Nat.reduceMul, Nat.reduceSub, Nat.reduceLeDiff, Nat.add_zero, Nat.add_sub_cancel, Option.toList, List.cons_append, List.nil_append, h2, h3, decide_false, i20_26, i20_27, i20_28, i20_29, i20_30, i20_31, i20_32, i20_33, i20_34, rv_26_1, mC_2, c9', b_0]
        cases h4 : c_oth (f (41 + x)) (nI u)
        · simp (disch := first | assumption | omega | decide) only [nI_add, n_mul, n_sub, n_le, n_lt, n_eq, n_ne1, n_0, m_bl_t, m_bl_f, if_true, if_false, Nat.reduceAdd, Nat.reduceMul, Nat.reduceSub, Nat.reduceLeDiff, Nat.add_zero, Nat.add_sub_cancel, Option.toList, List.cons_append, List.nil_append, i20_37, i20_38, i20_39, i20_40, i20_41, i20_42, i20_43, i20_44, c18, mC_2]
          rcases c_rival_of (u := u) hO with h5 | ⟨hw, h5, h6⟩
          · simp (disch := first | assumption | omega | decide) only [nI_add, n_mul, n_sub, n_le, n_lt, n_eq, n_ne1, n_0, m_bl_t, m_bl_f, if_true, if_false, Nat.reduceAdd, Nat.reduceMul, Nat.reduceSub, Nat.reduceLeDiff, Nat.add_zero, Nat.add_sub_cancel, Option.toList, List.cons_append, List.nil_append, h5, i20_52, i20_53, i20_54, w20_58]
            simp [c_put, h1, h2, h3, h4, h5]
          · rw [h5]
            simp (disch := first | assumption | omega | decide) only [nI_add, n_mul, n_sub, n_le, n_lt, n_eq, n_ne1, n_0, m_bl_t, m_bl_f, if_true, if_false, Nat.reduceAdd, Nat.reduceMul, Nat.reduceSub, Nat.reduceLeDiff, Nat.add_zero, Nat.add_sub_cancel, Option.toList, List.cons_append, List.nil_append, i20_45, i20_46, i20_47, i20_48, i20_49, c19, mC_2, b_0]
            cases h7 : c_elder f u (c_own f x)
            · simp (disch := first | assumption | omega | decide) only [nI_add, n_mul, n_sub, n_le, n_lt, n_eq, n_ne1, n_0, m_bl_t, m_bl_f, if_true, if_false, Nat.reduceAdd, Nat.reduceMul, Nat.reduceSub, Nat.reduceLeDiff, Nat.add_zero, Nat.add_sub_cancel, Option.toList, List.cons_append, List.nil_append, i20_50, i20_51]
              simp [c_put, h1, h2, h3, h4, h5, h7, n_ne1' (show c_own f x < 2147483648 by omega)]
            · simp (disch := first | assumption | omega | decide) only [nI_add, n_mul, n_sub, n_le, n_lt, n_eq, n_ne1, n_0, m_bl_t, m_bl_f, if_true, if_false, Nat.reduceAdd, Nat.reduceMul, Nat.reduceSub, Nat.reduceLeDiff, Nat.add_zero, Nat.add_sub_cancel, Option.toList, List.cons_append, List.nil_append, Bool.true_eq_false, i20_52, i20_53, i20_54, i20_55, i20_56, i20_57, c30, mC_2, mC_s2, w20_58]
              simp [c_put, h1, h2, h3, h4, h5, h7, n_ne1' (show c_own f x < 2147483648 by omega)]
        · simp (disch := first | assumption | omega | decide) only [nI_add, n_mul, n_sub, n_le, n_lt, n_eq, n_ne1, n_0, m_bl_t, m_bl_f, if_true, if_false, Nat.reduceAdd, Nat.reduceMul, Nat.reduceSub, Nat.reduceLeDiff, Nat.add_zero, Nat.add_sub_cancel, Option.toList, List.cons_append, List.nil_append, Bool.true_eq_false, i20_35, i20_36]
          simp [c_put, h1, h2, h3, h4]
theorem c20 (ht : 55 ≤ t) (hu : u < 3) (hx : x < 8) (hO : c_owned f x) (hk : nn 2 = nI k) (hk2 : k < 1000000) {v z : Int32} : WPC V 20 [.ref 26, .int (nI u), .int (nI x), .int v, .int z] m n ls st t (mC J f g nn ww) L (m_RR e a b) Q = WP V m n ls ((.int (c_put f nn ww u x k v z).1) :: st) t (mC J (c_put f nn ww u x k v z).2.1 g (c_put f nn ww u x k v z).2.2.1 (c_put f nn ww u x k v z).2.2.2) L (m_RR e a b) Q := wpc_of (fun Q => w20 ht hu hx hO hk hk2)
theorem w58_2 (ht : 55 ≤ t) (hk : I 10 2 = nI (k + 1)) (hk2 : k < 60) {z : Int32} : ∀ (c i : Nat), i + c = k → WP V 58 2 [.ref 10, .int z, .int (nI i)] [] t I L (m_RR e a b) Q = Q (some (.int (nI (s_find (fun i => decide (z < I 11 (i * 35 + 34))) i c)))) t I L (m_RR e a b) := by
  intro c
  induction c with
  | zero =>
    intro i hi
    obtain rfl : i = k := by omega
    rw [i58_2]
    simp (disch := first | assumption | omega | decide) only [nI_add, n_mul, n_sub, n_le, n_lt, n_eq, n_ne1, n_0, m_bl_t, m_bl_f, if_true, if_false, Nat.reduceAdd, Nat.reduceMul, Nat.reduceSub, Nat.reduceLeDiff, Nat.add_zero, Nat.add_sub_cancel, Option.toList, List.cons_append, List.nil_append, i58_3, i58_4, i58_5, i58_6, i58_7, i58_22, i58_23, i58_24, i58_25, i58_26, hk, Nat.le_refl, s_find]
  | succ c ih =>
    intro i hi
    have h1 : ¬ k ≤ i := by omega
    rw [i58_2]
    simp (disch := first | assumption | omega | decide) only [nI_add, n_mul, n_sub, n_le, n_lt, n_eq, n_ne1, n_0, m_bl_t, m_bl_f, if_true, if_false, Nat.reduceAdd, Nat.reduceMul, Nat.reduceSub, Nat.reduceLeDiff, Nat.add_zero, Nat.add_sub_cancel, Option.toList, List.cons_append, List.nil_append, i58_3, i58_4, i58_5, i58_6, i58_7, i58_8, i58_9, i58_10, i58_11, i58_12, i58_13, i58_14, i58_15, i58_16, i58_17, i58_18, i58_19, i58_20, i58_21, rv_10_0, rv_22_0, hk, h1, ih (i + 1) (show i + 1 + c = k by omega)]
    by_cases h : z < I 11 (i * 35 + 34)
    · simp [h, s_find, Int32.not_le.mpr h]
    · simp [h, s_find, Int32.not_lt.mp h]
theorem w58 (ht : 55 ≤ t) (hk : I 10 2 = nI (k + 1)) (hk2 : k < 60) {z : Int32} : WP V 58 0 (m_loc 58 [.ref 10, .int z]) [] t I L (m_RR e a b) Q = Q (some (.int (nI (c_plc (I 11) z k)))) t I L (m_RR e a b) := by
  rw [show m_loc 58 [.ref 10, .int z] = [.ref 10, .int z, m_u] from rfl]
  simp (disch := first | assumption | omega | decide) only [nI_add, n_mul, n_sub, n_le, n_lt, n_eq, n_ne1, n_0, m_bl_t, m_bl_f, if_true, if_false, Nat.reduceAdd, Nat.reduceMul, Nat.reduceSub, Nat.reduceLeDiff, Nat.add_zero, Nat.add_sub_cancel, Option.toList, List.cons_append, List.nil_append, i58_0, i58_1]
  exact w58_2 ht hk hk2 k 0 (by omega)
theorem c58 (ht : 55 ≤ t) (hk : I 10 2 = nI (k + 1)) (hk2 : k < 60) {z : Int32} : WPC V 58 [.ref 10, .int z] m n ls st t I L (m_RR e a b) Q = WP V m n ls ((.int (nI (c_plc (I 11) z k))) :: st) t I L (m_RR e a b) Q := wpc_of (fun Q => w58 ht hk hk2)
theorem w56_48 (ht : 55 ≤ t) (hu : u < 3) {i : Nat} (hi : i ≤ k) (hk2 : k < 60) {made : Int32} {y y2 : Value} : WP V 56 48 [.ref 10, .ref 2, .int (nI u), .int made, y, .int (nI i), y2] [] t (mC J f g (m_sc nn 2 (nI (k + 1))) ww) L (m_RR e a b) Q = Q none t (mC J f g (m_sc nn 2 (nI (k + 1))) (c_ins f ww u k i made)) L (m_RR e a b) := by
  have hN : m_ar 2 2 581 = true := by decide
  simp (disch := first | assumption | omega | decide) only [nI_add, n_mul, n_sub, n_le, n_lt, n_eq, n_ne1, n_0, m_bl_t, m_bl_f, if_true, if_false, Nat.reduceAdd, Nat.reduceMul, Nat.reduceSub, Nat.reduceLeDiff, Nat.add_zero, Nat.add_sub_cancel, Option.toList, List.cons_append, List.nil_append, i56_48, i56_49, i56_50, i56_51, i56_52, i56_53, i56_54, i56_55, i56_56, i56_57, i56_58, i56_59, i56_60, i56_61, i56_62, i56_63, i56_64, i56_65, i56_66, i56_67, i56_68, i56_69, i56_70, i56_71, i56_72, i56_73, i56_74, i56_75, i56_76, i56_77, i56_78, i56_79, i56_80, i56_81, i56_82, i56_83, i56_84, i56_85, i56_86, i56_87, i56_88, i56_89, i56_90, i56_91, i56_92, i56_93, i56_94, i56_95, i56_96, i56_97, i56_98, i56_99, i56_100, i56_101, i56_102, i56_103, i56_104, i56_105, i56_106, i56_107, i56_108, i56_109, i56_110, i56_111, i56_112, i56_113, i56_114, i56_115, i56_116, i56_117, i56_118, i56_119, i56_120, rv_10_0, rv_22_0, mC_10, mC_11, mC_2, mC_s11, m_sc_self]
  rfl
theorem w56 (ht : 55 ≤ t) (hu : u < 3) (hk : nn 2 = nI k) (hk2 : k < 1000000) {made : Int32} : WP V 56 0 (m_loc 56 [.ref 10, .ref 2, .int (nI u), .int made]) [] t (mC J f g nn ww) L (m_RR e a b) Q = Q none t (mC J f g (c_note f nn ww u k made).1 (c_note f nn ww u k made).2) L (m_RR e a b) := by
  rw [show m_loc 56 [.ref 10, .ref 2, .int (nI u), .int made] = [.ref 10, .ref 2, .int (nI u), .int made, m_u, m_u, m_u] from rfl]
  have hN : m_ar 2 2 581 = true := by decide
  simp (disch := first | assumption | omega | decide) only [nI_add, n_mul, n_sub, n_le, n_lt, n_eq, n_ne1, n_0, m_bl_t, m_bl_f, if_true, if_false, Nat.reduceAdd, Nat.reduceMul, Nat.reduceSub, Nat.reduceLeDiff, Nat.add_zero, Nat.add_sub_cancel, Option.toList, List.cons_append, List.nil_append, i56_0, i56_1, i56_2, i56_3, i56_4, i56_5, i56_6, i56_7, i56_8, i56_9, i56_10, i56_11, i56_12, i56_13, i56_14, mC_10, mC_s10, hk, m_sc_self]
  unfold c_note
  by_cases h1 : nn 3 = nI 0
  · by_cases h2 : k ≤ 59
    · have h3 : k < 60 := by omega
      have e10 : (mC J f g (m_sc nn 2 (nI (k + 1))) ww) 10 2 = nI (k + 1) := by rw [mC_10, m_sc_self]
      have hle : c_plc ww (f (145 + 47 * u)) k ≤ k := by have := s_find_le (p := fun i => decide (f (145 + 47 * u) < ww (i * 35 + 34))) (k := k) (x := 0); unfold c_plc; omega
      have hA : ∀ {y : Value}, WP V 56 30 [.ref 10, .ref 2, .int (nI u), .int made, y, m_u, m_u] [.int (nI 1)] t (mC J f g (m_sc nn 2 (nI (k + 1))) ww) L (m_RR e a b) Q = Q none t (mC J f g (m_sc nn 2 (nI (k + 1))) (c_ins f ww u k (c_plc ww (f (145 + 47 * u)) k) made)) L (m_RR e a b) := by
        intro y
        simp (disch := first | assumption | omega | decide) only [nI_add, n_mul, n_sub, n_le, n_lt, n_eq, n_ne1, n_0, m_bl_t, m_bl_f, if_true, if_false, Nat.reduceAdd, Nat.reduceMul, Nat.reduceSub, Nat.reduceLeDiff, Nat.add_zero, Nat.add_sub_cancel, Option.toList, List.cons_append, List.nil_append, i56_30, i56_31, i56_32, i56_33, i56_34, i56_35, i56_36, i56_37, i56_38, i56_39, i56_40, i56_41, i56_42, i56_47, n_10, mC_2, c58 (k := k), mC_11, w56_48]
      have hB : ∀ {y : Value}, WP V 56 30 [.ref 10, .ref 2, .int (nI u), .int made, y, m_u, m_u] [.int (nI 0)] t (mC J f g (m_sc nn 2 (nI (k + 1))) ww) L (m_RR e a b) Q = Q none t (mC J f g (m_sc nn 2 (nI (k + 1))) (c_ins f ww u k k made)) L (m_RR e a b) := by
        intro y
        have hkk : k ≤ k := Nat.le_refl _
        simp (disch := first | assumption | omega | decide) only [nI_add, n_mul, n_sub, n_le, n_lt, n_eq, n_ne1, n_0, m_bl_t, m_bl_f, if_true, if_false, Nat.reduceAdd, Nat.reduceMul, Nat.reduceSub, Nat.reduceLeDiff, Nat.add_zero, Nat.add_sub_cancel, Option.toList, List.cons_append, List.nil_append, i56_30, i56_31, i56_32, i56_43, i56_44, i56_45, i56_46, i56_47, mC_10, m_sc_self, w56_48]
      simp (disch := first | assumption | omega | decide) only [nI_add, n_mul, n_sub, n_le, n_lt, n_eq, n_ne1, n_0, m_bl_t, m_bl_f, if_true, if_false, Nat.reduceAdd, Nat.reduceMul, Nat.reduceSub, Nat.reduceLeDiff, Nat.add_zero, Nat.add_sub_cancel, Option.toList, List.cons_append, List.nil_append, h1, h2, not_true, i56_15, i56_16, i56_17, i56_18, i56_19, i56_20, i56_21, i56_22, i56_23, i56_24, i56_25, i56_26, i56_27, i56_28, i56_29, mC_2, hA, hB]
      by_cases h4 : f 564 = nI 2
      · by_cases h5 : f (15 + u) = nI 1 <;> simp [h4, h5, c_isp]
      · simp [h4, c_isp]
    · simp only [h1, h2, not_true, if_false, if_true]
  · simp only [h1, not_false_iff, if_true, if_false]
theorem c56 (ht : 55 ≤ t) (hu : u < 3) (hk : nn 2 = nI k) (hk2 : k < 1000000) {made : Int32} : WPC V 56 [.ref 10, .ref 2, .int (nI u), .int made] m n ls st t (mC J f g nn ww) L (m_RR e a b) Q = WP V m n ls st t (mC J f g (c_note f nn ww u k made).1 (c_note f nn ww u k made).2) L (m_RR e a b) Q := wpc_of (fun Q => w56 ht hu hk hk2)
end T24
