/-! specs: transactions' dealings -/
def c_clear (f : Nat → Int32) (u : Nat) : Nat → Int32 := c_fill (c_fill (c_fill (c_fill (c_fill f (152 + 47 * u) (152 + 47 * u + 8) (-1)) (160 + 47 * u) (160 + 47 * u + 8) (-1)) (160 + 47 * u + 8) (160 + 47 * u + 16) (nI 0)) (176 + 47 * u) (176 + 47 * u + 8) (-1)) (176 + 47 * u + 8) (176 + 47 * u + 16) (nI 0)
def c_leave1 (f : Nat → Int32) (u : Nat) : Nat → Int32 := c_unlock (c_rel (c_rel f 33 u) 41 u) u
def c_leave2 (f : Nat → Int32) (u : Nat) : Nat → Int32 := if f 2 = nI u then m_sc f 2 (-1) else f
def c_leave (f : Nat → Int32) (u : Nat) : Nat → Int32 := c_clear (m_sc (m_sc (c_leave2 (c_leave1 f u) u) (15 + u) (-1)) (18 + u) (nI 0)) u
def c_anew1 (f : Nat → Int32) (u : Nat) : Nat → Int32 := va_cpy (c_rel (c_clear f u) 33 u) (c_rel (c_clear f u) 33 u) (148 + 47 * u) (21 + 4 * u) 4
def c_anew2 (f : Nat → Int32) (u : Nat) : Nat → Int32 := m_sc (m_sc (m_sc (m_sc (m_sc f (145 + 47 * u) (f 0)) (12 + u) (f (147 + 47 * u))) (6 + u) (f (146 + 47 * u))) 560 (f 560 + nI 1)) (550 + u) (f (550 + u) + nI 1)
def c_anew (f : Nat → Int32) (u : Nat) : Nat → Int32 := c_anew2 (c_anew1 f u) u
def c_stale (f : Nat → Int32) (u : Nat) : Bool := s_any (s_stale f u) 0 8
def c_elder (f : Nat → Int32) (u v : Nat) : Bool := decide (f (15 + u) = nI 3) || (decide (¬ f (15 + v) = nI 3) && decide (f (18 + u) < f (18 + v)))
def c_oth (v z : Int32) : Bool := decide (¬ v = -1) && decide (¬ v = z)
def c_rival (f : Nat → Int32) (u x : Nat) : Int32 := if decide (f 564 = nI 1) && c_oth (f (33 + x)) (nI u) then f (33 + x) else -1
abbrev c_O : Type := Int32 × (Nat → Int32) × (Nat → Int32)
def c_find (f g : Nat → Int32) (v z : Int32) : c_O := (nI 6, f, m_sc (m_sc g 2 v) 3 z)
def c_seeR (f g : Nat → Int32) (u x k : Nat) : c_O := (nI 6, c_see f u x k, m_sc (m_sc g 2 (f (49 + k + x))) 3 (f (57 + k + x)))
def c_out (f g : Nat → Int32) (u x : Nat) : c_O := if decide (¬ f (41 + x) = -1) || c_oth (f 1) (nI u) then (nI 0, f, g) else c_find f g (f (49 + x)) (f (57 + x))
def c_pok (f : Nat → Int32) (u x k : Nat) : Bool := decide (¬ f (65 + k + x) = -1) && decide (f (65 + k + x) ≤ f (145 + 47 * u))
def c_picR (f g : Nat → Int32) (u x : Nat) : c_O := if c_pok f u x 0 then c_seeR f g u x 0 else if c_pok f u x 24 then c_seeR f g u x 24 else if c_pok f u x 48 then c_seeR f g u x 48 else if c_pok f u x 72 then c_seeR f g u x 72 else (nI 2, f, g)
def c_clkR (f g : Nat → Int32) (u x : Nat) : c_O :=
  if decide (¬ f (152 + 47 * u + x) = -1) && decide (¬ f (152 + 47 * u + x) = f (65 + x)) then (nI 2, f, g)
  else if decide (f (152 + 47 * u + x) = -1) && decide (f (145 + 47 * u) < f (65 + x)) then
    (if c_stale f u then (nI 2, f, g) else c_seeR (c_come (m_sc f (145 + 47 * u) (f 0)) u x) g u x 0)
  else c_seeR (c_come f u x) g u x 0
section T21
variable {V : m_V} {t m n : Nat} {ls st : List Value} {I J : m_I} {f g nn ww : Nat → Int32} {L : m_L} {R : m_R} {e : Option Nat} {a b : Nat} {Q : Option Value → Nat → m_I → m_L → m_R → Prop} {u x : Nat}
theorem c24 (ht : 55 ≤ t) (hu : u < 3) : WPC V 24 [.ref 26, .int (nI u)] m n ls st t I L (m_RR e a b) Q = WP V m n ls ((.int (m_bl (c_stale (I 2) u))) :: st) t I L (m_RR e a b) Q := wpc_of (fun Q => w24 ht hu)
theorem c9' {v z : Int32} : WPC V 9 [.int v, .int z] m n ls st t I L R Q = WP V m n ls (.int (m_bl (c_oth v z)) :: st) t I L R Q := c9
theorem b_0 {c : Bool} : (m_bl c = nI 0) = (c = false) := by cases c <;> simp [m_bl, n_eq]
theorem w51 {h k : Nat} (hh : h < t) (ho : m_ob h 3 = true) (hR : m_rv (R h 0) = .ref k) (hk : k < t) (hN : m_ar k 2 581 = true) (hu : u < 3) : WP V 51 0 (m_loc 51 [.ref h, .int (nI u)]) [] t I L R Q = Q none t (m_sc I k (c_clear (I k) u)) L R := by
  rw [show m_loc 51 [.ref h, .int (nI u)] = [.ref h, .int (nI u), m_u, m_u, m_u] from rfl]
  simp (disch := first | assumption | omega | decide) only [nI_add, n_mul, n_sub, n_le, n_lt, n_eq, n_ne1, n_0, m_bl_t, m_bl_f, if_true, if_false, Nat.reduceAdd, Nat.reduceMul, Nat.reduceSub, Nat.reduceLeDiff, Option.toList, List.cons_append, List.nil_append, i51_0, i51_1, i51_2, i51_3, i51_4, i51_5, i51_6, i51_7, i51_8, i51_9, i51_10, i51_11, i51_12, i51_13, i51_14, i51_15, i51_16, i51_17, i51_18, i51_19, i51_20, i51_21, i51_22, i51_23, i51_24, i51_25, i51_26, i51_27, i51_28, i51_29, i51_30, i51_31, i51_32, i51_33, i51_34, i51_35, i51_36, i51_37, i51_38, i51_39, i51_40, i51_41, i51_42, i51_43, i51_44, i51_45, i51_46, i51_47, i51_48, i51_49, i51_50, i51_51, i51_52, i51_53, i51_54, i51_55, i51_56, i51_57, i51_58, i51_59, i51_60, i51_61, i51_62, rv_13_0, rv_1_0, hR, c197 (k := k) (N := 581), s_scc, m_sc_self]
  rfl
theorem c51 {h k : Nat} (hh : h < t) (ho : m_ob h 3 = true) (hR : m_rv (R h 0) = .ref k) (hk : k < t) (hN : m_ar k 2 581 = true) (hu : u < 3) : WPC V 51 [.ref h, .int (nI u)] m n ls st t I L R Q = WP V m n ls st t (m_sc I k (c_clear (I k) u)) L R Q := wpc_of (fun Q => w51 hh ho hR hk hN hu)
theorem w27 (ht : 55 ≤ t) (hu : u < 3) : WP V 27 0 (m_loc 27 [.ref 26, .int (nI u)]) [] t I L (m_RR e a b) Q = Q none t (m_sc I 2 (c_leave (I 2) u)) L (m_RR e a b) := by
  rw [show m_loc 27 [.ref 26, .int (nI u)] = [.ref 26, .int (nI u)] from rfl]
  have ec : ∀ (F : Nat → Int32) (z : Prop) [Decidable z] (A B : Prop), (if z then A else B) = if z then A else B := fun _ _ _ _ _ => rfl
  simp (disch := first | assumption | omega | decide) only [nI_add, n_mul, n_sub, n_le, n_lt, n_eq, n_ne1, n_0, m_bl_t, m_bl_f, if_true, if_false, Nat.reduceAdd, Nat.reduceMul, Nat.reduceSub, Nat.reduceLeDiff, Option.toList, List.cons_append, List.nil_append, i27_0, i27_1, i27_2, i27_3, i27_4, i27_5, i27_6, i27_7, i27_8, i27_9, i27_10, i27_11, i27_12, i27_13, i27_14, i27_15, i27_16, rv_26_1, c28, c29, s_scc, m_sc_self]
  have tail : ∀ (F : Nat → Int32), WP V 27 22 [.ref 26, .int (nI u)] [] t (m_sc I 2 F) L (m_RR e a b) Q = Q none t (m_sc I 2 (c_clear (m_sc (m_sc F (15 + u) (-1)) (18 + u) (nI 0)) u)) L (m_RR e a b) := by
    intro F
    simp (disch := first | assumption | omega | decide) only [nI_add, n_mul, n_sub, n_le, n_lt, n_eq, n_ne1, n_0, m_bl_t, m_bl_f, if_true, if_false, Nat.reduceAdd, Nat.reduceMul, Nat.reduceSub, Nat.reduceLeDiff, Option.toList, List.cons_append, List.nil_append, i27_22, i27_23, i27_24, i27_25, i27_26, i27_27, i27_28, i27_29, i27_30, i27_31, i27_32, i27_33, i27_34, i27_35, i27_36, i27_37, i27_38, i27_39, i27_40, rv_26_0, rv_26_1, c51 (h := 1) (k := 2) (hR := rv_1_0), s_scc, m_sc_self]
  by_cases h : c_unlock (c_rel (c_rel (I 2) 33 u) 41 u) u 2 = nI u
  · have ee : c_leave2 (c_leave1 (I 2) u) u = m_sc (c_unlock (c_rel (c_rel (I 2) 33 u) 41 u) u) 2 (-1) := if_pos h
    rw [if_pos h]
    simp (disch := first | assumption | omega | decide) only [nI_add, n_mul, n_sub, n_le, n_lt, n_eq, n_ne1, n_0, m_bl_t, m_bl_f, if_true, if_false, Nat.reduceAdd, Nat.reduceMul, Nat.reduceSub, Nat.reduceLeDiff, Option.toList, List.cons_append, List.nil_append, i27_17, i27_18, i27_19, i27_20, i27_21, rv_26_1, s_scc, m_sc_self, tail]
    rw [c_leave, ee]
  · have ee : c_leave2 (c_leave1 (I 2) u) u = c_unlock (c_rel (c_rel (I 2) 33 u) 41 u) u := if_neg h
    rw [if_neg h, tail, c_leave, ee]
theorem c27 (ht : 55 ≤ t) (hu : u < 3) : WPC V 27 [.ref 26, .int (nI u)] m n ls st t I L (m_RR e a b) Q = WP V m n ls st t (m_sc I 2 (c_leave (I 2) u)) L (m_RR e a b) Q := wpc_of (fun Q => w27 ht hu)
theorem w30 (ht : 55 ≤ t) (hu : u < 3) : WP V 30 0 (m_loc 30 [.ref 26, .int (nI u)]) [] t I L (m_RR e a b) Q = Q none t (m_sc I 2 (c_anew (I 2) u)) L (m_RR e a b) := by
  rw [show m_loc 30 [.ref 26, .int (nI u)] = [.ref 26, .int (nI u), m_u] from rfl]
  simp (disch := first | assumption | omega | decide) only [nI_add, n_mul, n_sub, n_le, n_lt, n_eq, n_ne1, n_0, m_bl_t, m_bl_f, if_true, if_false, Nat.reduceAdd, Nat.reduceMul, Nat.reduceSub, Nat.reduceLeDiff, Option.toList, List.cons_append, List.nil_append, i30_0, i30_1, i30_2, i30_3, i30_4, i30_5, i30_6, i30_7, i30_8, i30_9, i30_10, i30_11, i30_12, i30_13, i30_14, i30_15, i30_16, i30_17, i30_18, i30_19, i30_20, i30_21, i30_22, i30_23, i30_24, i30_25, i30_26, i30_27, i30_28, i30_29, i30_30, i30_31, i30_32, i30_33, i30_34, i30_35, i30_36, i30_37, i30_38, i30_39, i30_40, i30_41, i30_42, i30_43, i30_44, i30_45, i30_46, i30_47, i30_48, i30_49, i30_50, i30_51, i30_52, i30_53, i30_54, i30_55, i30_56, i30_57, i30_58, i30_59, i30_60, i30_61, i30_62, i30_63, i30_64, i30_65, i30_66, i30_67, rv_26_0, rv_26_1, c51 (h := 1) (k := 2) (hR := rv_1_0), c28, c26, s_scc, m_sc_self, m_sc_ne]
  rfl
theorem c30 (ht : 55 ≤ t) (hu : u < 3) : WPC V 30 [.ref 26, .int (nI u)] m n ls st t I L (m_RR e a b) Q = WP V m n ls st t (m_sc I 2 (c_anew (I 2) u)) L (m_RR e a b) Q := wpc_of (fun Q => w30 ht hu)
theorem w19 (ht : 55 ≤ t) (hu : u < 3) {v : Nat} (hv : v < 3) : WP V 19 0 (m_loc 19 [.ref 26, .int (nI u), .int (nI v)]) [] t I L (m_RR e a b) Q = Q (some (.int (m_bl (c_elder (I 2) u v)))) t I L (m_RR e a b) := by
  rw [show m_loc 19 [.ref 26, .int (nI u), .int (nI v)] = [.ref 26, .int (nI u), .int (nI v)] from rfl]
  simp (disch := first | assumption | omega | decide) only [nI_add, n_mul, n_sub, n_le, n_lt, n_eq, n_ne1, n_0, m_bl_t, m_bl_f, if_true, if_false, Nat.reduceAdd, Nat.reduceMul, Nat.reduceSub, Nat.reduceLeDiff, Option.toList, List.cons_append, List.nil_append, i19_0, i19_1, i19_2, i19_3, i19_4, i19_5, i19_6, i19_7, i19_8, i19_9, i19_10, i19_11, i19_12, i19_13, i19_14, i19_15, i19_16, i19_17, i19_18, i19_19, i19_20, i19_21, i19_22, i19_23, i19_24, i19_25, i19_26, i19_27, i19_28, i19_29, i19_30, i19_31, i19_32, i19_33, i19_34, rv_26_1]
  by_cases h1 : I 2 (15 + u) = nI 3
  · simp [h1, c_elder, m_bl]
  · by_cases h2 : I 2 (15 + v) = nI 3
    · simp [h1, h2, c_elder, m_bl]
    · by_cases h3 : I 2 (18 + u) < I 2 (18 + v)
      · simp [h1, h2, h3, c_elder, m_bl, Int32.not_le.mpr h3]
      · simp [h1, h2, h3, c_elder, m_bl, Int32.not_lt.mp h3]
theorem c19 (ht : 55 ≤ t) (hu : u < 3) {v : Nat} (hv : v < 3) : WPC V 19 [.ref 26, .int (nI u), .int (nI v)] m n ls st t I L (m_RR e a b) Q = WP V m n ls ((.int (m_bl (c_elder (I 2) u v))) :: st) t I L (m_RR e a b) Q := wpc_of (fun Q => w19 ht hu hv)
theorem w18 (ht : 55 ≤ t) (hu : u < 3) (hx : x < 8) : WP V 18 0 (m_loc 18 [.ref 26, .int (nI u), .int (nI x)]) [] t I L (m_RR e a b) Q = Q (some (.int (c_rival (I 2) u x))) t I L (m_RR e a b) := by
  rw [show m_loc 18 [.ref 26, .int (nI u), .int (nI x)] = [.ref 26, .int (nI u), .int (nI x), m_u] from rfl]
  simp (disch := first | assumption | omega | decide) only [nI_add, n_mul, n_sub, n_le, n_lt, n_eq, n_ne1, n_0, m_bl_t, m_bl_f, if_true, if_false, Nat.reduceAdd, Nat.reduceMul, Nat.reduceSub, Nat.reduceLeDiff, Option.toList, List.cons_append, List.nil_append, i18_0, i18_1, i18_2, i18_3, i18_4, i18_5, i18_6, i18_7, i18_8, i18_9, i18_10, i18_11, i18_12, i18_13, i18_14, i18_15, i18_16, i18_17, i18_18, rv_26_1, c8, c9', b_0]
  by_cases h1 : I 2 564 = nI 1
  · cases h2 : c_oth (I 2 (33 + x)) (nI u) <;> simp [h1, h2, c_rival]
  · simp [h1, c_rival]
theorem c18 (ht : 55 ≤ t) (hu : u < 3) (hx : x < 8) : WPC V 18 [.ref 26, .int (nI u), .int (nI x)] m n ls st t I L (m_RR e a b) Q = WP V m n ls ((.int (c_rival (I 2) u x)) :: st) t I L (m_RR e a b) Q := wpc_of (fun Q => w18 ht hu hx)
theorem w12 (ht : 55 ≤ t) (hu : u < 3) (hx : x < 8) : WP V 12 0 (m_loc 12 [.ref 26, .int (nI u), .int (nI x)]) [] t (mC J f g nn ww) L (m_RR e a b) Q = Q (some (.int (c_out f g u x).1)) t (mC J (c_out f g u x).2.1 (c_out f g u x).2.2 nn ww) L (m_RR e a b) := by
  rw [show m_loc 12 [.ref 26, .int (nI u), .int (nI x)] = [.ref 26, .int (nI u), .int (nI x)] from rfl]
  simp (disch := first | assumption | omega | decide) only [nI_add, n_mul, n_sub, n_le, n_lt, n_eq, n_ne1, n_0, m_bl_t, m_bl_f, if_true, if_false, Nat.reduceAdd, Nat.reduceMul, Nat.reduceSub, Nat.reduceLeDiff, Option.toList, List.cons_append, List.nil_append, i12_0, i12_1, i12_2, i12_3, i12_4, i12_5, i12_6, i12_7, i12_8, i12_9, i12_10, i12_11, i12_12, i12_13, i12_14, i12_15, i12_16, i12_17, i12_18, i12_19, i12_20, i12_21, i12_22, i12_23, i12_24, i12_25, i12_26, i12_27, i12_28, i12_29, i12_30, i12_31, rv_26_1, c9', c17, b_0, mC_2, mC_26, mC_s26]
  by_cases h1 : f (41 + x) = -1
  · cases h2 : c_oth (f 1) (nI u) <;> simp [h1, h2, c_out, c_find]
  · simp [h1, c_out]
theorem c12 (ht : 55 ≤ t) (hu : u < 3) (hx : x < 8) : WPC V 12 [.ref 26, .int (nI u), .int (nI x)] m n ls st t (mC J f g nn ww) L (m_RR e a b) Q = WP V m n ls ((.int (c_out f g u x).1) :: st) t (mC J (c_out f g u x).2.1 (c_out f g u x).2.2 nn ww) L (m_RR e a b) Q := wpc_of (fun Q => w12 ht hu hx)
theorem c16' (ht : 55 ≤ t) (hu : u < 3) (hx : x < 8) {k : Nat} (hk : k ≤ 72) : WPC V 16 [.ref 26, .int (nI u), .int (nI x), .int (nI k)] m n ls st t (mC J f g nn ww) L (m_RR e a b) Q = WP V m n ls (.int (c_seeR f g u x k).1 :: st) t (mC J (c_seeR f g u x k).2.1 (c_seeR f g u x k).2.2 nn ww) L (m_RR e a b) Q := by
  rw [c16 ht hu hx hk]
  simp only [mC_2, mC_26, mC_s2, mC_s26, c_seeR]
theorem w14 (ht : 55 ≤ t) (hu : u < 3) (hx : x < 8) : WP V 14 0 (m_loc 14 [.ref 26, .int (nI u), .int (nI x)]) [] t (mC J f g nn ww) L (m_RR e a b) Q = Q (some (.int (c_picR f g u x).1)) t (mC J (c_picR f g u x).2.1 (c_picR f g u x).2.2 nn ww) L (m_RR e a b) := by
  rw [show m_loc 14 [.ref 26, .int (nI u), .int (nI x)] = [.ref 26, .int (nI u), .int (nI x), m_u, m_u, m_u] from rfl]
  have step : ∀ (k : Nat) (y : Value), k ≤ 72 → WP V 14 11 [.ref 26, .int (nI u), .int (nI x), .int (f (145 + 47 * u)), .int (nI k), y] [] t (mC J f g nn ww) L (m_RR e a b) Q = if c_pok f u x k then Q (some (.int (c_seeR f g u x k).1)) t (mC J (c_seeR f g u x k).2.1 (c_seeR f g u x k).2.2 nn ww) L (m_RR e a b) else WP V 14 11 [.ref 26, .int (nI u), .int (nI x), .int (f (145 + 47 * u)), .int (nI (k + 24)), .int (f (65 + k + x))] [] t (mC J f g nn ww) L (m_RR e a b) Q := by
    intro k y hk
    have hk2 : ¬ 96 ≤ k := by omega
    rw [i14_11]
    simp (disch := first | assumption | omega | decide) only [nI_add, n_mul, n_sub, n_le, n_lt, n_eq, n_ne1, n_0, m_bl_t, m_bl_f, if_true, if_false, Nat.reduceAdd, Nat.reduceMul, Nat.reduceSub, Nat.reduceLeDiff, Option.toList, List.cons_append, List.nil_append, i14_12, i14_13, i14_14, i14_15, i14_16, i14_17, i14_18, i14_19, i14_20, i14_21, i14_22, i14_23, i14_24, i14_25, i14_26, i14_27, i14_28, i14_29, i14_30, i14_31, i14_32, i14_33, i14_34, i14_35, i14_36, rv_26_1, hk2, mC_2, c16']
    by_cases h1 : f (65 + k + x) = -1
    · simp [h1, c_pok]
    · by_cases h2 : f (145 + 47 * u) < f (65 + k + x)
      · simp [h1, h2, c_pok, Int32.not_le.mpr h2]
      · simp [h1, h2, c_pok, Int32.not_lt.mp h2]
  simp (disch := first | assumption | omega | decide) only [nI_add, n_mul, n_sub, n_le, n_lt, n_eq, n_ne1, n_0, m_bl_t, m_bl_f, if_true, if_false, Nat.reduceAdd, Nat.reduceMul, Nat.reduceSub, Nat.reduceLeDiff, Option.toList, List.cons_append, List.nil_append, i14_0, i14_1, i14_2, i14_3, i14_4, i14_5, i14_6, i14_7, i14_8, i14_9, i14_10, rv_26_1, mC_2]
  rw [step 0 _ (by decide), step 24 _ (by decide), step 48 _ (by decide), step 72 _ (by decide), i14_11]
  simp (disch := first | assumption | omega | decide) only [nI_add, n_mul, n_sub, n_le, n_lt, n_eq, n_ne1, n_0, m_bl_t, m_bl_f, if_true, if_false, Nat.reduceAdd, Nat.reduceMul, Nat.reduceSub, Nat.reduceLeDiff, Option.toList, List.cons_append, List.nil_append, i14_12, i14_13, i14_37, i14_38, Nat.le_refl]
  unfold c_picR
  cases c_pok f u x 0 <;> cases c_pok f u x 24 <;> cases c_pok f u x 48 <;> cases c_pok f u x 72 <;> rfl
theorem c14 (ht : 55 ≤ t) (hu : u < 3) (hx : x < 8) : WPC V 14 [.ref 26, .int (nI u), .int (nI x)] m n ls st t (mC J f g nn ww) L (m_RR e a b) Q = WP V m n ls ((.int (c_picR f g u x).1) :: st) t (mC J (c_picR f g u x).2.1 (c_picR f g u x).2.2 nn ww) L (m_RR e a b) Q := wpc_of (fun Q => w14 ht hu hx)
theorem w15 (ht : 55 ≤ t) (hu : u < 3) (hx : x < 8) : WP V 15 0 (m_loc 15 [.ref 26, .int (nI u), .int (nI x)]) [] t (mC J f g nn ww) L (m_RR e a b) Q = Q (some (.int (c_clkR f g u x).1)) t (mC J (c_clkR f g u x).2.1 (c_clkR f g u x).2.2 nn ww) L (m_RR e a b) := by
  rw [show m_loc 15 [.ref 26, .int (nI u), .int (nI x)] = [.ref 26, .int (nI u), .int (nI x), m_u, m_u, m_u] from rfl]
  have h0 : (0 : Nat) ≤ 72 := by decide
  simp (disch := first | assumption | omega | decide) only [nI_add, n_mul, n_sub, n_le, n_lt, n_eq, n_ne1, n_0, m_bl_t, m_bl_f, if_true, if_false, Nat.reduceAdd, Nat.reduceMul, Nat.reduceSub, Nat.reduceLeDiff, Option.toList, List.cons_append, List.nil_append, i15_0, i15_1, i15_2, i15_3, i15_4, i15_5, i15_6, i15_7, i15_8, i15_9, i15_10, i15_11, i15_12, i15_13, i15_14, i15_15, i15_16, i15_17, i15_18, i15_19, i15_20, i15_21, i15_22, i15_23, i15_24, i15_25, i15_26, i15_27, i15_28, i15_29, i15_30, i15_31, i15_32, i15_33, i15_34, i15_35, i15_36, i15_37, i15_38, i15_39, i15_40, i15_41, i15_42, i15_43, i15_44, i15_45, i15_46, i15_47, i15_48, i15_49, i15_50, i15_51, i15_52, i15_53, i15_54, i15_55, i15_56, i15_57, i15_58, i15_59, i15_60, i15_61, i15_62, i15_63, i15_64, rv_26_1, mC_2, mC_s2, c24, c13, c16', b_0]
  unfold c_clkR
  by_cases h1 : f (152 + 47 * u + x) = -1
  · by_cases h2 : f (145 + 47 * u) < f (65 + x)
    · cases h3 : c_stale f u <;> simp [h1, h2, h3, Int32.not_le.mpr h2]
    · simp [h1, h2, Int32.not_lt.mp h2]
  · by_cases h2 : f (152 + 47 * u + x) = f (65 + x)
    · have h3 : ¬ f (65 + x) = -1 := by rw [← h2]; exact h1
      simp [h1, h2, h3]
    · simp [h1, h2]
theorem c15 (ht : 55 ≤ t) (hu : u < 3) (hx : x < 8) : WPC V 15 [.ref 26, .int (nI u), .int (nI x)] m n ls st t (mC J f g nn ww) L (m_RR e a b) Q = WP V m n ls ((.int (c_clkR f g u x).1) :: st) t (mC J (c_clkR f g u x).2.1 (c_clkR f g u x).2.2 nn ww) L (m_RR e a b) Q := wpc_of (fun Q => w15 ht hu hx)
end T21
