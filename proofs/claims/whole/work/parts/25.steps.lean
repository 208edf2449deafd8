/-! specs: it counts; the steps' leaves -/
abbrev c_fm : Type := (Nat → Int32) × Int32
def c_mk0 (s : c_fm) : c_fm := if s.2 = nI 0 then (m_sc s.1 0 (s.1 0 + nI 1), s.1 0 + nI 1) else s
def c_mk1 (u x : Nat) (s : c_fm) : c_fm := if s.1 (176 + 47 * u + x) = -1 then s else (c_change (c_mk0 s).1 x ((c_mk0 s).1 (176 + 47 * u + x)) ((c_mk0 s).1 (176 + 47 * u + 8 + x)), (c_mk0 s).2)
def c_mk (f : Nat → Int32) (u : Nat) : c_fm := s_loop (c_mk1 u) 0 8 (f, nI 0)
def c_finish (f nn ww : Nat → Int32) (u k : Nat) : c_P :=
  if decide (f (15 + u) = -1) || decide (¬ f (12 + u) ≤ f (147 + 47 * u)) then (nI 105, f, nn, ww)
  else if decide (¬ f 564 = nI 3) && (decide (¬ f (15 + u) = nI 3) && c_meets f u) then (nI 0, f, nn, ww)
  else if decide (¬ f 564 = nI 3) && (decide (¬ f (15 + u) = nI 3) && c_stale f u) then (nI 2, f, nn, ww)
  else (nI 6, c_leave (c_mk f u).1 u, c_note (c_mk f u).1 nn ww u k (c_mk f u).2)
def c_outer (f : Nat → Int32) (u : Nat) : Int32 := if f (15 + u) = -1 then nI 0 else f (147 + 47 * u)
def c_bring (f : Nat → Int32) (u s : Nat) : Nat → Int32 := va_cpy (va_cpy f f (288 + s) (21 + 4 * u) 4) (va_cpy f f (288 + s) (21 + 4 * u) 4) (292 + s) (176 + 47 * u) 16
def c_sc (u d : Nat) : Nat := (4 * u + d) * 22
def c_stop (f : Nat → Int32) (u : Nat) : Int32 × (Nat → Int32) := if decide (¬ f (15 + u) = -1) || decide (¬ f (12 + u) ≤ nI 0) then (nI 102, f) else (nI 4, m_sc f (3 + u) (nI 2))
def c_num (f g : Nat → Int32) (r : Nat) : Int32 × (Nat → Int32) := if g 2 = nI 0 then (nI 101, f) else if g 2 = nI 2 then (nI 103, f) else (nI 6, m_sc f r (g 3))
def c_item (J : m_I) (L : m_L) (f g : Nat → Int32) (r : Nat) (i : Int32) : Int32 × (Nat → Int32) :=
  if g 2 = nI 0 then (nI 101, f) else if g 2 = nI 1 then (nI 103, f)
  else if ¬ (nI 0 ≤ g 3 ∧ g 3 < nI 6) then (nI 101, f)
  else if J 7 (g 3).toNatClampNeg = -1 then (nI 101, f)
  else if ¬ (nI 0 ≤ i ∧ i < J 8 (g 3).toNatClampNeg) then (nI 102, f)
  else (nI 6, m_sc f r (L 9 ((g 3).toNatClampNeg * 16 + i.toNatClampNeg)).toInt32)
/-- from the innermost scope on, d of them, down to a floor -/
def c_cau (u fl : Nat) (v : Int32) : Nat → (Nat → Int32) → Bool × (Nat → Int32)
  | 0, f => (false, f)
  | d + 1, f => if d < fl then (false, f) else if f (286 + c_sc u d) = nI 14 then c_cau u fl v d (m_sc f (12 + u) (nI d)) else
    let f2 := if f (286 + c_sc u d) = nI 16 then c_bring (m_sc f (12 + u) (nI d)) u (c_sc u d) else m_sc f (12 + u) (nI d)
    (true, m_sc (m_sc f2 (21 + 4 * u) v) (6 + u) (f2 (287 + c_sc u d)))
def c_clo (f : Nat → Int32) (u : Nat) (v : Int32) (d o : Nat) : Int32 × (Nat → Int32) := match d with
  | 0 => (nI 105, f)
  | d + 1 => if d < o then (nI 105, f) else if f (286 + c_sc u d) = v then (nI 6, m_sc f (12 + u) (nI d)) else (nI 105, f)
def c_opn (f : Nat → Int32) (u k p d : Nat) : Nat → Int32 :=
  let f1 := c_fill (m_sc (m_sc (m_sc f (12 + u) (nI (d + 1))) (286 + c_sc u d) (nI k)) (287 + c_sc u d) (nI p)) (288 + c_sc u d) (286 + c_sc u d + 22) (nI 0)
  if k = 18 then f1 else va_cpy (va_cpy f1 f1 (21 + 4 * u) (288 + c_sc u d) 4) (va_cpy f1 f1 (21 + 4 * u) (288 + c_sc u d) 4) (176 + 47 * u) (292 + c_sc u d) 16
def c_open (f : Nat → Int32) (u k p d : Nat) : Int32 × (Nat → Int32) :=
  if decide (k = 14) && decide (¬ f (15 + u) = nI 2) then (nI 105, f)
  else if decide (k = 16) && (decide (f (15 + u) = -1) || decide (f (15 + u) = nI 3)) then (nI 105, f)
  else if ¬ d < 4 then (nI 105, f) else (nI 6, c_opn f u k p d)
theorem n_sm0 : nI 0 - nI 1 = -1 := by decide
theorem n_am1 (d : Nat) : nI d + (-1) = nI d - nI 1 := by
  rw [Int32.sub_eq_add_neg]; rfl
theorem n_lm1 {a : Nat} (h : a < 2147483648) : (-1 < nI a) = True := by
  refine propext ⟨fun _ => trivial, fun _ => ?_⟩
  rw [Int32.lt_iff_toInt_lt, nI_toInt h, show (-1 : Int32).toInt = -1 by decide]; omega
section T25
variable {V : m_V} {t m n : Nat} {ls st : List Value} {I J : m_I} {f g nn ww : Nat → Int32} {L : m_L} {R : m_R} {e : Option Nat} {a b : Nat} {Q : Option Value → Nat → m_I → m_L → m_R → Prop} {u x k : Nat}
theorem w25_10 (ht : 55 ≤ t) (hu : u < 3) : ∀ (c x : Nat) (s : c_fm), x + c = 8 → WP V 25 10 [.ref 26, .int (nI u), .int (nI (176 + 47 * u)), .int s.2, .int (nI x)] [] t (mC J s.1 g nn ww) L (m_RR e a b) Q = WP V 25 54 [.ref 26, .int (nI u), .int (nI (176 + 47 * u)), .int (s_loop (c_mk1 u) x c s).2, .int (nI 8)] [] t (mC J (s_loop (c_mk1 u) x c s).1 g nn ww) L (m_RR e a b) Q := by
  intro c
  induction c with
  | zero =>
    intro x s hx
    obtain rfl : x = 8 := by omega
    rw [i25_10]
    simp (disch := first | assumption | omega | decide) only [nI_add, n_mul, n_sub, n_le, n_lt, n_eq, n_ne1, n_0, m_bl_t, m_bl_f, if_true, if_false, Nat.reduceAdd, Nat.reduceMul, Nat.reduceSub, Nat.reduceLeDiff, Nat.reduceEqDiff, Nat.add_zero, Nat.add_sub_cancel, Option.toList, List.cons_append, List.nil_append, i25_11, i25_12, Nat.le_refl, s_loop]
  | succ c ih =>
    intro x s hx
    have hx8 : ¬ 8 ≤ x := by omega
    have hx7 : x < 8 := by omega
    rw [i25_10, s_loop]
    simp (disch := first | assumption | omega | decide) only [nI_add, n_mul, n_sub, n_le, n_lt, n_eq, n_ne1, n_0, m_bl_t, m_bl_f, if_true, if_false, Nat.reduceAdd, Nat.reduceMul, Nat.reduceSub, Nat.reduceLeDiff, Nat.reduceEqDiff, Nat.add_zero, Nat.add_sub_cancel, Option.toList, List.cons_append, List.nil_append, i25_11, i25_12, i25_13, i25_14, i25_15, i25_16, i25_17, i25_18, i25_19, i25_20, i25_21, i25_22, i25_23, rv_26_1, hx8, mC_2]
    by_cases h1 : s.1 (176 + 47 * u + x) = -1
    · have e1 : c_mk1 u x s = s := if_pos h1
      simp (disch := first | assumption | omega | decide) only [nI_add, n_mul, n_sub, n_le, n_lt, n_eq, n_ne1, n_0, m_bl_t, m_bl_f, if_true, if_false, Nat.reduceAdd, Nat.reduceMul, Nat.reduceSub, Nat.reduceLeDiff, Nat.reduceEqDiff, Nat.add_zero, Nat.add_sub_cancel, Option.toList, List.cons_append, List.nil_append, h1, i25_52, i25_53, ih (x + 1) s (show x + 1 + c = 8 by omega), e1]
    · have e1 : c_mk1 u x s = (c_change (c_mk0 s).1 x ((c_mk0 s).1 (176 + 47 * u + x)) ((c_mk0 s).1 (176 + 47 * u + 8 + x)), (c_mk0 s).2) := if_neg h1
      by_cases h2 : s.2 = nI 0
      · have e2 : c_mk0 s = (m_sc s.1 0 (s.1 0 + nI 1), s.1 0 + nI 1) := if_pos h2
        rw [e2] at e1
        rw [e1]
        simp (disch := first | assumption | omega | decide) only [nI_add, n_mul, n_sub, n_le, n_lt, n_eq, n_ne1, n_0, m_bl_t, m_bl_f, if_true, if_false, Nat.reduceAdd, Nat.reduceMul, Nat.reduceSub, Nat.reduceLeDiff, Nat.reduceEqDiff, Nat.add_zero, Nat.add_sub_cancel, Option.toList, List.cons_append, List.nil_append, h1, h2, i25_24, i25_25, i25_26, i25_27, i25_28, i25_29, i25_30, i25_31, i25_32, i25_33, i25_34, i25_35, i25_36, i25_37, i25_38, i25_39, i25_40, i25_41, i25_42, i25_43, i25_44, i25_45, i25_46, i25_47, i25_48, i25_49, i25_50, i25_51, i25_52, i25_53, rv_26_0, rv_26_1, mC_2, mC_s2, c52]
        exact ih (x + 1) (_, _) (by omega)
      · have e2 : c_mk0 s = s := if_neg h2
        rw [e2] at e1
        rw [e1]
        simp (disch := first | assumption | omega | decide) only [nI_add, n_mul, n_sub, n_le, n_lt, n_eq, n_ne1, n_0, m_bl_t, m_bl_f, if_true, if_false, Nat.reduceAdd, Nat.reduceMul, Nat.reduceSub, Nat.reduceLeDiff, Nat.reduceEqDiff, Nat.add_zero, Nat.add_sub_cancel, Option.toList, List.cons_append, List.nil_append, h1, h2, i25_34, i25_35, i25_36, i25_37, i25_38, i25_39, i25_40, i25_41, i25_42, i25_43, i25_44, i25_45, i25_46, i25_47, i25_48, i25_49, i25_50, i25_51, i25_52, i25_53, rv_26_0, rv_26_1, mC_2, mC_s2, c52]
        exact ih (x + 1) (c_change s.1 x (s.1 (176 + 47 * u + x)) (s.1 (176 + 47 * u + 8 + x)), s.2) (by omega)
theorem w25 (ht : 55 ≤ t) (hu : u < 3) (hk : nn 2 = nI k) (hk2 : k < 1000000) : WP V 25 0 (m_loc 25 [.ref 26, .int (nI u)]) [] t (mC J f g nn ww) L (m_RR e a b) Q = Q none t (mC J (c_mk f u).1 g (c_note (c_mk f u).1 nn ww u k (c_mk f u).2).1 (c_note (c_mk f u).1 nn ww u k (c_mk f u).2).2) L (m_RR e a b) := by
  rw [show m_loc 25 [.ref 26, .int (nI u)] = [.ref 26, .int (nI u), m_u, m_u, m_u] from rfl]
  simp (disch := first | assumption | omega | decide) only [nI_add, n_mul, n_sub, n_le, n_lt, n_eq, n_ne1, n_0, m_bl_t, m_bl_f, if_true, if_false, Nat.reduceAdd, Nat.reduceMul, Nat.reduceSub, Nat.reduceLeDiff, Nat.reduceEqDiff, Nat.add_zero, Nat.add_sub_cancel, Option.toList, List.cons_append, List.nil_append, i25_0, i25_1, i25_2, i25_3, i25_4, i25_5, i25_6, i25_7, i25_8, i25_9]
  have := w25_10 (V := V) (J := J) (g := g) (nn := nn) (ww := ww) (L := L) (e := e) (a := a) (b := b) (Q := Q) ht hu 8 0 (f, nI 0) rfl
  dsimp only at this
  rw [this]
  simp (disch := first | assumption | omega | decide) only [nI_add, n_mul, n_sub, n_le, n_lt, n_eq, n_ne1, n_0, m_bl_t, m_bl_f, if_true, if_false, Nat.reduceAdd, Nat.reduceMul, Nat.reduceSub, Nat.reduceLeDiff, Nat.reduceEqDiff, Nat.add_zero, Nat.add_sub_cancel, Option.toList, List.cons_append, List.nil_append, i25_54, i25_55, i25_56, i25_57, i25_58, i25_59, i25_60, i25_61, i25_62, rv_13_3, rv_1_3, rv_26_0, rv_26_1, c56 (k := k)]
  rfl
theorem c25 (ht : 55 ≤ t) (hu : u < 3) (hk : nn 2 = nI k) (hk2 : k < 1000000) : WPC V 25 [.ref 26, .int (nI u)] m n ls st t (mC J f g nn ww) L (m_RR e a b) Q = WP V m n ls st t (mC J (c_mk f u).1 g (c_note (c_mk f u).1 nn ww u k (c_mk f u).2).1 (c_note (c_mk f u).1 nn ww u k (c_mk f u).2).2) L (m_RR e a b) Q := wpc_of (fun Q => w25 ht hu hk hk2)
theorem w22 (ht : 55 ≤ t) (hu : u < 3) (hk : nn 2 = nI k) (hk2 : k < 1000000) : WP V 22 0 (m_loc 22 [.ref 26, .int (nI u)]) [] t (mC J f g nn ww) L (m_RR e a b) Q = Q (some (.int (c_finish f nn ww u k).1)) t (mC J (c_finish f nn ww u k).2.1 g (c_finish f nn ww u k).2.2.1 (c_finish f nn ww u k).2.2.2) L (m_RR e a b) := by
  rw [show m_loc 22 [.ref 26, .int (nI u)] = [.ref 26, .int (nI u), m_u] from rfl]
  simp (disch := first | assumption | omega | decide) only [nI_add, n_mul, n_sub, n_le, n_lt, n_eq, n_ne1, n_0, m_bl_t, m_bl_f, if_true, if_false, Nat.reduceAdd, Nat.reduceMul, Nat.reduceSub, Nat.reduceLeDiff, Nat.reduceEqDiff, Nat.add_zero, Nat.add_sub_cancel, Option.toList, List.cons_append, List.nil_append, i22_0, i22_1, i22_2, i22_3, i22_4, i22_5, i22_6, i22_7, i22_8, i22_9, i22_10, i22_11, i22_12, i22_13, i22_14, i22_15, i22_16, i22_17, i22_18, i22_19, i22_20, i22_21, i22_22, i22_23, i22_24, i22_25, i22_26, i22_27, i22_28, i22_29, i22_30, i22_31, i22_32, i22_33, i22_34, i22_35, i22_36, i22_37, i22_38, i22_39, i22_40, i22_41, i22_42, i22_43, i22_44, i22_45, i22_46, i22_47, i22_48, i22_49, i22_50, i22_51, i22_52, i22_53, rv_26_1, mC_2, mC_s2, c8, b_0, c23, c24, c25 (k := k), c27]
  unfold c_finish
  by_cases h1 : f (15 + u) = -1
  · simp [h1]
  · by_cases h2 : f (12 + u) ≤ f (147 + 47 * u)
    · by_cases h3 : f 564 = nI 3
      · simp [h1, h2, h3]
      · by_cases h4 : f (15 + u) = nI 3
        · have h5 : ¬ nI 3 = -1 := n_ne1' (by decide)
          simp [h2, h3, h4, h5]
        · cases h5 : c_meets f u <;> cases h6 : c_stale f u <;> simp [h1, h2, h3, h4]
    · simp [h1, h2]
theorem c22 (ht : 55 ≤ t) (hu : u < 3) (hk : nn 2 = nI k) (hk2 : k < 1000000) : WPC V 22 [.ref 26, .int (nI u)] m n ls st t (mC J f g nn ww) L (m_RR e a b) Q = WP V m n ls ((.int (c_finish f nn ww u k).1) :: st) t (mC J (c_finish f nn ww u k).2.1 g (c_finish f nn ww u k).2.2.1 (c_finish f nn ww u k).2.2.2) L (m_RR e a b) Q := wpc_of (fun Q => w22 ht hu hk hk2)
theorem w109 {v z : Int32} : WP V 109 0 (m_loc 109 [.int v, .int z]) [] t I L R Q = Q (some (.int (m_bl (decide (nI 0 ≤ v) && decide (v < z))))) t I L R := by
  rw [show m_loc 109 [.int v, .int z] = [.int v, .int z] from rfl]
  simp (disch := first | assumption | omega | decide) only [nI_add, n_mul, n_sub, n_le, n_lt, n_eq, n_ne1, n_0, m_bl_t, m_bl_f, if_true, if_false, Nat.reduceAdd, Nat.reduceMul, Nat.reduceSub, Nat.reduceLeDiff, Nat.reduceEqDiff, Nat.add_zero, Nat.add_sub_cancel, Option.toList, List.cons_append, List.nil_append, i109_0, i109_1, i109_2, i109_3, i109_4, i109_5, i109_6, i109_7, i109_8]
  by_cases h1 : v < nI 0
  · simp [h1, m_bl, Int32.not_le.mpr h1]
  · by_cases h2 : v < z
    · simp [h1, h2, m_bl, Int32.not_lt.mp h1, Int32.not_le.mpr h2]
    · simp [h1, h2, m_bl, Int32.not_lt.mp h2]
theorem c109 {v z : Int32} : WPC V 109 [.int v, .int z] m n ls st t I L R Q = WP V m n ls ((.int (m_bl (decide (nI 0 ≤ v) && decide (v < z)))) :: st) t I L R Q := wpc_of (fun Q => w109 )
theorem w64 (ht : 55 ≤ t) (hx : x < 6) : WP V 64 0 (m_loc 64 [.ref 6, .int (nI x)]) [] t I L (m_RR e a b) Q = Q (some (.int (m_bl (decide (I 7 x = -1))))) t I L (m_RR e a b) := by
  rw [show m_loc 64 [.ref 6, .int (nI x)] = [.ref 6, .int (nI x)] from rfl]
  simp (disch := first | assumption | omega | decide) only [nI_add, n_mul, n_sub, n_le, n_lt, n_eq, n_ne1, n_0, m_bl_t, m_bl_f, if_true, if_false, Nat.reduceAdd, Nat.reduceMul, Nat.reduceSub, Nat.reduceLeDiff, Nat.reduceEqDiff, Nat.add_zero, Nat.add_sub_cancel, Option.toList, List.cons_append, List.nil_append, i64_0, i64_1, i64_2, i64_3, i64_4, i64_5, i64_6, i64_7, i64_8, i64_9, rv_18_0, rv_6_0]
  by_cases h : I 7 x = -1 <;> simp [h, m_bl]
theorem c64 (ht : 55 ≤ t) (hx : x < 6) : WPC V 64 [.ref 6, .int (nI x)] m n ls st t I L (m_RR e a b) Q = WP V m n ls ((.int (m_bl (decide (I 7 x = -1)))) :: st) t I L (m_RR e a b) Q := wpc_of (fun Q => w64 ht hx)
theorem w74 (ht : 55 ≤ t) (hu : u < 3) {v : Int32} : WP V 74 0 (m_loc 74 [.ref 25, .int (nI u), .int v]) [] t (mC J f g nn ww) L (m_RR e a b) Q = Q (some (.int (nI 1))) t (mC J (m_sc f (6 + u) v) g nn ww) L (m_RR e a b) := by
  rw [show m_loc 74 [.ref 25, .int (nI u), .int v] = [.ref 25, .int (nI u), .int v] from rfl]
  simp (disch := first | assumption | omega | decide) only [nI_add, n_mul, n_sub, n_le, n_lt, n_eq, n_ne1, n_0, m_bl_t, m_bl_f, if_true, if_false, Nat.reduceAdd, Nat.reduceMul, Nat.reduceSub, Nat.reduceLeDiff, Nat.reduceEqDiff, Nat.add_zero, Nat.add_sub_cancel, Option.toList, List.cons_append, List.nil_append, i74_0, i74_1, i74_2, i74_3, i74_4, i74_5, i74_6, i74_7, i74_8, rv_25_1, mC_2, mC_s2]
theorem c74 (ht : 55 ≤ t) (hu : u < 3) {v : Int32} : WPC V 74 [.ref 25, .int (nI u), .int v] m n ls st t (mC J f g nn ww) L (m_RR e a b) Q = WP V m n ls ((.int (nI 1)) :: st) t (mC J (m_sc f (6 + u) v) g nn ww) L (m_RR e a b) Q := wpc_of (fun Q => w74 ht hu)
theorem w75 (ht : 55 ≤ t) {r : Nat} (hr : r < 581) : WP V 75 0 (m_loc 75 [.ref 25, .int (nI r)]) [] t (mC J f g nn ww) L (m_RR e a b) Q = Q (some (.int (c_num f g r).1)) t (mC J (c_num f g r).2 g nn ww) L (m_RR e a b) := by
  rw [show m_loc 75 [.ref 25, .int (nI r)] = [.ref 25, .int (nI r)] from rfl]
  simp (disch := first | assumption | omega | decide) only [nI_add, n_mul, n_sub, n_le, n_lt, n_eq, n_ne1, n_0, m_bl_t, m_bl_f, if_true, if_false, Nat.reduceAdd, Nat.reduceMul, Nat.reduceSub, Nat.reduceLeDiff, Nat.reduceEqDiff, Nat.add_zero, Nat.add_sub_cancel, Option.toList, List.cons_append, List.nil_append, i75_0, i75_1, i75_2, i75_3, i75_4, i75_5, i75_6, i75_7, i75_8, i75_9, i75_10, i75_11, i75_12, i75_13, i75_14, i75_15, i75_16, i75_17, i75_18, i75_19, i75_20, i75_21, rv_25_1, rv_25_2, mC_2, mC_26, mC_s2]
  unfold c_num
  by_cases h1 : g 2 = nI 0
  · simp [h1]
  · have e20 : ¬ nI 2 = nI 0 := by decide
    by_cases h2 : g 2 = nI 2 <;> simp [h1, h2, e20]
theorem c75 (ht : 55 ≤ t) {r : Nat} (hr : r < 581) : WPC V 75 [.ref 25, .int (nI r)] m n ls st t (mC J f g nn ww) L (m_RR e a b) Q = WP V m n ls ((.int (c_num f g r).1) :: st) t (mC J (c_num f g r).2 g nn ww) L (m_RR e a b) Q := wpc_of (fun Q => w75 ht hr)
theorem w76 (ht : 55 ≤ t) {r : Nat} (hr : r < 581) {i : Int32} (hs : ∀ y, y < 6 → ∃ s, s ≤ 16 ∧ J 8 y = nI s) : WP V 76 0 (m_loc 76 [.ref 25, .int (nI r), .int i]) [] t (mC J f g nn ww) L (m_RR e a b) Q = Q (some (.int (c_item J L f g r i).1)) t (mC J (c_item J L f g r i).2 g nn ww) L (m_RR e a b) := by
  rw [show m_loc 76 [.ref 25, .int (nI r), .int i] = [.ref 25, .int (nI r), .int i, m_u] from rfl]
  simp (disch := first | assumption | omega | decide) only [nI_add, n_mul, n_sub, n_le, n_lt, n_eq, n_ne1, n_0, m_bl_t, m_bl_f, if_true, if_false, Nat.reduceAdd, Nat.reduceMul, Nat.reduceSub, Nat.reduceLeDiff, Nat.reduceEqDiff, Nat.add_zero, Nat.add_sub_cancel, Option.toList, List.cons_append, List.nil_append, i76_0, i76_1, i76_2, i76_3, i76_4, i76_5, i76_6, i76_7, i76_8, i76_9, i76_10, i76_11, i76_12, i76_13, i76_14, i76_15, i76_16, i76_17, i76_18, i76_19, i76_20, rv_25_2, mC_26, c109, b_0]
  unfold c_item
  by_cases h1 : g 2 = nI 0
  · simp [h1]
  · by_cases h2 : g 2 = nI 1
    · have e10 : ¬ nI 1 = nI 0 := by decide
      simp [h2, e10]
    · by_cases h3 : nI 0 ≤ g 3 ∧ g 3 < nI 6
      · obtain ⟨y, hy, hy2⟩ : ∃ y, y < 6 ∧ g 3 = nI y := by
          obtain ⟨j, hj, e1⟩ := nI_of (x := g 3) (Int32.not_lt.mpr h3.1)
          refine ⟨j, ?_, e1⟩
          have := h3.2
          rw [e1, n_lt (by omega) (by decide)] at this
          exact this
        obtain ⟨s, hs1, hs2⟩ := hs y hy
        have ec : (nI y).toNatClampNeg = y := nI_clamp (by omega)
        rw [hy2] at h3
        simp only [h1, h2, h3, hy2, ec, decide_true, Bool.and_true, Bool.true_eq_false, if_false, and_self, not_true]
        simp (disch := first | assumption | omega | decide) only [nI_add, n_mul, n_sub, n_le, n_lt, n_eq, n_ne1, n_0, m_bl_t, m_bl_f, if_true, if_false, Nat.reduceAdd, Nat.reduceMul, Nat.reduceSub, Nat.reduceLeDiff, Nat.reduceEqDiff, Nat.add_zero, Nat.add_sub_cancel, Option.toList, List.cons_append, List.nil_append, i76_21, i76_22, i76_23, i76_24, i76_25, i76_26, i76_27, i76_28, i76_29, i76_30, i76_31, i76_32, i76_33, i76_34, i76_35, i76_36, i76_37, rv_13_2, rv_18_1, rv_1_2, rv_25_0, rv_6_1, c64, mC_7, mC_8, c109, b_0]
        by_cases h4 : J 7 y = -1
        · simp only [h4, decide_true, Bool.true_eq_false, if_false, if_true]
          all_goals simp (disch := first | assumption | omega | decide) only [nI_add, n_mul, n_sub, n_le, n_lt, n_eq, n_ne1, n_0, m_bl_t, m_bl_f, if_true, if_false, Nat.reduceAdd, Nat.reduceMul, Nat.reduceSub, Nat.reduceLeDiff, Nat.reduceEqDiff, Nat.add_zero, Nat.add_sub_cancel, Option.toList, List.cons_append, List.nil_append, i76_27, i76_28]
        · simp only [h4, decide_false, if_true, if_false]
          by_cases h5 : nI 0 ≤ i ∧ i < J 8 y
          · obtain ⟨z, hz, hz2⟩ : ∃ z, z < 16 ∧ i = nI z := by
              obtain ⟨j, hj, e1⟩ := nI_of (x := i) (Int32.not_lt.mpr h5.1)
              refine ⟨j, ?_, e1⟩
              have := h5.2
              rw [hs2, e1, n_lt (by omega) (by omega)] at this
              omega
            subst hz2
            have ez : (nI z).toNatClampNeg = z := nI_clamp (by omega)
            simp only [h5, decide_true, Bool.and_true, Bool.true_eq_false, if_false, and_self, not_true, ez]
            all_goals simp (disch := first | assumption | omega | decide) only [nI_add, n_mul, n_sub, n_le, n_lt, n_eq, n_ne1, n_0, m_bl_t, m_bl_f, if_true, if_false, Nat.reduceAdd, Nat.reduceMul, Nat.reduceSub, Nat.reduceLeDiff, Nat.reduceEqDiff, Nat.add_zero, Nat.add_sub_cancel, Option.toList, List.cons_append, List.nil_append, i76_40, i76_41, i76_42, i76_43, i76_44, i76_45, i76_46, i76_47, i76_48, i76_49, i76_50, i76_51, i76_52, i76_53, i76_54, i76_55, i76_56, rv_13_2, rv_18_2, rv_1_2, rv_25_0, rv_25_1, rv_6_2, mC_2, mC_s2]
          · have e5 : (decide (nI 0 ≤ i) && decide (i < J 8 y)) = false := by
              rw [← Bool.not_eq_true, Bool.and_eq_true, decide_eq_true_eq, decide_eq_true_eq]; exact h5
            simp only [h5, e5, if_true, not_false_iff]
            all_goals simp (disch := first | assumption | omega | decide) only [nI_add, n_mul, n_sub, n_le, n_lt, n_eq, n_ne1, n_0, m_bl_t, m_bl_f, if_true, if_false, Nat.reduceAdd, Nat.reduceMul, Nat.reduceSub, Nat.reduceLeDiff, Nat.reduceEqDiff, Nat.add_zero, Nat.add_sub_cancel, Option.toList, List.cons_append, List.nil_append, i76_38, i76_39]
      · have e3 : (decide (nI 0 ≤ g 3) && decide (g 3 < nI 6)) = false := by
          rw [← Bool.not_eq_true, Bool.and_eq_true, decide_eq_true_eq, decide_eq_true_eq]; exact h3
        simp only [h1, h2, h3, e3, if_true, if_false, not_false_iff]
        all_goals simp (disch := first | assumption | omega | decide) only [nI_add, n_mul, n_sub, n_le, n_lt, n_eq, n_ne1, n_0, m_bl_t, m_bl_f, if_true, if_false, Nat.reduceAdd, Nat.reduceMul, Nat.reduceSub, Nat.reduceLeDiff, Nat.reduceEqDiff, Nat.add_zero, Nat.add_sub_cancel, Option.toList, List.cons_append, List.nil_append, i76_27, i76_28]
theorem c76 (ht : 55 ≤ t) {r : Nat} (hr : r < 581) {i : Int32} (hs : ∀ y, y < 6 → ∃ s, s ≤ 16 ∧ J 8 y = nI s) : WPC V 76 [.ref 25, .int (nI r), .int i] m n ls st t (mC J f g nn ww) L (m_RR e a b) Q = WP V m n ls ((.int (c_item J L f g r i).1) :: st) t (mC J (c_item J L f g r i).2 g nn ww) L (m_RR e a b) Q := wpc_of (fun Q => w76 ht hr hs)
theorem w77 {d : Nat} : WP V 77 0 (m_loc 77 [.int (nI u), .int (nI d)]) [] t I L R Q = Q (some (.int (nI (c_sc u d)))) t I L R := by
  rw [show m_loc 77 [.int (nI u), .int (nI d)] = [.int (nI u), .int (nI d)] from rfl]
  simp (disch := first | assumption | omega | decide) only [nI_add, n_mul, n_sub, n_le, n_lt, n_eq, n_ne1, n_0, m_bl_t, m_bl_f, if_true, if_false, Nat.reduceAdd, Nat.reduceMul, Nat.reduceSub, Nat.reduceLeDiff, Nat.reduceEqDiff, Nat.add_zero, Nat.add_sub_cancel, Option.toList, List.cons_append, List.nil_append, i77_0, i77_1, i77_2, i77_3, i77_4, i77_5, i77_6, i77_7]
  rfl
theorem c77 {d : Nat} : WPC V 77 [.int (nI u), .int (nI d)] m n ls st t I L R Q = WP V m n ls ((.int (nI (c_sc u d))) :: st) t I L R Q := wpc_of (fun Q => w77 )
theorem w78 (ht : 55 ≤ t) (hu : u < 3) : WP V 78 0 (m_loc 78 [.ref 25, .int (nI u)]) [] t I L (m_RR e a b) Q = Q (some (.int (c_outer (I 2) u))) t I L (m_RR e a b) := by
  rw [show m_loc 78 [.ref 25, .int (nI u)] = [.ref 25, .int (nI u)] from rfl]
  simp (disch := first | assumption | omega | decide) only [nI_add, n_mul, n_sub, n_le, n_lt, n_eq, n_ne1, n_0, m_bl_t, m_bl_f, if_true, if_false, Nat.reduceAdd, Nat.reduceMul, Nat.reduceSub, Nat.reduceLeDiff, Nat.reduceEqDiff, Nat.add_zero, Nat.add_sub_cancel, Option.toList, List.cons_append, List.nil_append, i78_0, i78_1, i78_2, i78_3, i78_4, i78_5, i78_6, i78_7, i78_8, i78_9, i78_10, i78_11, i78_12, i78_13, i78_14, i78_15, i78_16, i78_17, i78_18, rv_25_1]
  by_cases h : I 2 (15 + u) = -1 <;> simp [h, c_outer]
theorem c78 (ht : 55 ≤ t) (hu : u < 3) : WPC V 78 [.ref 25, .int (nI u)] m n ls st t I L (m_RR e a b) Q = WP V m n ls ((.int (c_outer (I 2) u)) :: st) t I L (m_RR e a b) Q := wpc_of (fun Q => w78 ht hu)
theorem w81 (ht : 55 ≤ t) (hu : u < 3) {s : Nat} (hs : s ≤ 242) : WP V 81 0 (m_loc 81 [.ref 25, .int (nI u), .int (nI s)]) [] t I L (m_RR e a b) Q = Q none t (m_sc I 2 (c_bring (I 2) u s)) L (m_RR e a b) := by
  rw [show m_loc 81 [.ref 25, .int (nI u), .int (nI s)] = [.ref 25, .int (nI u), .int (nI s)] from rfl]
  simp (disch := first | assumption | omega | decide) only [nI_add, n_mul, n_sub, n_le, n_lt, n_eq, n_ne1, n_0, m_bl_t, m_bl_f, if_true, if_false, Nat.reduceAdd, Nat.reduceMul, Nat.reduceSub, Nat.reduceLeDiff, Nat.reduceEqDiff, Nat.add_zero, Nat.add_sub_cancel, Option.toList, List.cons_append, List.nil_append, i81_0, i81_1, i81_2, i81_3, i81_4, i81_5, i81_6, i81_7, i81_8, i81_9, i81_10, i81_11, i81_12, i81_13, i81_14, i81_15, i81_16, i81_17, i81_18, i81_19, i81_20, i81_21, i81_22, i81_23, i81_24, i81_25, i81_26, i81_27, i81_28, rv_25_1, s_scc, m_sc_self]
  rfl
theorem c81 (ht : 55 ≤ t) (hu : u < 3) {s : Nat} (hs : s ≤ 242) : WPC V 81 [.ref 25, .int (nI u), .int (nI s)] m n ls st t I L (m_RR e a b) Q = WP V m n ls st t (m_sc I 2 (c_bring (I 2) u s)) L (m_RR e a b) Q := wpc_of (fun Q => w81 ht hu hs)
theorem w71 (ht : 55 ≤ t) (hu : u < 3) : WP V 71 0 (m_loc 71 [.ref 25, .int (nI u)]) [] t (mC J f g nn ww) L (m_RR e a b) Q = Q (some (.int (c_stop f u).1)) t (mC J (c_stop f u).2 g nn ww) L (m_RR e a b) := by
  rw [show m_loc 71 [.ref 25, .int (nI u)] = [.ref 25, .int (nI u)] from rfl]
  simp (disch := first | assumption | omega | decide) only [nI_add, n_mul, n_sub, n_le, n_lt, n_eq, n_ne1, n_0, m_bl_t, m_bl_f, if_true, if_false, Nat.reduceAdd, Nat.reduceMul, Nat.reduceSub, Nat.reduceLeDiff, Nat.reduceEqDiff, Nat.add_zero, Nat.add_sub_cancel, Option.toList, List.cons_append, List.nil_append, i71_0, i71_1, i71_2, i71_3, i71_4, i71_5, i71_6, i71_7, i71_8, i71_9, i71_10, i71_11, i71_12, i71_13, i71_14, i71_15, i71_16, i71_17, i71_18, i71_19, i71_20, i71_21, i71_22, i71_23, i71_24, i71_25, rv_25_1, mC_2, mC_s2]
  unfold c_stop
  by_cases h1 : f (15 + u) = -1
  · by_cases h2 : f (12 + u) ≤ nI 0 <;> simp [h1, h2]
  · simp [h1]
theorem c71 (ht : 55 ≤ t) (hu : u < 3) : WPC V 71 [.ref 25, .int (nI u)] m n ls st t (mC J f g nn ww) L (m_RR e a b) Q = WP V m n ls ((.int (c_stop f u).1) :: st) t (mC J (c_stop f u).2 g nn ww) L (m_RR e a b) Q := wpc_of (fun Q => w71 ht hu)
theorem c_sc_lt {u d : Nat} (hu : u < 3) (hd : d < 4) : c_sc u d ≤ 242 := by unfold c_sc; omega
theorem w84_9 (ht : 55 ≤ t) (hu : u < 3) {fl : Nat} (hfl : fl ≤ 4) {v : Int32} : ∀ (d : Nat) (f : Nat → Int32) (y z : Value), d ≤ 4 → WP V 84 9 [.ref 25, .int (nI u), .int (nI fl), .int v, .int (nI d - nI 1), y, z] [] t (mC J f g nn ww) L (m_RR e a b) Q = Q (some (.int (m_bl (c_cau u fl v d f).1))) t (mC J (c_cau u fl v d f).2 g nn ww) L (m_RR e a b) := by
  intro d
  induction d with
  | zero =>
    intro f y z _
    rw [n_sm0, i84_9]
    simp (disch := first | assumption | omega | decide) only [nI_add, n_mul, n_sub, n_le, n_lt, n_eq, n_ne1, n_0, m_bl_t, m_bl_f, if_true, if_false, Nat.reduceAdd, Nat.reduceMul, Nat.reduceSub, Nat.reduceLeDiff, Nat.reduceEqDiff, Nat.add_zero, Nat.add_sub_cancel, Option.toList, List.cons_append, List.nil_append, i84_10, i84_11, i84_66, i84_67, n_lm1, c_cau]
  | succ d ih =>
    intro f y z hd
    have hd4 : d < 4 := by omega
    have hsc := c_sc_lt hu hd4
    have e0 : nI (d + 1) - nI 1 = nI d := by rw [n_sub (by omega), Nat.add_sub_cancel]
    rw [e0, i84_9]
    simp (disch := first | assumption | omega | decide) only [nI_add, n_mul, n_sub, n_le, n_lt, n_eq, n_ne1, n_0, m_bl_t, m_bl_f, if_true, if_false, Nat.reduceAdd, Nat.reduceMul, Nat.reduceSub, Nat.reduceLeDiff, Nat.reduceEqDiff, Nat.add_zero, Nat.add_sub_cancel, Option.toList, List.cons_append, List.nil_append, i84_10, i84_11, c_cau]
    by_cases h1 : d < fl
    · simp (disch := first | assumption | omega | decide) only [nI_add, n_mul, n_sub, n_le, n_lt, n_eq, n_ne1, n_0, m_bl_t, m_bl_f, if_true, if_false, Nat.reduceAdd, Nat.reduceMul, Nat.reduceSub, Nat.reduceLeDiff, Nat.reduceEqDiff, Nat.add_zero, Nat.add_sub_cancel, Option.toList, List.cons_append, List.nil_append, h1, i84_66, i84_67]
    · simp (disch := first | assumption | omega | decide) only [nI_add, n_mul, n_sub, n_le, n_lt, n_eq, n_ne1, n_0, m_bl_t, m_bl_f, if_true, if_false, Nat.reduceAdd, Nat.reduceMul, Nat.reduceSub, Nat.reduceLeDiff, Nat.reduceEqDiff, Nat.add_zero, Nat.add_sub_cancel, Option.toList, List.cons_append, List.nil_append, h1, i84_12, i84_13, i84_14, i84_15, i84_16, i84_17, i84_18, i84_19, i84_20, i84_21, i84_22, i84_23, i84_24, i84_25, i84_26, i84_27, i84_28, i84_29, i84_30, i84_31, i84_32, rv_25_1, c77, mC_2, mC_s2]
      by_cases h2 : f (286 + c_sc u d) = nI 14
      · simp (disch := first | assumption | omega | decide) only [nI_add, n_mul, n_sub, n_le, n_lt, n_eq, n_ne1, n_0, m_bl_t, m_bl_f, if_true, if_false, Nat.reduceAdd, Nat.reduceMul, Nat.reduceSub, Nat.reduceLeDiff, Nat.reduceEqDiff, Nat.add_zero, Nat.add_sub_cancel, Option.toList, List.cons_append, List.nil_append, h2, i84_33, i84_64, i84_65, n_am1]
        exact ih _ _ _ (by omega)
      · by_cases h3 : f (286 + c_sc u d) = nI 16
        · simp (disch := first | assumption | omega | decide) only [nI_add, n_mul, n_sub, n_le, n_lt, n_eq, n_ne1, n_0, m_bl_t, m_bl_f, if_true, if_false, Nat.reduceAdd, Nat.reduceMul, Nat.reduceSub, Nat.reduceLeDiff, Nat.reduceEqDiff, Nat.add_zero, Nat.add_sub_cancel, Option.toList, List.cons_append, List.nil_append, h2, h3, i84_34, i84_35, i84_36, i84_37, i84_38, i84_39, i84_40, i84_41, i84_42, i84_43, i84_44, i84_45, i84_46, i84_47, i84_48, i84_49, i84_50, i84_51, i84_52, i84_53, i84_54, i84_55, i84_56, i84_57, i84_58, i84_59, i84_60, i84_61, i84_62, i84_63, rv_25_1, mC_2, mC_s2, c81, m_sc_ne]
        · simp (disch := first | assumption | omega | decide) only [nI_add, n_mul, n_sub, n_le, n_lt, n_eq, n_ne1, n_0, m_bl_t, m_bl_f, if_true, if_false, Nat.reduceAdd, Nat.reduceMul, Nat.reduceSub, Nat.reduceLeDiff, Nat.reduceEqDiff, Nat.add_zero, Nat.add_sub_cancel, Option.toList, List.cons_append, List.nil_append, h2, h3, i84_34, i84_35, i84_36, i84_41, i84_42, i84_43, i84_44, i84_45, i84_46, i84_47, i84_48, i84_49, i84_50, i84_51, i84_52, i84_53, i84_54, i84_55, i84_56, i84_57, i84_58, i84_59, i84_60, i84_61, i84_62, i84_63, rv_25_1, mC_2, mC_s2, m_sc_ne]
theorem w84 (ht : 55 ≤ t) (hu : u < 3) {fl d : Nat} (hfl : fl ≤ 4) (hd : d ≤ 4) (hf : f (12 + u) = nI d) {v : Int32} : WP V 84 0 (m_loc 84 [.ref 25, .int (nI u), .int (nI fl), .int v]) [] t (mC J f g nn ww) L (m_RR e a b) Q = Q (some (.int (m_bl (c_cau u fl v d f).1))) t (mC J (c_cau u fl v d f).2 g nn ww) L (m_RR e a b) := by
  rw [show m_loc 84 [.ref 25, .int (nI u), .int (nI fl), .int v] = [.ref 25, .int (nI u), .int (nI fl), .int v, m_u, m_u, m_u] from rfl]
  simp (disch := first | assumption | omega | decide) only [i84_0, i84_1, rv_25_1, i84_2, i84_3, i84_4, nI_add, i84_5, mC_2, hf, i84_6, i84_7, i84_8]
  exact w84_9 ht hu hfl d f _ _ hd
theorem c84 (ht : 55 ≤ t) (hu : u < 3) {fl d : Nat} (hfl : fl ≤ 4) (hd : d ≤ 4) (hf : f (12 + u) = nI d) {v : Int32} : WPC V 84 [.ref 25, .int (nI u), .int (nI fl), .int v] m n ls st t (mC J f g nn ww) L (m_RR e a b) Q = WP V m n ls ((.int (m_bl (c_cau u fl v d f).1)) :: st) t (mC J (c_cau u fl v d f).2 g nn ww) L (m_RR e a b) Q := wpc_of (fun Q => w84 ht hu hfl hd hf)
end T25
