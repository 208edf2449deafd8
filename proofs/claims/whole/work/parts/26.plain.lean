/-! specs: scopes, plain acts -/
abbrev c_R : Type := Int32 × (Nat → Int32) × (Nat → Int32) × (Nat → Int32) × (Nat → Int32)
/-- an act at a place of the codes: its kind and what its limits say -/
def c_act (ac : Nat → Int32) (p kk i1 i2 i3 : Nat) (B : Int32) : Prop := ac p = nI kk ∧ ac (p + 2) = B ∧ ((m_Bl 1000).getD kk 0 ≠ 0 → ac (p + 1) = nI i1 ∧ i1 < (m_Bl 1000).getD kk 0) ∧ ((m_Bl 1001).getD kk 0 ≠ 0 → B = nI i2 ∧ i2 < (m_Bl 1001).getD kk 0) ∧ ((m_Bl 1002).getD kk 0 ≠ 0 → ac (p + 3) = nI i3 ∧ i3 < (m_Bl 1002).getD kk 0)
def c_lkn (q : c_O) (nn ww : Nat → Int32) (r : Nat) : c_R := if q.1 = nI 6 then ((c_num q.2.1 q.2.2 r).1, (c_num q.2.1 q.2.2 r).2, q.2.2, nn, ww) else (q.1, q.2.1, q.2.2, nn, ww)
def c_lki (J : m_I) (L : m_L) (q : c_O) (nn ww : Nat → Int32) (r i : Nat) : c_R := if q.1 = nI 6 then ((c_item J L q.2.1 q.2.2 r (q.2.1 i)).1, (c_item J L q.2.1 q.2.2 r (q.2.1 i)).2, q.2.2, nn, ww) else (q.1, q.2.1, q.2.2, nn, ww)
def c_gp (g : Nat → Int32) (q : c_P) : c_R := (q.1, q.2.1, g, q.2.2.1, q.2.2.2)
def c_plain (J : m_I) (L : m_L) (f g nn ww : Nat → Int32) (u kk i1 i2 i3 k : Nat) (B : Int32) : c_R := match kk with
  | 0 => (nI 6, m_sc f (21 + 4 * u + i1) B, g, nn, ww)
  | 1 => (nI 6, m_sc f (21 + 4 * u + i1) (f (21 + 4 * u + i1) + f (21 + 4 * u + i2)), g, nn, ww)
  | 2 => (nI 6, m_sc f (21 + 4 * u + i1) (f (21 + 4 * u + i1) - f (21 + 4 * u + i2)), g, nn, ww)
  | 3 => if f (21 + 4 * u + i2) = nI 0 then (nI 104, f, g, nn, ww) else (nI 6, m_sc f (21 + 4 * u + i1) (f (21 + 4 * u + i1) / f (21 + 4 * u + i2)), g, nn, ww)
  | 4 => c_lkn (c_look f g u i2) nn ww (21 + 4 * u + i1)
  | 5 => c_gp g (c_put f nn ww u i1 k (nI 1) (f (21 + 4 * u + i2)))
  | 6 => c_gp g (c_put f nn ww u i1 k (nI 2) B)
  | 7 => c_gp g (c_put f nn ww u i1 k (nI 0) (nI 0))
  | 8 => c_lki J L (c_look f g u i2) nn ww (21 + 4 * u + i1) (21 + 4 * u + i3)
  | 9 => (nI 1, m_sc f (6 + u) (nI i1), g, nn, ww)
  | _ => if f (21 + 4 * u + i1) = nI 0 then (nI 1, m_sc f (6 + u) B, g, nn, ww) else (nI 6, f, g, nn, ww)
def c_at (p s cc : Nat) : Int32 := if p < s then nI ((cc * 40 + p) * 4) else -1
section T26
variable {V : m_V} {t m n : Nat} {ls st : List Value} {I J : m_I} {f g nn ww : Nat → Int32} {L : m_L} {R : m_R} {e : Option Nat} {a b : Nat} {Q : Option Value → Nat → m_I → m_L → m_R → Prop} {u x k : Nat}
theorem w3 (ht : 55 ≤ t) {cc p s : Nat} (hc : cc < 6) (hp : p < 1000) (hs : I 5 cc = nI s) (hs2 : s ≤ 40) : WP V 3 0 (m_loc 3 [.ref 3, .int (nI cc), .int (nI p)]) [] t I L (m_RR e a b) Q = Q (some (.int (c_at p s cc))) t I L (m_RR e a b) := by
  rw [show m_loc 3 [.ref 3, .int (nI cc), .int (nI p)] = [.ref 3, .int (nI cc), .int (nI p)] from rfl]
  simp (disch := first | assumption | omega | decide) only [nI_add, n_mul, n_sub, n_le, n_lt, n_eq, n_ne1, n_0, m_bl_t, m_bl_f, if_true, if_false, Nat.reduceAdd, Nat.reduceMul, Nat.reduceSub, Nat.reduceLeDiff, Nat.reduceEqDiff, Nat.add_zero, Nat.add_sub_cancel, Option.toList, List.cons_append, List.nil_append, i3_0, i3_1, i3_2, i3_3, i3_4, i3_5, i3_6, i3_7, i3_8, i3_9, i3_10, i3_11, i3_12, i3_13, i3_14, i3_15, i3_16, rv_15_1, rv_3_1, c109, hs, b_0]
  unfold c_at
  by_cases h : p < s <;> simp [h]
theorem c3 (ht : 55 ≤ t) {cc p s : Nat} (hc : cc < 6) (hp : p < 1000) (hs : I 5 cc = nI s) (hs2 : s ≤ 40) : WPC V 3 [.ref 3, .int (nI cc), .int (nI p)] m n ls st t I L (m_RR e a b) Q = WP V m n ls ((.int (c_at p s cc)) :: st) t I L (m_RR e a b) Q := wpc_of (fun Q => w3 ht hc hp hs hs2)
theorem w80 (ht : 55 ≤ t) (hu : u < 3) {d o : Nat} (hd : d ≤ 4) (hf : f (12 + u) = nI d) (ho : c_outer f u = nI o) (ho2 : o ≤ 4) {v : Int32} : WP V 80 0 (m_loc 80 [.ref 25, .int (nI u), .int v]) [] t (mC J f g nn ww) L (m_RR e a b) Q = Q (some (.int (c_clo f u v d o).1)) t (mC J (c_clo f u v d o).2 g nn ww) L (m_RR e a b) := by
  rw [show m_loc 80 [.ref 25, .int (nI u), .int v] = [.ref 25, .int (nI u), .int v, m_u] from rfl]
  cases d with
  | zero =>
    have e0 : nI 0 - nI 1 = -1 := n_sm0
    simp (disch := first | assumption | omega | decide) only [nI_add, n_mul, n_sub, n_le, n_lt, n_eq, n_ne1, n_0, m_bl_t, m_bl_f, if_true, if_false, Nat.reduceAdd, Nat.reduceMul, Nat.reduceSub, Nat.reduceLeDiff, Nat.reduceEqDiff, Nat.add_zero, Nat.add_sub_cancel, Option.toList, List.cons_append, List.nil_append, i80_0, i80_1, i80_2, i80_3, i80_4, i80_5, i80_6, i80_7, i80_8, i80_9, i80_10, i80_11, i80_12, i80_13, i80_24, i80_25, rv_25_1, mC_2, hf, n_sm0, c78, ho, n_lm1, c_clo]
  | succ d =>
    have hd4 : d < 4 := by omega
    have hsc := c_sc_lt hu hd4
    simp (disch := first | assumption | omega | decide) only [nI_add, n_mul, n_sub, n_le, n_lt, n_eq, n_ne1, n_0, m_bl_t, m_bl_f, if_true, if_false, Nat.reduceAdd, Nat.reduceMul, Nat.reduceSub, Nat.reduceLeDiff, Nat.reduceEqDiff, Nat.add_zero, Nat.add_sub_cancel, Option.toList, List.cons_append, List.nil_append, i80_0, i80_1, i80_2, i80_3, i80_4, i80_5, i80_6, i80_7, i80_8, i80_9, i80_10, i80_11, i80_12, i80_13, i80_14, i80_15, i80_16, i80_17, i80_18, i80_19, i80_20, i80_21, i80_22, i80_23, i80_24, i80_25, i80_26, i80_27, i80_28, i80_29, i80_30, i80_31, i80_32, i80_33, i80_34, rv_25_1, mC_2, mC_s2, hf, c78, ho, c77, c_clo]
    by_cases h1 : d < o
    · simp only [h1, if_true]
    · by_cases h2 : f (286 + c_sc u d) = v
      · simp only [h1, h2, if_true, if_false]
      · simp only [h1, h2, if_true, if_false]
theorem c80 (ht : 55 ≤ t) (hu : u < 3) {d o : Nat} (hd : d ≤ 4) (hf : f (12 + u) = nI d) (ho : c_outer f u = nI o) (ho2 : o ≤ 4) {v : Int32} : WPC V 80 [.ref 25, .int (nI u), .int v] m n ls st t (mC J f g nn ww) L (m_RR e a b) Q = WP V m n ls ((.int (c_clo f u v d o).1) :: st) t (mC J (c_clo f u v d o).2 g nn ww) L (m_RR e a b) Q := wpc_of (fun Q => w80 ht hu hd hf ho ho2)
theorem w79_36 (ht : 55 ≤ t) (hu : u < 3) {kk p d : Nat} (hk : kk < 22) (hd : d < 4) (hf : f (12 + u) = nI d) {y : Int32} {z : Value} : WP V 79 36 [.ref 25, .int (nI u), .int (nI kk), .int (nI p), .int y, z] [] t (mC J f g nn ww) L (m_RR e a b) Q = Q (some (.int (nI 6))) t (mC J (c_opn f u kk p d) g nn ww) L (m_RR e a b) := by
  have hsc := c_sc_lt hu hd
  simp (disch := first | assumption | omega | decide) only [nI_add, n_mul, n_sub, n_le, n_lt, n_eq, n_ne1, n_0, m_bl_t, m_bl_f, if_true, if_false, Nat.reduceAdd, Nat.reduceMul, Nat.reduceSub, Nat.reduceLeDiff, Nat.reduceEqDiff, Nat.add_zero, Nat.add_sub_cancel, Option.toList, List.cons_append, List.nil_append, i79_36, i79_37, i79_38, i79_39, i79_40, i79_41, i79_42, i79_43, i79_44, i79_45, i79_46, i79_47, i79_48, i79_49, i79_50, i79_51, i79_52, i79_53, i79_54, i79_55, i79_56, i79_57, i79_58, i79_59, i79_60, i79_61, i79_62, i79_63, i79_64, i79_65, i79_66, i79_67, i79_68, i79_69, i79_70, i79_71, i79_72, i79_73, i79_74, i79_75, i79_76, i79_77, i79_78, rv_25_1, mC_2, mC_s2, hf, c77, c197 (k := 2) (N := 581), m_sc_ne]
  unfold c_opn
  by_cases h : kk = 18
  · simp (disch := first | assumption | omega | decide) only [nI_add, n_mul, n_sub, n_le, n_lt, n_eq, n_ne1, n_0, m_bl_t, m_bl_f, if_true, if_false, Nat.reduceAdd, Nat.reduceMul, Nat.reduceSub, Nat.reduceLeDiff, Nat.reduceEqDiff, Nat.add_zero, Nat.add_sub_cancel, Option.toList, List.cons_append, List.nil_append, h, i79_79, i79_80]
  · simp (disch := first | assumption | omega | decide) only [nI_add, n_mul, n_sub, n_le, n_lt, n_eq, n_ne1, n_0, m_bl_t, m_bl_f, if_true, if_false, Nat.reduceAdd, Nat.reduceMul, Nat.reduceSub, Nat.reduceLeDiff, Nat.reduceEqDiff, Nat.add_zero, Nat.add_sub_cancel, Option.toList, List.cons_append, List.nil_append, h, i79_81, i79_82, i79_83, i79_84, i79_85, i79_86, i79_87, i79_88, i79_89, i79_90, i79_91, i79_92, i79_93, i79_94, i79_95, i79_96, i79_97, i79_98, i79_99, i79_100, i79_101, i79_102, i79_103, i79_104, i79_105, i79_106, i79_107, i79_108, i79_109, i79_110, rv_25_1, mC_2, mC_s2]
theorem w79 (ht : 55 ≤ t) (hu : u < 3) {kk p d : Nat} (hk : kk < 22) (hd : d ≤ 4) (hf : f (12 + u) = nI d) : WP V 79 0 (m_loc 79 [.ref 25, .int (nI u), .int (nI kk), .int (nI p)]) [] t (mC J f g nn ww) L (m_RR e a b) Q = Q (some (.int (c_open f u kk p d).1)) t (mC J (c_open f u kk p d).2 g nn ww) L (m_RR e a b) := by
  rw [show m_loc 79 [.ref 25, .int (nI u), .int (nI kk), .int (nI p)] = [.ref 25, .int (nI u), .int (nI kk), .int (nI p), m_u, m_u] from rfl]
  have tail : ∀ {y : Int32}, WP V 79 26 [.ref 25, .int (nI u), .int (nI kk), .int (nI p), .int y, m_u] [] t (mC J f g nn ww) L (m_RR e a b) Q = Q (some (.int (if ¬ d < 4 then (nI 105, f) else (nI 6, c_opn f u kk p d)).1)) t (mC J (if ¬ d < 4 then (nI 105, f) else (nI 6, c_opn f u kk p d)).2 g nn ww) L (m_RR e a b) := by
    intro y
    by_cases h : d < 4
    · simp (disch := first | assumption | omega | decide) only [nI_add, n_mul, n_sub, n_le, n_lt, n_eq, n_ne1, n_0, m_bl_t, m_bl_f, if_true, if_false, Nat.reduceAdd, Nat.reduceMul, Nat.reduceSub, Nat.reduceLeDiff, Nat.reduceEqDiff, Nat.add_zero, Nat.add_sub_cancel, Option.toList, List.cons_append, List.nil_append, i79_26, i79_27, i79_28, i79_29, i79_30, i79_31, i79_32, i79_33, rv_25_1, mC_2, hf, h, w79_36, not_true]
    · simp (disch := first | assumption | omega | decide) only [nI_add, n_mul, n_sub, n_le, n_lt, n_eq, n_ne1, n_0, m_bl_t, m_bl_f, if_true, if_false, Nat.reduceAdd, Nat.reduceMul, Nat.reduceSub, Nat.reduceLeDiff, Nat.reduceEqDiff, Nat.add_zero, Nat.add_sub_cancel, Option.toList, List.cons_append, List.nil_append, i79_26, i79_27, i79_28, i79_29, i79_30, i79_31, i79_32, i79_33, i79_34, i79_35, rv_25_1, mC_2, hf, h, not_false_iff]
  simp (disch := first | assumption | omega | decide) only [nI_add, n_mul, n_sub, n_le, n_lt, n_eq, n_ne1, n_0, m_bl_t, m_bl_f, if_true, if_false, Nat.reduceAdd, Nat.reduceMul, Nat.reduceSub, Nat.reduceLeDiff, Nat.reduceEqDiff, Nat.add_zero, Nat.add_sub_cancel, Option.toList, List.cons_append, List.nil_append, i79_0, i79_1, i79_2, i79_3, i79_4, i79_5, i79_6, i79_7, i79_8, i79_9, i79_10, i79_11, i79_12, i79_13, i79_14, i79_15, i79_16, i79_17, i79_18, i79_19, i79_20, i79_21, i79_22, i79_23, i79_24, i79_25, rv_25_1, mC_2, tail]
  unfold c_open
  by_cases h1 : kk = 14
  · subst h1
    by_cases h2 : f (15 + u) = nI 2 <;> simp [h2]
  · by_cases h3 : kk = 16
    · subst h3
      by_cases h4 : f (15 + u) = -1
      · simp [h4]
      · by_cases h5 : f (15 + u) = nI 3 <;> simp [h4, h5]
    · simp [h1, h3]
theorem c79 (ht : 55 ≤ t) (hu : u < 3) {kk p d : Nat} (hk : kk < 22) (hd : d ≤ 4) (hf : f (12 + u) = nI d) : WPC V 79 [.ref 25, .int (nI u), .int (nI kk), .int (nI p)] m n ls st t (mC J f g nn ww) L (m_RR e a b) Q = WP V m n ls ((.int (c_open f u kk p d).1) :: st) t (mC J (c_open f u kk p d).2 g nn ww) L (m_RR e a b) Q := wpc_of (fun Q => w79 ht hu hk hd hf)
theorem w72_k0 (ht : 55 ≤ t) (hu : u < 3) {p i1 i2 i3 : Nat} {B : Int32} (hp : p + 3 < 960) (hact : c_act (J 4) p 0 i1 i2 i3 B) : WP V 72 0 (m_loc 72 [.ref 25, .int (nI u), .int (nI p)]) [] t (mC J f g nn ww) L (m_RR e a b) Q = Q (some (.int (c_plain J L f g nn ww u 0 i1 i2 i3 k B).1)) t (mC J (c_plain J L f g nn ww u 0 i1 i2 i3 k B).2.1 (c_plain J L f g nn ww u 0 i1 i2 i3 k B).2.2.1 (c_plain J L f g nn ww u 0 i1 i2 i3 k B).2.2.2.1 (c_plain J L f g nn ww u 0 i1 i2 i3 k B).2.2.2.2) L (m_RR e a b) := by
  rw [show m_loc 72 [.ref 25, .int (nI u), .int (nI p)] = [.ref 25, .int (nI u), .int (nI p), m_u, m_u, m_u, m_u, m_u, m_u] from rfl]
  obtain ⟨a0, a2, a1, ab, ac⟩ := hact
  have h1 := (a1 (by decide)).1
  have h1l : i1 < 4 := (a1 (by decide)).2
  simp (disch := first | assumption | omega | decide) only [nI_add, n_mul, n_sub, n_le, n_lt, n_eq, n_ne1, n_0, m_bl_t, m_bl_f, if_true, if_false, Nat.reduceAdd, Nat.reduceMul, Nat.reduceSub, Nat.reduceLeDiff, Nat.reduceEqDiff, Nat.add_zero, Nat.add_sub_cancel, Option.toList, List.cons_append, List.nil_append, i72_0, i72_1, i72_2, i72_3, i72_4, i72_5, i72_6, i72_7, i72_8, i72_9, i72_10, i72_11, i72_12, i72_13, i72_14, i72_15, i72_16, i72_17, i72_18, i72_19, i72_20, i72_21, i72_22, i72_23, i72_24, i72_25, i72_26, i72_27, i72_28, i72_29, i72_30, i72_31, i72_32, i72_33, rv_13_1, rv_15_0, rv_1_1, rv_25_0, rv_3_0, i72_34s0, i72_35, i72_36, i72_37, i72_38, i72_39, i72_40, i72_41, i72_42, i72_43, rv_25_1, mC_2, mC_4, mC_s2, a0, h1, a2]
  all_goals simp only [c_plain, c_gp]
theorem c72_k0 (ht : 55 ≤ t) (hu : u < 3) {p i1 i2 i3 : Nat} {B : Int32} (hp : p + 3 < 960) (hact : c_act (J 4) p 0 i1 i2 i3 B) : WPC V 72 [.ref 25, .int (nI u), .int (nI p)] m n ls st t (mC J f g nn ww) L (m_RR e a b) Q = WP V m n ls ((.int (c_plain J L f g nn ww u 0 i1 i2 i3 k B).1) :: st) t (mC J (c_plain J L f g nn ww u 0 i1 i2 i3 k B).2.1 (c_plain J L f g nn ww u 0 i1 i2 i3 k B).2.2.1 (c_plain J L f g nn ww u 0 i1 i2 i3 k B).2.2.2.1 (c_plain J L f g nn ww u 0 i1 i2 i3 k B).2.2.2.2) L (m_RR e a b) Q := wpc_of (fun Q => w72_k0 ht hu hp hact)
theorem w72_k1 (ht : 55 ≤ t) (hu : u < 3) {p i1 i2 i3 : Nat} {B : Int32} (hp : p + 3 < 960) (hact : c_act (J 4) p 1 i1 i2 i3 B) : WP V 72 0 (m_loc 72 [.ref 25, .int (nI u), .int (nI p)]) [] t (mC J f g nn ww) L (m_RR e a b) Q = Q (some (.int (c_plain J L f g nn ww u 1 i1 i2 i3 k B).1)) t (mC J (c_plain J L f g nn ww u 1 i1 i2 i3 k B).2.1 (c_plain J L f g nn ww u 1 i1 i2 i3 k B).2.2.1 (c_plain J L f g nn ww u 1 i1 i2 i3 k B).2.2.2.1 (c_plain J L f g nn ww u 1 i1 i2 i3 k B).2.2.2.2) L (m_RR e a b) := by
  rw [show m_loc 72 [.ref 25, .int (nI u), .int (nI p)] = [.ref 25, .int (nI u), .int (nI p), m_u, m_u, m_u, m_u, m_u, m_u] from rfl]
  obtain ⟨a0, a2, a1, ab, ac⟩ := hact
  have h1 := (a1 (by decide)).1
  have h1l : i1 < 4 := (a1 (by decide)).2
  have hb := (ab (by decide)).1
  have hbl : i2 < 4 := (ab (by decide)).2
  simp (disch := first | assumption | omega | decide) only [nI_add, n_mul, n_sub, n_le, n_lt, n_eq, n_ne1, n_0, m_bl_t, m_bl_f, if_true, if_false, Nat.reduceAdd, Nat.reduceMul, Nat.reduceSub, Nat.reduceLeDiff, Nat.reduceEqDiff, Nat.add_zero, Nat.add_sub_cancel, Option.toList, List.cons_append, List.nil_append, i72_0, i72_1, i72_2, i72_3, i72_4, i72_5, i72_6, i72_7, i72_8, i72_9, i72_10, i72_11, i72_12, i72_13, i72_14, i72_15, i72_16, i72_17, i72_18, i72_19, i72_20, i72_21, i72_22, i72_23, i72_24, i72_25, i72_26, i72_27, i72_28, i72_29, i72_30, i72_31, i72_32, i72_33, rv_13_1, rv_15_0, rv_1_1, rv_25_0, rv_3_0, i72_34s1, i72_44, i72_45, i72_46, i72_47, i72_48, i72_49, i72_50, i72_51, i72_52, i72_53, i72_54, i72_55, i72_56, i72_57, i72_58, i72_59, i72_60, rv_25_1, mC_2, mC_4, mC_s2, a0, h1, a2, hb]
  all_goals simp only [c_plain, c_gp]
theorem c72_k1 (ht : 55 ≤ t) (hu : u < 3) {p i1 i2 i3 : Nat} {B : Int32} (hp : p + 3 < 960) (hact : c_act (J 4) p 1 i1 i2 i3 B) : WPC V 72 [.ref 25, .int (nI u), .int (nI p)] m n ls st t (mC J f g nn ww) L (m_RR e a b) Q = WP V m n ls ((.int (c_plain J L f g nn ww u 1 i1 i2 i3 k B).1) :: st) t (mC J (c_plain J L f g nn ww u 1 i1 i2 i3 k B).2.1 (c_plain J L f g nn ww u 1 i1 i2 i3 k B).2.2.1 (c_plain J L f g nn ww u 1 i1 i2 i3 k B).2.2.2.1 (c_plain J L f g nn ww u 1 i1 i2 i3 k B).2.2.2.2) L (m_RR e a b) Q := wpc_of (fun Q => w72_k1 ht hu hp hact)
theorem w72_k2 (ht : 55 ≤ t) (hu : u < 3) {p i1 i2 i3 : Nat} {B : Int32} (hp : p + 3 < 960) (hact : c_act (J 4) p 2 i1 i2 i3 B) : WP V 72 0 (m_loc 72 [.ref 25, .int (nI u), .int (nI p)]) [] t (mC J f g nn ww) L (m_RR e a b) Q = Q (some (.int (c_plain J L f g nn ww u 2 i1 i2 i3 k B).1)) t (mC J (c_plain J L f g nn ww u 2 i1 i2 i3 k B).2.1 (c_plain J L f g nn ww u 2 i1 i2 i3 k B).2.2.1 (c_plain J L f g nn ww u 2 i1 i2 i3 k B).2.2.2.1 (c_plain J L f g nn ww u 2 i1 i2 i3 k B).2.2.2.2) L (m_RR e a b) := by
  rw [show m_loc 72 [.ref 25, .int (nI u), .int (nI p)] = [.ref 25, .int (nI u), .int (nI p), m_u, m_u, m_u, m_u, m_u, m_u] from rfl]
  obtain ⟨a0, a2, a1, ab, ac⟩ := hact
  have h1 := (a1 (by decide)).1
  have h1l : i1 < 4 := (a1 (by decide)).2
  have hb := (ab (by decide)).1
  have hbl : i2 < 4 := (ab (by decide)).2
  simp (disch := first | assumption | omega | decide) only [nI_add, n_mul, n_sub, n_le, n_lt, n_eq, n_ne1, n_0, m_bl_t, m_bl_f, if_true, if_false, Nat.reduceAdd, Nat.reduceMul, Nat.reduceSub, Nat.reduceLeDiff, Nat.reduceEqDiff, Nat.add_zero, Nat.add_sub_cancel, Option.toList, List.cons_append, List.nil_append, i72_0, i72_1, i72_2, i72_3, i72_4, i72_5, i72_6, i72_7, i72_8, i72_9, i72_10, i72_11, i72_12, i72_13, i72_14, i72_15, i72_16, i72_17, i72_18, i72_19, i72_20, i72_21, i72_22, i72_23, i72_24, i72_25, i72_26, i72_27, i72_28, i72_29, i72_30, i72_31, i72_32, i72_33, rv_13_1, rv_15_0, rv_1_1, rv_25_0, rv_3_0, i72_34s2, i72_61, i72_62, i72_63, i72_64, i72_65, i72_66, i72_67, i72_68, i72_69, i72_70, i72_71, i72_72, i72_73, i72_74, i72_75, i72_76, i72_77, rv_25_1, mC_2, mC_4, mC_s2, a0, h1, a2, hb]
  all_goals simp only [c_plain, c_gp]
theorem c72_k2 (ht : 55 ≤ t) (hu : u < 3) {p i1 i2 i3 : Nat} {B : Int32} (hp : p + 3 < 960) (hact : c_act (J 4) p 2 i1 i2 i3 B) : WPC V 72 [.ref 25, .int (nI u), .int (nI p)] m n ls st t (mC J f g nn ww) L (m_RR e a b) Q = WP V m n ls ((.int (c_plain J L f g nn ww u 2 i1 i2 i3 k B).1) :: st) t (mC J (c_plain J L f g nn ww u 2 i1 i2 i3 k B).2.1 (c_plain J L f g nn ww u 2 i1 i2 i3 k B).2.2.1 (c_plain J L f g nn ww u 2 i1 i2 i3 k B).2.2.2.1 (c_plain J L f g nn ww u 2 i1 i2 i3 k B).2.2.2.2) L (m_RR e a b) Q := wpc_of (fun Q => w72_k2 ht hu hp hact)
theorem w72_k3 (ht : 55 ≤ t) (hu : u < 3) {p i1 i2 i3 : Nat} {B : Int32} (hp : p + 3 < 960) (hact : c_act (J 4) p 3 i1 i2 i3 B) : WP V 72 0 (m_loc 72 [.ref 25, .int (nI u), .int (nI p)]) [] t (mC J f g nn ww) L (m_RR e a b) Q = Q (some (.int (c_plain J L f g nn ww u 3 i1 i2 i3 k B).1)) t (mC J (c_plain J L f g nn ww u 3 i1 i2 i3 k B).2.1 (c_plain J L f g nn ww u 3 i1 i2 i3 k B).2.2.1 (c_plain J L f g nn ww u 3 i1 i2 i3 k B).2.2.2.1 (c_plain J L f g nn ww u 3 i1 i2 i3 k B).2.2.2.2) L (m_RR e a b) := by
  rw [show m_loc 72 [.ref 25, .int (nI u), .int (nI p)] = [.ref 25, .int (nI u), .int (nI p), m_u, m_u, m_u, m_u, m_u, m_u] from rfl]
  obtain ⟨a0, a2, a1, ab, ac⟩ := hact
  have h1 := (a1 (by decide)).1
  have h1l : i1 < 4 := (a1 (by decide)).2
  have hb := (ab (by decide)).1
  have hbl : i2 < 4 := (ab (by decide)).2
  simp (disch := first | assumption | omega | decide) only [nI_add, n_mul, n_sub, n_le, n_lt, n_eq, n_ne1, n_0, m_bl_t, m_bl_f, if_true, if_false, Nat.reduceAdd, Nat.reduceMul, Nat.reduceSub, Nat.reduceLeDiff, Nat.reduceEqDiff, Nat.add_zero, Nat.add_sub_cancel, Option.toList, List.cons_append, List.nil_append, i72_0, i72_1, i72_2, i72_3, i72_4, i72_5, i72_6, i72_7, i72_8, i72_9, i72_10, i72_11, i72_12, i72_13, i72_14, i72_15, i72_16, i72_17, i72_18, i72_19, i72_20, i72_21, i72_22, i72_23, i72_24, i72_25, i72_26, i72_27, i72_28, i72_29, i72_30, i72_31, i72_32, i72_33, rv_13_1, rv_15_0, rv_1_1, rv_25_0, rv_3_0, i72_34s3, i72_78, i72_79, i72_80, i72_81, i72_82, i72_83, i72_84, i72_85, i72_86, rv_25_1, mC_2, mC_4, a0, h1, a2, hb]
  by_cases h : f (21 + 4 * u + i2) = nI 0
  · simp [c_plain, h]
  · have h' : ¬ f (21 + 4 * u + i2) = 0 := by rw [n_0]; exact h
    simp (disch := first | assumption | omega | decide) only [nI_add, n_mul, n_sub, n_le, n_lt, n_eq, n_ne1, n_0, m_bl_t, m_bl_f, if_true, if_false, Nat.reduceAdd, Nat.reduceMul, Nat.reduceSub, Nat.reduceLeDiff, Nat.reduceEqDiff, Nat.add_zero, Nat.add_sub_cancel, Option.toList, List.cons_append, List.nil_append, h, i72_87, i72_88, i72_89, i72_90, i72_91, i72_92, i72_93, i72_94, i72_95, i72_96, i72_97, i72_98, i72_99, i72_100, i72_101, i72_102, i72_103, rv_25_1, mC_2, mC_s2]
    simp only [c_plain, h, if_false]
theorem c72_k3 (ht : 55 ≤ t) (hu : u < 3) {p i1 i2 i3 : Nat} {B : Int32} (hp : p + 3 < 960) (hact : c_act (J 4) p 3 i1 i2 i3 B) : WPC V 72 [.ref 25, .int (nI u), .int (nI p)] m n ls st t (mC J f g nn ww) L (m_RR e a b) Q = WP V m n ls ((.int (c_plain J L f g nn ww u 3 i1 i2 i3 k B).1) :: st) t (mC J (c_plain J L f g nn ww u 3 i1 i2 i3 k B).2.1 (c_plain J L f g nn ww u 3 i1 i2 i3 k B).2.2.1 (c_plain J L f g nn ww u 3 i1 i2 i3 k B).2.2.2.1 (c_plain J L f g nn ww u 3 i1 i2 i3 k B).2.2.2.2) L (m_RR e a b) Q := wpc_of (fun Q => w72_k3 ht hu hp hact)
theorem w72_k4 (ht : 55 ≤ t) (hu : u < 3) {p i1 i2 i3 : Nat} {B : Int32} (hp : p + 3 < 960) (hact : c_act (J 4) p 4 i1 i2 i3 B) (hO : c_owned f i2) : WP V 72 0 (m_loc 72 [.ref 25, .int (nI u), .int (nI p)]) [] t (mC J f g nn ww) L (m_RR e a b) Q = Q (some (.int (c_plain J L f g nn ww u 4 i1 i2 i3 k B).1)) t (mC J (c_plain J L f g nn ww u 4 i1 i2 i3 k B).2.1 (c_plain J L f g nn ww u 4 i1 i2 i3 k B).2.2.1 (c_plain J L f g nn ww u 4 i1 i2 i3 k B).2.2.2.1 (c_plain J L f g nn ww u 4 i1 i2 i3 k B).2.2.2.2) L (m_RR e a b) := by
  rw [show m_loc 72 [.ref 25, .int (nI u), .int (nI p)] = [.ref 25, .int (nI u), .int (nI p), m_u, m_u, m_u, m_u, m_u, m_u] from rfl]
  obtain ⟨a0, a2, a1, ab, ac⟩ := hact
  have h1 := (a1 (by decide)).1
  have h1l : i1 < 4 := (a1 (by decide)).2
  have hb := (ab (by decide)).1
  have hbl : i2 < 8 := (ab (by decide)).2
  simp (disch := first | assumption | omega | decide) only [nI_add, n_mul, n_sub, n_le, n_lt, n_eq, n_ne1, n_0, m_bl_t, m_bl_f, if_true, if_false, Nat.reduceAdd, Nat.reduceMul, Nat.reduceSub, Nat.reduceLeDiff, Nat.reduceEqDiff, Nat.add_zero, Nat.add_sub_cancel, Option.toList, List.cons_append, List.nil_append, i72_0, i72_1, i72_2, i72_3, i72_4, i72_5, i72_6, i72_7, i72_8, i72_9, i72_10, i72_11, i72_12, i72_13, i72_14, i72_15, i72_16, i72_17, i72_18, i72_19, i72_20, i72_21, i72_22, i72_23, i72_24, i72_25, i72_26, i72_27, i72_28, i72_29, i72_30, i72_31, i72_32, i72_33, rv_13_1, rv_15_0, rv_1_1, rv_25_0, rv_3_0, i72_34s4, i72_104, i72_105, i72_106, i72_107, i72_108, i72_109, i72_110, i72_111, i72_112, i72_113, i72_114, i72_115, i72_116, i72_117, i72_118, i72_119, i72_120, rv_25_2, mC_2, mC_4, mC_s2, a0, h1, a2, hb, c11, c75]
  simp only [c_plain, c_lkn]
  by_cases h : (c_look f g u i2).1 = nI 6
  · simp only [h, if_true]
  · simp only [h, if_false]
theorem c72_k4 (ht : 55 ≤ t) (hu : u < 3) {p i1 i2 i3 : Nat} {B : Int32} (hp : p + 3 < 960) (hact : c_act (J 4) p 4 i1 i2 i3 B) (hO : c_owned f i2) : WPC V 72 [.ref 25, .int (nI u), .int (nI p)] m n ls st t (mC J f g nn ww) L (m_RR e a b) Q = WP V m n ls ((.int (c_plain J L f g nn ww u 4 i1 i2 i3 k B).1) :: st) t (mC J (c_plain J L f g nn ww u 4 i1 i2 i3 k B).2.1 (c_plain J L f g nn ww u 4 i1 i2 i3 k B).2.2.1 (c_plain J L f g nn ww u 4 i1 i2 i3 k B).2.2.2.1 (c_plain J L f g nn ww u 4 i1 i2 i3 k B).2.2.2.2) L (m_RR e a b) Q := wpc_of (fun Q => w72_k4 ht hu hp hact hO)
theorem w72_k5 (ht : 55 ≤ t) (hu : u < 3) {p i1 i2 i3 : Nat} {B : Int32} (hp : p + 3 < 960) (hact : c_act (J 4) p 5 i1 i2 i3 B) (hO : c_owned f i1) (hk : nn 2 = nI k) (hk2 : k < 1000000) : WP V 72 0 (m_loc 72 [.ref 25, .int (nI u), .int (nI p)]) [] t (mC J f g nn ww) L (m_RR e a b) Q = Q (some (.int (c_plain J L f g nn ww u 5 i1 i2 i3 k B).1)) t (mC J (c_plain J L f g nn ww u 5 i1 i2 i3 k B).2.1 (c_plain J L f g nn ww u 5 i1 i2 i3 k B).2.2.1 (c_plain J L f g nn ww u 5 i1 i2 i3 k B).2.2.2.1 (c_plain J L f g nn ww u 5 i1 i2 i3 k B).2.2.2.2) L (m_RR e a b) := by
  rw [show m_loc 72 [.ref 25, .int (nI u), .int (nI p)] = [.ref 25, .int (nI u), .int (nI p), m_u, m_u, m_u, m_u, m_u, m_u] from rfl]
  obtain ⟨a0, a2, a1, ab, ac⟩ := hact
  have h1 := (a1 (by decide)).1
  have h1l : i1 < 8 := (a1 (by decide)).2
  have hb := (ab (by decide)).1
  have hbl : i2 < 4 := (ab (by decide)).2
  simp (disch := first | assumption | omega | decide) only [nI_add, n_mul, n_sub, n_le, n_lt, n_eq, n_ne1, n_0, m_bl_t, m_bl_f, if_true, if_false, Nat.reduceAdd, Nat.reduceMul, Nat.reduceSub, Nat.reduceLeDiff, Nat.reduceEqDiff, Nat.add_zero, Nat.add_sub_cancel, Option.toList, List.cons_append, List.nil_append, i72_0, i72_1, i72_2, i72_3, i72_4, i72_5, i72_6, i72_7, i72_8, i72_9, i72_10, i72_11, i72_12, i72_13, i72_14, i72_15, i72_16, i72_17, i72_18, i72_19, i72_20, i72_21, i72_22, i72_23, i72_24, i72_25, i72_26, i72_27, i72_28, i72_29, i72_30, i72_31, i72_32, i72_33, rv_13_1, rv_15_0, rv_1_1, rv_25_0, rv_3_0, i72_34s5, i72_121, i72_122, i72_123, i72_124, i72_125, i72_126, i72_127, i72_128, i72_129, i72_130, i72_131, i72_132, i72_133, rv_25_1, rv_25_2, mC_2, mC_4, mC_s2, a0, h1, a2, hb, c20 (k := k)]
  all_goals simp only [c_plain, c_gp]
theorem c72_k5 (ht : 55 ≤ t) (hu : u < 3) {p i1 i2 i3 : Nat} {B : Int32} (hp : p + 3 < 960) (hact : c_act (J 4) p 5 i1 i2 i3 B) (hO : c_owned f i1) (hk : nn 2 = nI k) (hk2 : k < 1000000) : WPC V 72 [.ref 25, .int (nI u), .int (nI p)] m n ls st t (mC J f g nn ww) L (m_RR e a b) Q = WP V m n ls ((.int (c_plain J L f g nn ww u 5 i1 i2 i3 k B).1) :: st) t (mC J (c_plain J L f g nn ww u 5 i1 i2 i3 k B).2.1 (c_plain J L f g nn ww u 5 i1 i2 i3 k B).2.2.1 (c_plain J L f g nn ww u 5 i1 i2 i3 k B).2.2.2.1 (c_plain J L f g nn ww u 5 i1 i2 i3 k B).2.2.2.2) L (m_RR e a b) Q := wpc_of (fun Q => w72_k5 ht hu hp hact hO hk hk2)
theorem w72_k6 (ht : 55 ≤ t) (hu : u < 3) {p i1 i2 i3 : Nat} {B : Int32} (hp : p + 3 < 960) (hact : c_act (J 4) p 6 i1 i2 i3 B) (hO : c_owned f i1) (hk : nn 2 = nI k) (hk2 : k < 1000000) : WP V 72 0 (m_loc 72 [.ref 25, .int (nI u), .int (nI p)]) [] t (mC J f g nn ww) L (m_RR e a b) Q = Q (some (.int (c_plain J L f g nn ww u 6 i1 i2 i3 k B).1)) t (mC J (c_plain J L f g nn ww u 6 i1 i2 i3 k B).2.1 (c_plain J L f g nn ww u 6 i1 i2 i3 k B).2.2.1 (c_plain J L f g nn ww u 6 i1 i2 i3 k B).2.2.2.1 (c_plain J L f g nn ww u 6 i1 i2 i3 k B).2.2.2.2) L (m_RR e a b) := by
  rw [show m_loc 72 [.ref 25, .int (nI u), .int (nI p)] = [.ref 25, .int (nI u), .int (nI p), m_u, m_u, m_u, m_u, m_u, m_u] from rfl]
  obtain ⟨a0, a2, a1, ab, ac⟩ := hact
  have h1 := (a1 (by decide)).1
  have h1l : i1 < 8 := (a1 (by decide)).2
  have hb := (ab (by decide)).1
  have hbl : i2 < 6 := (ab (by decide)).2
  simp (disch := first | assumption | omega | decide) only [nI_add, n_mul, n_sub, n_le, n_lt, n_eq, n_ne1, n_0, m_bl_t, m_bl_f, if_true, if_false, Nat.reduceAdd, Nat.reduceMul, Nat.reduceSub, Nat.reduceLeDiff, Nat.reduceEqDiff, Nat.add_zero, Nat.add_sub_cancel, Option.toList, List.cons_append, List.nil_append, i72_0, i72_1, i72_2, i72_3, i72_4, i72_5, i72_6, i72_7, i72_8, i72_9, i72_10, i72_11, i72_12, i72_13, i72_14, i72_15, i72_16, i72_17, i72_18, i72_19, i72_20, i72_21, i72_22, i72_23, i72_24, i72_25, i72_26, i72_27, i72_28, i72_29, i72_30, i72_31, i72_32, i72_33, rv_13_1, rv_15_0, rv_1_1, rv_25_0, rv_3_0, i72_34s6, i72_134, i72_135, i72_136, i72_137, i72_138, i72_139, i72_140, i72_141, rv_25_2, mC_2, mC_4, mC_s2, a0, h1, a2, hb, c20 (k := k)]
  all_goals simp only [c_plain, c_gp]
theorem c72_k6 (ht : 55 ≤ t) (hu : u < 3) {p i1 i2 i3 : Nat} {B : Int32} (hp : p + 3 < 960) (hact : c_act (J 4) p 6 i1 i2 i3 B) (hO : c_owned f i1) (hk : nn 2 = nI k) (hk2 : k < 1000000) : WPC V 72 [.ref 25, .int (nI u), .int (nI p)] m n ls st t (mC J f g nn ww) L (m_RR e a b) Q = WP V m n ls ((.int (c_plain J L f g nn ww u 6 i1 i2 i3 k B).1) :: st) t (mC J (c_plain J L f g nn ww u 6 i1 i2 i3 k B).2.1 (c_plain J L f g nn ww u 6 i1 i2 i3 k B).2.2.1 (c_plain J L f g nn ww u 6 i1 i2 i3 k B).2.2.2.1 (c_plain J L f g nn ww u 6 i1 i2 i3 k B).2.2.2.2) L (m_RR e a b) Q := wpc_of (fun Q => w72_k6 ht hu hp hact hO hk hk2)
theorem w72_k7 (ht : 55 ≤ t) (hu : u < 3) {p i1 i2 i3 : Nat} {B : Int32} (hp : p + 3 < 960) (hact : c_act (J 4) p 7 i1 i2 i3 B) (hO : c_owned f i1) (hk : nn 2 = nI k) (hk2 : k < 1000000) : WP V 72 0 (m_loc 72 [.ref 25, .int (nI u), .int (nI p)]) [] t (mC J f g nn ww) L (m_RR e a b) Q = Q (some (.int (c_plain J L f g nn ww u 7 i1 i2 i3 k B).1)) t (mC J (c_plain J L f g nn ww u 7 i1 i2 i3 k B).2.1 (c_plain J L f g nn ww u 7 i1 i2 i3 k B).2.2.1 (c_plain J L f g nn ww u 7 i1 i2 i3 k B).2.2.2.1 (c_plain J L f g nn ww u 7 i1 i2 i3 k B).2.2.2.2) L (m_RR e a b) := by
  rw [show m_loc 72 [.ref 25, .int (nI u), .int (nI p)] = [.ref 25, .int (nI u), .int (nI p), m_u, m_u, m_u, m_u, m_u, m_u] from rfl]
  obtain ⟨a0, a2, a1, ab, ac⟩ := hact
  have h1 := (a1 (by decide)).1
  have h1l : i1 < 8 := (a1 (by decide)).2
  simp (disch := first | assumption | omega | decide) only [nI_add, n_mul, n_sub, n_le, n_lt, n_eq, n_ne1, n_0, m_bl_t, m_bl_f, if_true, if_false, Nat.reduceAdd, Nat.reduceMul, Nat.reduceSub, Nat.reduceLeDiff, Nat.reduceEqDiff, Nat.add_zero, Nat.add_sub_cancel, Option.toList, List.cons_append, List.nil_append, i72_0, i72_1, i72_2, i72_3, i72_4, i72_5, i72_6, i72_7, i72_8, i72_9, i72_10, i72_11, i72_12, i72_13, i72_14, i72_15, i72_16, i72_17, i72_18, i72_19, i72_20, i72_21, i72_22, i72_23, i72_24, i72_25, i72_26, i72_27, i72_28, i72_29, i72_30, i72_31, i72_32, i72_33, rv_13_1, rv_15_0, rv_1_1, rv_25_0, rv_3_0, i72_34s7, i72_142, i72_143, i72_144, i72_145, i72_146, i72_147, i72_148, i72_149, rv_25_2, mC_2, mC_4, mC_s2, a0, h1, a2, c20 (k := k)]
  all_goals simp only [c_plain, c_gp]
theorem c72_k7 (ht : 55 ≤ t) (hu : u < 3) {p i1 i2 i3 : Nat} {B : Int32} (hp : p + 3 < 960) (hact : c_act (J 4) p 7 i1 i2 i3 B) (hO : c_owned f i1) (hk : nn 2 = nI k) (hk2 : k < 1000000) : WPC V 72 [.ref 25, .int (nI u), .int (nI p)] m n ls st t (mC J f g nn ww) L (m_RR e a b) Q = WP V m n ls ((.int (c_plain J L f g nn ww u 7 i1 i2 i3 k B).1) :: st) t (mC J (c_plain J L f g nn ww u 7 i1 i2 i3 k B).2.1 (c_plain J L f g nn ww u 7 i1 i2 i3 k B).2.2.1 (c_plain J L f g nn ww u 7 i1 i2 i3 k B).2.2.2.1 (c_plain J L f g nn ww u 7 i1 i2 i3 k B).2.2.2.2) L (m_RR e a b) Q := wpc_of (fun Q => w72_k7 ht hu hp hact hO hk hk2)
theorem w72_k8 (ht : 55 ≤ t) (hu : u < 3) {p i1 i2 i3 : Nat} {B : Int32} (hp : p + 3 < 960) (hact : c_act (J 4) p 8 i1 i2 i3 B) (hO : c_owned f i2) (hs : ∀ y, y < 6 → ∃ s, s ≤ 16 ∧ J 8 y = nI s) : WP V 72 0 (m_loc 72 [.ref 25, .int (nI u), .int (nI p)]) [] t (mC J f g nn ww) L (m_RR e a b) Q = Q (some (.int (c_plain J L f g nn ww u 8 i1 i2 i3 k B).1)) t (mC J (c_plain J L f g nn ww u 8 i1 i2 i3 k B).2.1 (c_plain J L f g nn ww u 8 i1 i2 i3 k B).2.2.1 (c_plain J L f g nn ww u 8 i1 i2 i3 k B).2.2.2.1 (c_plain J L f g nn ww u 8 i1 i2 i3 k B).2.2.2.2) L (m_RR e a b) := by
  rw [show m_loc 72 [.ref 25, .int (nI u), .int (nI p)] = [.ref 25, .int (nI u), .int (nI p), m_u, m_u, m_u, m_u, m_u, m_u] from rfl]
  obtain ⟨a0, a2, a1, ab, ac⟩ := hact
  have h1 := (a1 (by decide)).1
  have h1l : i1 < 4 := (a1 (by decide)).2
  have hb := (ab (by decide)).1
  have hbl : i2 < 8 := (ab (by decide)).2
  have hc := (ac (by decide)).1
  have hcl : i3 < 4 := (ac (by decide)).2
  simp (disch := first | assumption | omega | decide) only [nI_add, n_mul, n_sub, n_le, n_lt, n_eq, n_ne1, n_0, m_bl_t, m_bl_f, if_true, if_false, Nat.reduceAdd, Nat.reduceMul, Nat.reduceSub, Nat.reduceLeDiff, Nat.reduceEqDiff, Nat.add_zero, Nat.add_sub_cancel, Option.toList, List.cons_append, List.nil_append, i72_0, i72_1, i72_2, i72_3, i72_4, i72_5, i72_6, i72_7, i72_8, i72_9, i72_10, i72_11, i72_12, i72_13, i72_14, i72_15, i72_16, i72_17, i72_18, i72_19, i72_20, i72_21, i72_22, i72_23, i72_24, i72_25, i72_26, i72_27, i72_28, i72_29, i72_30, i72_31, i72_32, i72_33, rv_13_1, rv_15_0, rv_1_1, rv_25_0, rv_3_0, i72_34s8, i72_150, i72_151, i72_152, i72_153, i72_154, i72_155, i72_156, i72_157, i72_158, i72_159, i72_160, i72_161, i72_162, i72_163, i72_164, i72_165, i72_166, i72_167, i72_168, i72_169, i72_170, i72_171, i72_172, rv_25_1, rv_25_2, mC_2, mC_4, mC_s2, a0, h1, a2, hb, hc, c11, c76]
  simp only [c_plain, c_lki]
  by_cases h : (c_look f g u i2).1 = nI 6
  · simp only [h, if_true]
  · simp only [h, if_false]
theorem c72_k8 (ht : 55 ≤ t) (hu : u < 3) {p i1 i2 i3 : Nat} {B : Int32} (hp : p + 3 < 960) (hact : c_act (J 4) p 8 i1 i2 i3 B) (hO : c_owned f i2) (hs : ∀ y, y < 6 → ∃ s, s ≤ 16 ∧ J 8 y = nI s) : WPC V 72 [.ref 25, .int (nI u), .int (nI p)] m n ls st t (mC J f g nn ww) L (m_RR e a b) Q = WP V m n ls ((.int (c_plain J L f g nn ww u 8 i1 i2 i3 k B).1) :: st) t (mC J (c_plain J L f g nn ww u 8 i1 i2 i3 k B).2.1 (c_plain J L f g nn ww u 8 i1 i2 i3 k B).2.2.1 (c_plain J L f g nn ww u 8 i1 i2 i3 k B).2.2.2.1 (c_plain J L f g nn ww u 8 i1 i2 i3 k B).2.2.2.2) L (m_RR e a b) Q := wpc_of (fun Q => w72_k8 ht hu hp hact hO hs)
theorem w72_k9 (ht : 55 ≤ t) (hu : u < 3) {p i1 i2 i3 : Nat} {B : Int32} (hp : p + 3 < 960) (hact : c_act (J 4) p 9 i1 i2 i3 B) : WP V 72 0 (m_loc 72 [.ref 25, .int (nI u), .int (nI p)]) [] t (mC J f g nn ww) L (m_RR e a b) Q = Q (some (.int (c_plain J L f g nn ww u 9 i1 i2 i3 k B).1)) t (mC J (c_plain J L f g nn ww u 9 i1 i2 i3 k B).2.1 (c_plain J L f g nn ww u 9 i1 i2 i3 k B).2.2.1 (c_plain J L f g nn ww u 9 i1 i2 i3 k B).2.2.2.1 (c_plain J L f g nn ww u 9 i1 i2 i3 k B).2.2.2.2) L (m_RR e a b) := by
  rw [show m_loc 72 [.ref 25, .int (nI u), .int (nI p)] = [.ref 25, .int (nI u), .int (nI p), m_u, m_u, m_u, m_u, m_u, m_u] from rfl]
  obtain ⟨a0, a2, a1, ab, ac⟩ := hact
  have h1 := (a1 (by decide)).1
  have h1l : i1 < 41 := (a1 (by decide)).2
  simp (disch := first | assumption | omega | decide) only [nI_add, n_mul, n_sub, n_le, n_lt, n_eq, n_ne1, n_0, m_bl_t, m_bl_f, if_true, if_false, Nat.reduceAdd, Nat.reduceMul, Nat.reduceSub, Nat.reduceLeDiff, Nat.reduceEqDiff, Nat.add_zero, Nat.add_sub_cancel, Option.toList, List.cons_append, List.nil_append, i72_0, i72_1, i72_2, i72_3, i72_4, i72_5, i72_6, i72_7, i72_8, i72_9, i72_10, i72_11, i72_12, i72_13, i72_14, i72_15, i72_16, i72_17, i72_18, i72_19, i72_20, i72_21, i72_22, i72_23, i72_24, i72_25, i72_26, i72_27, i72_28, i72_29, i72_30, i72_31, i72_32, i72_33, rv_13_1, rv_15_0, rv_1_1, rv_25_0, rv_3_0, i72_34s9, i72_173, i72_174, i72_175, i72_176, i72_177, mC_2, mC_4, mC_s2, a0, h1, a2, c74]
  all_goals simp only [c_plain, c_gp]
theorem c72_k9 (ht : 55 ≤ t) (hu : u < 3) {p i1 i2 i3 : Nat} {B : Int32} (hp : p + 3 < 960) (hact : c_act (J 4) p 9 i1 i2 i3 B) : WPC V 72 [.ref 25, .int (nI u), .int (nI p)] m n ls st t (mC J f g nn ww) L (m_RR e a b) Q = WP V m n ls ((.int (c_plain J L f g nn ww u 9 i1 i2 i3 k B).1) :: st) t (mC J (c_plain J L f g nn ww u 9 i1 i2 i3 k B).2.1 (c_plain J L f g nn ww u 9 i1 i2 i3 k B).2.2.1 (c_plain J L f g nn ww u 9 i1 i2 i3 k B).2.2.2.1 (c_plain J L f g nn ww u 9 i1 i2 i3 k B).2.2.2.2) L (m_RR e a b) Q := wpc_of (fun Q => w72_k9 ht hu hp hact)
theorem w72_k10 (ht : 55 ≤ t) (hu : u < 3) {p i1 i2 i3 : Nat} {B : Int32} (hp : p + 3 < 960) (hact : c_act (J 4) p 10 i1 i2 i3 B) : WP V 72 0 (m_loc 72 [.ref 25, .int (nI u), .int (nI p)]) [] t (mC J f g nn ww) L (m_RR e a b) Q = Q (some (.int (c_plain J L f g nn ww u 10 i1 i2 i3 k B).1)) t (mC J (c_plain J L f g nn ww u 10 i1 i2 i3 k B).2.1 (c_plain J L f g nn ww u 10 i1 i2 i3 k B).2.2.1 (c_plain J L f g nn ww u 10 i1 i2 i3 k B).2.2.2.1 (c_plain J L f g nn ww u 10 i1 i2 i3 k B).2.2.2.2) L (m_RR e a b) := by
  rw [show m_loc 72 [.ref 25, .int (nI u), .int (nI p)] = [.ref 25, .int (nI u), .int (nI p), m_u, m_u, m_u, m_u, m_u, m_u] from rfl]
  obtain ⟨a0, a2, a1, ab, ac⟩ := hact
  have h1 := (a1 (by decide)).1
  have h1l : i1 < 4 := (a1 (by decide)).2
  have hb := (ab (by decide)).1
  have hbl : i2 < 41 := (ab (by decide)).2
  simp (disch := first | assumption | omega | decide) only [nI_add, n_mul, n_sub, n_le, n_lt, n_eq, n_ne1, n_0, m_bl_t, m_bl_f, if_true, if_false, Nat.reduceAdd, Nat.reduceMul, Nat.reduceSub, Nat.reduceLeDiff, Nat.reduceEqDiff, Nat.add_zero, Nat.add_sub_cancel, Option.toList, List.cons_append, List.nil_append, i72_0, i72_1, i72_2, i72_3, i72_4, i72_5, i72_6, i72_7, i72_8, i72_9, i72_10, i72_11, i72_12, i72_13, i72_14, i72_15, i72_16, i72_17, i72_18, i72_19, i72_20, i72_21, i72_22, i72_23, i72_24, i72_25, i72_26, i72_27, i72_28, i72_29, i72_30, i72_31, i72_32, i72_33, rv_13_1, rv_15_0, rv_1_1, rv_25_0, rv_3_0, i72_34sd, i72_178, i72_179, i72_180, i72_181, i72_182, i72_183, i72_184, i72_185, i72_186, i72_187, i72_188, i72_189, i72_190, i72_191, rv_25_1, mC_2, mC_4, mC_s2, a0, h1, a2, hb, c74]
  by_cases h : f (21 + 4 * u + i1) = nI 0 <;> simp [c_plain, h]
theorem c72_k10 (ht : 55 ≤ t) (hu : u < 3) {p i1 i2 i3 : Nat} {B : Int32} (hp : p + 3 < 960) (hact : c_act (J 4) p 10 i1 i2 i3 B) : WPC V 72 [.ref 25, .int (nI u), .int (nI p)] m n ls st t (mC J f g nn ww) L (m_RR e a b) Q = WP V m n ls ((.int (c_plain J L f g nn ww u 10 i1 i2 i3 k B).1) :: st) t (mC J (c_plain J L f g nn ww u 10 i1 i2 i3 k B).2.1 (c_plain J L f g nn ww u 10 i1 i2 i3 k B).2.2.1 (c_plain J L f g nn ww u 10 i1 i2 i3 k B).2.2.2.1 (c_plain J L f g nn ww u 10 i1 i2 i3 k B).2.2.2.2) L (m_RR e a b) Q := wpc_of (fun Q => w72_k10 ht hu hp hact)
end T26
