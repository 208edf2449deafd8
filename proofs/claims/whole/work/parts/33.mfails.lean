/-! specs: the model fails -/
def d_ld (g : Nat → Int32) (u d : Nat) : Nat → Int32 := d_drop (if g (150 + 154 * u + 9 + 23 * d) = nI 1 then d_load g u d else g) u (d + 1) d
/-- from the innermost scope on, d of them, down to a floor -/
def d_cau (u fl : Nat) (v : Int32) : Nat → (Nat → Int32) → Bool × (Nat → Int32)
  | 0, g => (false, g)
  | d + 1, g => if d < fl then (false, g) else if g (150 + 154 * u + 9 + 23 * d) = nI 0 then d_cau u fl v d (d_ld g u d) else
    (true, m_sc (m_sc (d_ld g u d) (150 + 154 * u + 3) v) (150 + 154 * u + 1) (g (150 + 154 * u + 9 + 23 * d + 1)))
theorem d_load_o {g : Nat → Int32} {u d j : Nat} (h1 : j < 150 + 154 * u + 3 ∨ 150 + 154 * u + 7 ≤ j) (h2 : j < 150 + 154 * u + 135 ∨ 150 + 154 * u + 151 ≤ j) : d_load g u d j = g j := by
  unfold d_load
  rw [d_cp_o (by omega), d_cp_o (by omega)]
theorem d_ld_o {g : Nat → Int32} {u d j : Nat} (hd : d < 4) (h1 : j < 150 + 154 * u + 3 ∨ 150 + 154 * u + 7 ≤ j) (h2 : j < 150 + 154 * u + 135 ∨ 150 + 154 * u + 151 ≤ j) (h3 : j < 150 + 154 * u + 8 ∨ 150 + 154 * u + 101 ≤ j) : d_ld g u d j = g j := by
  unfold d_ld
  rw [d_drop_o (by omega) (by omega) h3]
  split
  · exact d_load_o h1 h2
  · rfl
theorem d_ld_8 {g : Nat → Int32} {u d : Nat} : d_ld g u d (150 + 154 * u + 8) = nI d := m_sc_self
def d_fl3 (g : Nat → Int32) (u : Nat) (v : Int32) (d : Nat) : Int32 × (Nat → Int32) :=
  if (d_cau u 0 v d g).1 then (nI 1, (d_cau u 0 v d g).2) else (nI 3, m_sc (m_sc (d_cau u 0 v d g).2 (150 + 154 * u) (nI 3)) (150 + 154 * u + 2) v)
theorem d_cau_o {u fl : Nat} {v : Int32} {j : Nat} (h1 : j < 150 + 154 * u + 1 ∨ 150 + 154 * u + 7 ≤ j) (h2 : j < 150 + 154 * u + 135 ∨ 150 + 154 * u + 151 ≤ j) (h3 : j < 150 + 154 * u + 8 ∨ 150 + 154 * u + 101 ≤ j) : ∀ (d : Nat) (g : Nat → Int32), d ≤ 4 → (d_cau u fl v d g).2 j = g j := by
  intro d
  induction d with
  | zero => intro g _; rfl
  | succ d ih =>
    intro g hd
    rw [d_cau]
    split
    · rfl
    · split
      · rw [ih _ (by omega), d_ld_o (by omega) (by omega) h2 h3]
      · dsimp only
        rw [m_sc_ne (by omega), m_sc_ne (by omega), d_ld_o (by omega) (by omega) h2 h3]
theorem d_cau_8 {u fl : Nat} {v : Int32} : ∀ (d : Nat) (g : Nat → Int32), fl ≤ d → g (150 + 154 * u + 8) = nI d → (d_cau u fl v d g).1 = false → (d_cau u fl v d g).2 (150 + 154 * u + 8) = nI fl := by
  intro d
  induction d with
  | zero =>
    intro g h1 h2 _
    obtain rfl : fl = 0 := by omega
    exact h2
  | succ d ih =>
    intro g h1 h2 h3
    rw [d_cau] at h3 ⊢
    by_cases hd : d < fl
    · obtain rfl : fl = d + 1 := by omega
      rw [if_pos hd]; exact h2
    · rw [if_neg hd] at h3 ⊢
      by_cases h4 : g (150 + 154 * u + 9 + 23 * d) = nI 0
      · rw [if_pos h4] at h3 ⊢
        exact ih _ (by omega) d_ld_8 h3
      · rw [if_neg h4] at h3
        cases h3
def d_fail2 (g h : Nat → Int32) (o : m_I) (u : Nat) (v : Int32) (k c : Nat) : Int32 × (Nat → Int32) × (Nat → Int32) × m_I :=
  if g (150 + 154 * u + 102) = nI 3 then ((d_fl3 (d_end (d_ct g u) u) u v k).1, (d_fl3 (d_end (d_ct g u) u) u v k).2, d_cno g h o u c)
  else if d_ch g u then (nI 2, d_anew g u k k, d_anh h, o)
  else ((d_fl3 (d_end (d_cp g (150 + 154 * u + 106) (150 + 154 * u + 3) 4) u) u v k).1, (d_fl3 (d_end (d_cp g (150 + 154 * u + 106) (150 + 154 * u + 3) 4) u) u v k).2, h, o)
def d_fails (g h : Nat → Int32) (o : m_I) (u : Nat) (v : Int32) (d k c : Nat) : Int32 × (Nat → Int32) × (Nat → Int32) × m_I :=
  if g (150 + 154 * u + 101) = nI 1 then (if (d_cau u k v d g).1 then (nI 1, (d_cau u k v d g).2, h, o) else d_fail2 (d_cau u k v d g).2 h o u v k c)
  else ((d_fl3 g u v d).1, (d_fl3 g u v d).2, h, o)
theorem d_bec_o {g : Nat → Int32} {x j : Nat} {v z : Int32} (hx : x < 8) (h : 144 ≤ j) : d_bec g x v z j = g j := by
  unfold d_bec
  rw [m_sc_ne (by omega)]
  unfold d_bc2
  rw [m_sc_ne (by omega), m_sc_ne (by omega), m_sc_ne (by omega)]
  refine (if_neg (by omega)).trans ?_
  unfold d_bc1
  rw [m_sc_ne (by omega), m_sc_ne (by omega), m_sc_ne (by omega)]
theorem d_ct_o {g : Nat → Int32} {u j : Nat} (h : 145 ≤ j) : d_ct g u j = g j := by
  unfold d_ct
  split
  · rw [s_lo 8 0 _ (fun y _ h2 g => by
      unfold d_ct1
      split
      · rfl
      · rw [d_bec_o (by omega) (by omega)]), m_sc_ne (by omega)]
  · rfl
theorem d_end_z {g : Nat → Int32} {u j : Nat} (h : 150 + 154 * u + 101 ≤ j) (h2 : j < 150 + 154 * u + 111) : d_end g u j = nI 0 := by
  unfold d_end d_clear
  rw [d_el_o (by omega), d_er_o (by omega)]
  exact if_pos (by omega)
section T33
variable {V : m_V} {t m n : Nat} {ls st : List Value} {I J : m_I} {g h : Nat → Int32} {o : m_I} {L : m_L} {R : m_R} {e : Option Nat} {a b : Nat} {Q : Option Value → Nat → m_I → m_L → m_R → Prop} {u x k : Nat}
theorem w155_3 (ht : 55 ≤ t) (hu : u < 3) (ha : m_aa a) {v i : Int32} {k fl : Nat} (hfl : fl = if i = nI 1 then k else 0) (hk : k ≤ 4) : ∀ (d : Nat) (g : Nat → Int32) (l4 l5 l6 l7 l8 : Value) (X : Prop), d ≤ 4 → g (150 + 154 * u + 8) = nI d → g (150 + 154 * u + 101) = i → g (150 + 154 * u + 110) = nI k →
    ((d_cau u fl v d g).1 = false → ∀ y l6 l7 l8, WP V 155 82 [.ref 27, .int (nI u), .int v, .int (nI (150 + 154 * u)), .int (nI fl), .int y, l6, l7, l8] [] t (mM J a (d_cau u fl v d g).2 h o) L (m_RR e a b) Q = X) →
    WP V 155 3 [.ref 27, .int (nI u), .int v, .int (nI (150 + 154 * u)), l4, l5, l6, l7, l8] [] t (mM J a g h o) L (m_RR e a b) Q = if (d_cau u fl v d g).1 = true then Q (some (.int (nI 1))) t (mM J a (d_cau u fl v d g).2 h o) L (m_RR e a b) else X := by
  have hA := mA_of ha
  have hat := mA_lt ha ht
  have hfl4 : fl ≤ 4 := by rw [hfl]; split <;> omega
  intro d
  induction d with
  | zero =>
    intro g l4 l5 l6 l7 l8 X hd hg hi hg2 hX
    have hX' := hX rfl (-1)
    rw [show (d_cau u fl v 0 g).2 = g from rfl] at hX'
    have e9 : (d_cau u fl v 0 g).1 = false := rfl
    rw [e9, i155_3]
    by_cases h1 : i = nI 1
    · rw [if_pos h1] at hfl
      simp (disch := first | assumption | omega | decide) only [nI_add, n_mul, n_sub, n_le, n_lt, n_eq, n_ne1, n_0, m_bl_t, m_bl_f, if_true, if_false, Nat.reduceAdd, Nat.reduceMul, Nat.reduceSub, Nat.reduceLeDiff, Nat.reduceEqDiff, Nat.add_zero, Nat.add_sub_cancel, Option.toList, List.cons_append, List.nil_append, i155_4, i155_5, i155_6, i155_7, i155_8, i155_9, i155_10, i155_11, i155_12, i155_13, i155_14, i155_15, i155_16, i155_17, i155_18, i155_19, i155_20, i155_21, i155_22, i155_23, i155_24, i155_25, i155_26, i155_27, i155_28, i155_29, i155_30, i155_31, rv_27_0, mM_a, hi, h1, hg, hg2, n_sm0, n_lm1, ← hfl, hX', Bool.false_eq_true]
    · rw [if_neg h1] at hfl
      subst hfl
      simp (disch := first | assumption | omega | decide) only [nI_add, n_mul, n_sub, n_le, n_lt, n_eq, n_ne1, n_0, m_bl_t, m_bl_f, if_true, if_false, Nat.reduceAdd, Nat.reduceMul, Nat.reduceSub, Nat.reduceLeDiff, Nat.reduceEqDiff, Nat.add_zero, Nat.add_sub_cancel, Option.toList, List.cons_append, List.nil_append, i155_4, i155_5, i155_6, i155_7, i155_8, i155_9, i155_10, i155_11, i155_12, i155_13, i155_14, i155_15, i155_16, i155_17, i155_18, i155_19, i155_20, i155_21, i155_22, i155_23, i155_24, i155_25, i155_26, i155_27, i155_28, i155_29, i155_30, i155_31, rv_27_0, mM_a, hi, h1, hg, hg2, n_sm0, n_lm1, hX', Bool.false_eq_true]
  | succ d ih =>
    intro g l4 l5 l6 l7 l8 X hd hg hi hg2 hX
    have hd4 : d < 4 := by omega
    have e0 : nI (d + 1) - nI 1 = nI d := by rw [n_sub (by omega), Nat.add_sub_cancel]
    have pre : WP V 155 3 [.ref 27, .int (nI u), .int v, .int (nI (150 + 154 * u)), l4, l5, l6, l7, l8] [] t (mM J a g h o) L (m_RR e a b) Q = if d < fl then WP V 155 82 [.ref 27, .int (nI u), .int v, .int (nI (150 + 154 * u)), .int (nI fl), .int (nI d), l6, l7, l8] [] t (mM J a g h o) L (m_RR e a b) Q else WP V 155 32 [.ref 27, .int (nI u), .int v, .int (nI (150 + 154 * u)), .int (nI fl), .int (nI d), l6, l7, l8] [] t (mM J a g h o) L (m_RR e a b) Q := by
      rw [i155_3]
      by_cases h1 : i = nI 1
      · rw [if_pos h1] at hfl
        simp (disch := first | assumption | omega | decide) only [nI_add, n_mul, n_sub, n_le, n_lt, n_eq, n_ne1, n_0, m_bl_t, m_bl_f, if_true, if_false, Nat.reduceAdd, Nat.reduceMul, Nat.reduceSub, Nat.reduceLeDiff, Nat.reduceEqDiff, Nat.add_zero, Nat.add_sub_cancel, Option.toList, List.cons_append, List.nil_append, i155_4, i155_5, i155_6, i155_7, i155_8, i155_9, i155_10, i155_11, i155_12, i155_13, i155_14, i155_15, i155_16, i155_17, i155_18, i155_19, i155_20, i155_21, i155_22, i155_23, i155_24, i155_25, i155_26, i155_27, i155_28, i155_29, i155_30, i155_31, rv_27_0, mM_a, hi, h1, hg, hg2, e0, ← hfl]
      · rw [if_neg h1] at hfl
        subst hfl
        simp (disch := first | assumption | omega | decide) only [nI_add, n_mul, n_sub, n_le, n_lt, n_eq, n_ne1, n_0, m_bl_t, m_bl_f, if_true, if_false, Nat.reduceAdd, Nat.reduceMul, Nat.reduceSub, Nat.reduceLeDiff, Nat.reduceEqDiff, Nat.add_zero, Nat.add_sub_cancel, Option.toList, List.cons_append, List.nil_append, i155_4, i155_5, i155_6, i155_7, i155_8, i155_9, i155_10, i155_11, i155_12, i155_13, i155_14, i155_15, i155_16, i155_17, i155_18, i155_19, i155_20, i155_21, i155_22, i155_23, i155_24, i155_25, i155_26, i155_27, i155_28, i155_29, i155_30, i155_31, rv_27_0, mM_a, hi, h1, hg, hg2, e0]
    rw [pre]
    rw [d_cau] at hX ⊢
    by_cases h2 : d < fl
    · simp only [h2, if_true] at hX ⊢
      rw [hX (by first | rfl | trivial), if_neg (by decide)]
    · simp only [h2, if_false] at hX ⊢
      by_cases h3 : g (150 + 154 * u + 9 + 23 * d) = nI 0
      · simp only [h3, if_true] at hX ⊢
        have e1 : d_ld g u d = d_drop g u (d + 1) d := by
          unfold d_ld
          rw [if_neg (by rw [h3]; decide)]
        have q8 : d_ld g u d (150 + 154 * u + 8) = nI d := d_ld_8
        have q1 : d_ld g u d (150 + 154 * u + 101) = i := by rw [d_ld_o hd4 (by omega) (by omega) (by omega), hi]
        have q2 : d_ld g u d (150 + 154 * u + 110) = nI k := by rw [d_ld_o hd4 (by omega) (by omega) (by omega), hg2]
        rw [e1] at q8 q1 q2 hX ⊢
        simp (disch := first | assumption | omega | decide) only [nI_add, n_mul, n_sub, n_le, n_lt, n_eq, n_ne1, n_0, m_bl_t, m_bl_f, if_true, if_false, Nat.reduceAdd, Nat.reduceMul, Nat.reduceSub, Nat.reduceLeDiff, Nat.reduceEqDiff, Nat.add_zero, Nat.add_sub_cancel, Option.toList, List.cons_append, List.nil_append, i155_32, i155_33, i155_34, i155_35, i155_36, i155_37, i155_38, i155_39, i155_40, i155_41, i155_42, i155_43, i155_44, i155_45, i155_46, i155_47, i155_48, i155_49, i155_50, i155_51, i155_52, i155_53, i155_54, i155_59, i155_60, i155_61, i155_62, i155_63, i155_64, i155_81, i155_154, rv_27_0, mM_a, h3, c141 ht hu ha hd hg (Nat.le_succ d)]
        exact ih _ _ _ _ _ _ X (by omega) q8 q1 q2 hX
      · simp only [h3, if_false, if_true] at hX ⊢
        by_cases h4 : g (150 + 154 * u + 9 + 23 * d) = nI 1
        · have e1 : d_ld g u d = d_drop (d_load g u d) u (d + 1) d := by
            unfold d_ld
            rw [if_pos h4]
          have g8 : d_load g u d (150 + 154 * u + 8) = nI (d + 1) := by rw [d_load_o (by omega) (by omega), hg]
          have h10 : ¬ nI 1 = nI 0 := by decide
          rw [e1]
          simp (disch := first | assumption | omega | decide) only [nI_add, n_mul, n_sub, n_le, n_lt, n_eq, n_ne1, n_0, m_bl_t, m_bl_f, if_true, if_false, Nat.reduceAdd, Nat.reduceMul, Nat.reduceSub, Nat.reduceLeDiff, Nat.reduceEqDiff, Nat.add_zero, Nat.add_sub_cancel, Option.toList, List.cons_append, List.nil_append, i155_32, i155_33, i155_34, i155_35, i155_36, i155_37, i155_38, i155_39, i155_40, i155_41, i155_42, i155_43, i155_44, i155_45, i155_46, i155_47, i155_48, i155_49, i155_50, i155_51, i155_52, i155_53, i155_54, i155_55, i155_56, i155_57, i155_58, i155_59, i155_60, i155_61, i155_62, i155_63, i155_64, rv_27_0, mM_a, h4, h10, c154, c141 ht hu ha hd g8 (Nat.le_succ d), i155_65, i155_66, i155_67, i155_68, i155_69, i155_70, i155_71, i155_72, i155_73, i155_74, i155_75, i155_76, i155_77, i155_78, i155_79, i155_80, rv_27_0, mM_sa]
        · have e1 : d_ld g u d = d_drop g u (d + 1) d := by
            unfold d_ld
            rw [if_neg h4]
          rw [e1]
          simp (disch := first | assumption | omega | decide) only [nI_add, n_mul, n_sub, n_le, n_lt, n_eq, n_ne1, n_0, m_bl_t, m_bl_f, if_true, if_false, Nat.reduceAdd, Nat.reduceMul, Nat.reduceSub, Nat.reduceLeDiff, Nat.reduceEqDiff, Nat.add_zero, Nat.add_sub_cancel, Option.toList, List.cons_append, List.nil_append, i155_32, i155_33, i155_34, i155_35, i155_36, i155_37, i155_38, i155_39, i155_40, i155_41, i155_42, i155_43, i155_44, i155_45, i155_46, i155_47, i155_48, i155_49, i155_50, i155_51, i155_52, i155_53, i155_54, i155_59, i155_60, i155_61, i155_62, i155_63, i155_64, rv_27_0, mM_a, h3, h4, c141 ht hu ha hd hg (Nat.le_succ d), i155_65, i155_66, i155_67, i155_68, i155_69, i155_70, i155_71, i155_72, i155_73, i155_74, i155_75, i155_76, i155_77, i155_78, i155_79, i155_80, rv_27_0, mM_sa]
theorem w155_out (ht : 55 ≤ t) (hu : u < 3) (ha : m_aa a) {v : Int32} {d : Nat} {l4 l5 l6 l7 l8 : Value} (hd : d ≤ 4) (hg : g (150 + 154 * u + 8) = nI d) (hi : ¬ g (150 + 154 * u + 101) = nI 1) (hk : k ≤ 4) (hg2 : g (150 + 154 * u + 110) = nI k) : WP V 155 3 [.ref 27, .int (nI u), .int v, .int (nI (150 + 154 * u)), l4, l5, l6, l7, l8] [] t (mM J a g h o) L (m_RR e a b) Q = Q (some (.int (d_fl3 g u v d).1)) t (mM J a (d_fl3 g u v d).2 h o) L (m_RR e a b) := by
  have hA := mA_of ha
  have hat := mA_lt ha ht
  have q1 : (d_cau u 0 v d g).2 (150 + 154 * u + 101) = g (150 + 154 * u + 101) := d_cau_o (by omega) (by omega) (by omega) d g hd
  have hX : ∀ y l6 l7 l8, WP V 155 82 [.ref 27, .int (nI u), .int v, .int (nI (150 + 154 * u)), .int (nI 0), .int y, l6, l7, l8] [] t (mM J a (d_cau u 0 v d g).2 h o) L (m_RR e a b) Q = Q (some (.int (nI 3))) t (mM J a (m_sc (m_sc (d_cau u 0 v d g).2 (150 + 154 * u) (nI 3)) (150 + 154 * u + 2) v) h o) L (m_RR e a b) := by
    intro y l6 l7 l8
    simp (disch := first | assumption | omega | decide) only [nI_add, n_mul, n_sub, n_le, n_lt, n_eq, n_ne1, n_0, m_bl_t, m_bl_f, if_true, if_false, Nat.reduceAdd, Nat.reduceMul, Nat.reduceSub, Nat.reduceLeDiff, Nat.reduceEqDiff, Nat.add_zero, Nat.add_sub_cancel, Option.toList, List.cons_append, List.nil_append, i155_82, i155_83, i155_84, i155_85, i155_86, i155_87, i155_88, i155_89, i155_138, i155_139, i155_140, i155_141, i155_142, i155_143, i155_144, i155_145, i155_146, i155_147, i155_148, i155_149, i155_150, i155_151, i155_152, i155_153, rv_27_0, mM_a, mM_sa, q1, hi]
  rw [w155_3 (i := g (150 + 154 * u + 101)) ht hu ha (if_neg hi).symm hk d g l4 l5 l6 l7 l8 _ hd hg rfl hg2 (fun _ => hX)]
  unfold d_fl3
  cases (d_cau u 0 v d g).1
  · rw [if_neg (by decide), if_neg (by decide)]
  · rw [if_pos rfl, if_pos rfl]
theorem w155_113 (ht : 55 ≤ t) (hu : u < 3) (ha : m_aa a) {v y4 y5 : Int32} {l7 l8 : Value} : ∀ (c x : Nat) (g : Nat → Int32), x + c = 4 → WP V 155 113 [.ref 27, .int (nI u), .int v, .int (nI (150 + 154 * u)), .int y4, .int y5, .int (nI x), l7, l8] [] t (mM J a g h o) L (m_RR e a b) Q = WP V 155 134 [.ref 27, .int (nI u), .int v, .int (nI (150 + 154 * u)), .int y4, .int y5, .int (nI 4), l7, l8] [] t (mM J a (s_loop (d_cp1 (150 + 154 * u + 106) (150 + 154 * u + 3)) x c g) h o) L (m_RR e a b) Q := by
  have hA := mA_of ha
  have hat := mA_lt ha ht
  intro c
  induction c with
  | zero =>
    intro x g hx
    obtain rfl : x = 4 := by omega
    rw [i155_113]
    simp (disch := first | assumption | omega | decide) only [nI_add, n_mul, n_sub, n_le, n_lt, n_eq, n_ne1, n_0, m_bl_t, m_bl_f, if_true, if_false, Nat.reduceAdd, Nat.reduceMul, Nat.reduceSub, Nat.reduceLeDiff, Nat.reduceEqDiff, Nat.add_zero, Nat.add_sub_cancel, Option.toList, List.cons_append, List.nil_append, i155_114, i155_115, Nat.le_refl, s_loop]
  | succ c ih =>
    intro x g hx
    have hx8 : ¬ 4 ≤ x := by omega
    have hx7 : x < 4 := by omega
    rw [i155_113, s_loop]
    simp (disch := first | assumption | omega | decide) only [nI_add, n_mul, n_sub, n_le, n_lt, n_eq, n_ne1, n_0, m_bl_t, m_bl_f, if_true, if_false, Nat.reduceAdd, Nat.reduceMul, Nat.reduceSub, Nat.reduceLeDiff, Nat.reduceEqDiff, Nat.add_zero, Nat.add_sub_cancel, Option.toList, List.cons_append, List.nil_append, i155_114, i155_115, i155_116, i155_117, i155_118, i155_119, i155_120, i155_121, i155_122, i155_123, i155_124, i155_125, i155_126, i155_127, i155_128, i155_129, i155_130, i155_131, i155_132, i155_133, rv_27_0, hx8, mM_a, mM_sa]
    exact ih (x + 1) (d_cp1 (150 + 154 * u + 106) (150 + 154 * u + 3) x g) (by omega)
theorem w155_82 (ht : 55 ≤ t) (hu : u < 3) (ha : m_aa a) {v y : Int32} {c : Nat} {l6 l7 l8 : Value} (hn : h 17 = nI c) (hn2 : c ≤ 60) (hg : g (150 + 154 * u + 8) = nI k) (hi : g (150 + 154 * u + 101) = nI 1) (hk : k ≤ 4) (hg2 : g (150 + 154 * u + 110) = nI k) : WP V 155 82 [.ref 27, .int (nI u), .int v, .int (nI (150 + 154 * u)), .int (nI k), .int y, l6, l7, l8] [] t (mM J a g h o) L (m_RR e a b) Q = Q (some (.int (d_fail2 g h o u v k c).1)) t (mM J a (d_fail2 g h o u v k c).2.1 (d_fail2 g h o u v k c).2.2.1 (d_fail2 g h o u v k c).2.2.2) L (m_RR e a b) := by
  have hA := mA_of ha
  have hat := mA_lt ha ht
  have h01 : ¬ nI 0 = nI 1 := by decide
  have out : ∀ g', g' (150 + 154 * u + 8) = nI k → ∀ h' o' l4 l5 l6 l7 l8, WP V 155 3 [.ref 27, .int (nI u), .int v, .int (nI (150 + 154 * u)), l4, l5, l6, l7, l8] [] t (mM J a (d_end g' u) h' o') L (m_RR e a b) Q = Q (some (.int (d_fl3 (d_end g' u) u v k).1)) t (mM J a (d_fl3 (d_end g' u) u v k).2 h' o') L (m_RR e a b) := by
    intro g' hg' h' o' l4 l5 l6 l7 l8
    exact w155_out (k := 0) ht hu ha hk (by rw [d_end_o (by omega) (by omega), hg']) (by rw [d_end_z (by omega) (by omega)]; exact h01) (by omega) (d_end_z (by omega) (by omega))
  unfold d_fail2
  simp (disch := first | assumption | omega | decide) only [nI_add, n_mul, n_sub, n_le, n_lt, n_eq, n_ne1, n_0, m_bl_t, m_bl_f, if_true, if_false, Nat.reduceAdd, Nat.reduceMul, Nat.reduceSub, Nat.reduceLeDiff, Nat.reduceEqDiff, Nat.add_zero, Nat.add_sub_cancel, Option.toList, List.cons_append, List.nil_append, i155_82, i155_83, i155_84, i155_85, i155_86, i155_87, i155_88, i155_89, i155_90, i155_91, i155_92, i155_93, i155_94, i155_95, i155_96, i155_97, rv_27_0, mM_a, hi]
  by_cases h1 : g (150 + 154 * u + 102) = nI 3
  · have e8 : d_ct g u (150 + 154 * u + 8) = nI k := by rw [d_ct_o (by omega), hg]
    simp (disch := first | assumption | omega | decide) only [nI_add, n_mul, n_sub, n_le, n_lt, n_eq, n_ne1, n_0, m_bl_t, m_bl_f, if_true, if_false, Nat.reduceAdd, Nat.reduceMul, Nat.reduceSub, Nat.reduceLeDiff, Nat.reduceEqDiff, Nat.add_zero, Nat.add_sub_cancel, Option.toList, List.cons_append, List.nil_append, h1, i155_98, i155_99, i155_100, i155_101, i155_154, c143 ht hu ha hn hn2, out _ e8]
  · simp (disch := first | assumption | omega | decide) only [nI_add, n_mul, n_sub, n_le, n_lt, n_eq, n_ne1, n_0, m_bl_t, m_bl_f, if_true, if_false, Nat.reduceAdd, Nat.reduceMul, Nat.reduceSub, Nat.reduceLeDiff, Nat.reduceEqDiff, Nat.add_zero, Nat.add_sub_cancel, Option.toList, List.cons_append, List.nil_append, h1, i155_102, i155_103, i155_104, i155_105, c140, b_0]
    cases h2 : d_ch g u
    · simp (disch := first | assumption | omega | decide) only [nI_add, n_mul, n_sub, n_le, n_lt, n_eq, n_ne1, n_0, m_bl_t, m_bl_f, if_true, if_false, Nat.reduceAdd, Nat.reduceMul, Nat.reduceSub, Nat.reduceLeDiff, Nat.reduceEqDiff, Nat.add_zero, Nat.add_sub_cancel, Option.toList, List.cons_append, List.nil_append, i155_111, i155_112, Bool.false_eq_true]
      rw [w155_113 ht hu ha 4 0 g rfl, show s_loop (d_cp1 (150 + 154 * u + 106) (150 + 154 * u + 3)) 0 4 g = d_cp g (150 + 154 * u + 106) (150 + 154 * u + 3) 4 from rfl]
      have e8 : d_cp g (150 + 154 * u + 106) (150 + 154 * u + 3) 4 (150 + 154 * u + 8) = nI k := by rw [d_cp_o (by omega), hg]
      simp (disch := first | assumption | omega | decide) only [nI_add, n_mul, n_sub, n_le, n_lt, n_eq, n_ne1, n_0, m_bl_t, m_bl_f, if_true, if_false, Nat.reduceAdd, Nat.reduceMul, Nat.reduceSub, Nat.reduceLeDiff, Nat.reduceEqDiff, Nat.add_zero, Nat.add_sub_cancel, Option.toList, List.cons_append, List.nil_append, i155_134, i155_135, i155_136, i155_137, i155_154, c144, out _ e8]
    · simp (disch := first | assumption | omega | decide) only [nI_add, n_mul, n_sub, n_le, n_lt, n_eq, n_ne1, n_0, m_bl_t, m_bl_f, if_true, if_false, Nat.reduceAdd, Nat.reduceMul, Nat.reduceSub, Nat.reduceLeDiff, Nat.reduceEqDiff, Nat.add_zero, Nat.add_sub_cancel, Option.toList, List.cons_append, List.nil_append, i155_106, i155_107, i155_108, i155_109, i155_110, Bool.true_eq_false, c142 ht hu ha hk hg (Nat.le_refl k) hg2]
theorem w155 (ht : 55 ≤ t) (hu : u < 3) (ha : m_aa a) {v : Int32} {c d : Nat} (hn : h 17 = nI c) (hn2 : c ≤ 60) (hd : d ≤ 4) (hg : g (150 + 154 * u + 8) = nI d) (hk : k ≤ d) (hg2 : g (150 + 154 * u + 110) = nI k) : WP V 155 0 (m_loc 155 [.ref 27, .int (nI u), .int v]) [] t (mM J a g h o) L (m_RR e a b) Q = Q (some (.int (d_fails g h o u v d k c).1)) t (mM J a (d_fails g h o u v d k c).2.1 (d_fails g h o u v d k c).2.2.1 (d_fails g h o u v d k c).2.2.2) L (m_RR e a b) := by
  have hk4 : k ≤ 4 := by omega
  rw [show m_loc 155 [.ref 27, .int (nI u), .int v] = [.ref 27, .int (nI u), .int v, m_u, m_u, m_u, m_u, m_u, m_u] from rfl]
  simp (disch := first | assumption | omega | decide) only [nI_add, n_mul, n_sub, n_le, n_lt, n_eq, n_ne1, n_0, m_bl_t, m_bl_f, if_true, if_false, Nat.reduceAdd, Nat.reduceMul, Nat.reduceSub, Nat.reduceLeDiff, Nat.reduceEqDiff, Nat.add_zero, Nat.add_sub_cancel, Option.toList, List.cons_append, List.nil_append, i155_0, i155_1, i155_2, c113]
  unfold d_fails
  by_cases hi : g (150 + 154 * u + 101) = nI 1
  · rw [if_pos hi]
    have q1 : (d_cau u k v d g).2 (150 + 154 * u + 101) = nI 1 := by rw [d_cau_o (by omega) (by omega) (by omega) d g hd, hi]
    have q2 : (d_cau u k v d g).2 (150 + 154 * u + 110) = nI k := by rw [d_cau_o (by omega) (by omega) (by omega) d g hd, hg2]
    cases hc : (d_cau u k v d g).1
    · have q8 := d_cau_8 d g hk hg hc
      rw [w155_3 (i := nI 1) ht hu ha (if_pos rfl).symm hk4 d g _ _ _ _ _ _ hd hg hi hg2 (fun _ y l6 l7 l8 => w155_82 ht hu ha hn hn2 q8 q1 hk4 q2), hc, if_neg (by decide), if_neg (by decide)]
    · rw [w155_3 (i := nI 1) (X := True) ht hu ha (if_pos rfl).symm hk4 d g _ _ _ _ _ hd hg hi hg2 (fun hf => absurd (hc.symm.trans hf) (by decide)), hc, if_pos rfl, if_pos rfl]
  · rw [if_neg hi]
    rw [w155_out ht hu ha hd hg hi hk4 hg2]
theorem c155 (ht : 55 ≤ t) (hu : u < 3) (ha : m_aa a) {v : Int32} {c d : Nat} (hn : h 17 = nI c) (hn2 : c ≤ 60) (hd : d ≤ 4) (hg : g (150 + 154 * u + 8) = nI d) (hk : k ≤ d) (hg2 : g (150 + 154 * u + 110) = nI k) : WPC V 155 [.ref 27, .int (nI u), .int v] m n ls st t (mM J a g h o) L (m_RR e a b) Q = WP V m n ls ((.int (d_fails g h o u v d k c).1) :: st) t (mM J a (d_fails g h o u v d k c).2.1 (d_fails g h o u v d k c).2.2.1 (d_fails g h o u v d k c).2.2.2) L (m_RR e a b) Q := wpc_of (fun Q => w155 ht hu ha hn hn2 hd hg hk hg2)
end T33
