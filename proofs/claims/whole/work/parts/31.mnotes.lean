/-! specs: the model notes -/
def d_sf (f : Nat → Int32) (lo hi s : Nat) : Nat → Int32 := fun j => if lo ≤ j ∧ j < hi then f (j - s) else f j
theorem d_sf0 {f : Nat → Int32} {lo s : Nat} : d_sf f lo lo s = f := by
  funext j; exact if_neg (by omega)
theorem d_sf1 {f : Nat → Int32} {i n : Nat} (hi : i ≤ n) (h1 : 1 ≤ i) : m_sc (d_sf f (i + 1) (n + 1) 1) i (f (i - 1)) = d_sf f i (n + 1) 1 := by
  funext j
  by_cases hj : j = i
  · subst hj; rw [m_sc_self]; exact (if_pos (by omega)).symm
  · rw [m_sc_ne hj]
    by_cases h2 : i ≤ j ∧ j < n + 1
    · exact (if_pos (by omega)).trans (if_pos h2).symm
    · exact (if_neg (by omega)).trans (if_neg h2).symm
def d_sr (f : Nat → Int32) (i n x : Nat) : Nat → Int32 := fun j => if (32 * i ≤ j ∧ j < 32 * i + x) ∨ (32 * (i + 1) ≤ j ∧ j < 32 * (n + 1)) then f (j - 32) else f j
theorem d_sr0 {f : Nat → Int32} {i n : Nat} : d_sr f i n 0 = d_sf f (32 * (i + 1)) (32 * (n + 1)) 32 := by
  funext j
  unfold d_sr d_sf
  by_cases h : 32 * (i + 1) ≤ j ∧ j < 32 * (n + 1)
  · rw [if_pos h, if_pos (Or.inr h)]
  · rw [if_neg h, if_neg (by omega)]
theorem d_sr32 {f : Nat → Int32} {i n : Nat} (h : i ≤ n) : d_sr f i n 32 = d_sf f (32 * i) (32 * (n + 1)) 32 := by
  funext j
  unfold d_sr d_sf
  by_cases h : 32 * i ≤ j ∧ j < 32 * (n + 1)
  · rw [if_pos h, if_pos (by omega)]
  · rw [if_neg h, if_neg (by omega)]
theorem d_sr1 {f : Nat → Int32} {i n x : Nat} (hx : x < 32) (h1 : 1 ≤ i) : m_sc (d_sr f i n x) (32 * i + x) (d_sr f i n x (32 * i - 32 + x)) = d_sr f i n (x + 1) := by
  have e1 : d_sr f i n x (32 * i - 32 + x) = f (32 * i - 32 + x) := if_neg (by omega)
  rw [e1]
  funext j
  by_cases hj : j = 32 * i + x
  · subst hj; rw [m_sc_self]
    refine (congrArg f ?_).trans (if_pos (by omega)).symm
    omega
  · rw [m_sc_ne hj]
    unfold d_sr
    by_cases h2 : (32 * i ≤ j ∧ j < 32 * i + x) ∨ (32 * (i + 1) ≤ j ∧ j < 32 * (n + 1))
    · rw [if_pos h2, if_pos (by omega)]
    · rw [if_neg h2, if_neg (by omega)]
def mN (o : m_I) (n0 n1 n2 n3 : Nat → Int32) : m_I := fun k => if k = 40 then n0 else if k = 41 then n1 else if k = 42 then n2 else if k = 43 then n3 else o k
section TN
variable {o : m_I} {n0 n1 n2 n3 z : Nat → Int32}
theorem mN_0 : mN o n0 n1 n2 n3 40 = n0 := rfl
theorem mN_1 : mN o n0 n1 n2 n3 41 = n1 := rfl
theorem mN_2 : mN o n0 n1 n2 n3 42 = n2 := rfl
theorem mN_3 : mN o n0 n1 n2 n3 43 = n3 := rfl
theorem mN_4 : mN o n0 n1 n2 n3 44 = o 44 := rfl
theorem mN_s0 : m_sc (mN o n0 n1 n2 n3) 40 z = mN o z n1 n2 n3 := by
  funext k; by_cases hk : k = 40 <;> simp [m_sc, mN, hk]
theorem mN_s1 : m_sc (mN o n0 n1 n2 n3) 41 z = mN o n0 z n2 n3 := by
  funext k; by_cases hk : k = 41
  · subst hk; simp [m_sc, mN]
  · simp [m_sc, mN, hk]
theorem mN_s2 : m_sc (mN o n0 n1 n2 n3) 42 z = mN o n0 n1 z n3 := by
  funext k; by_cases hk : k = 42
  · subst hk; simp [m_sc, mN]
  · simp [m_sc, mN, hk]
theorem mN_s3 : m_sc (mN o n0 n1 n2 n3) 43 z = mN o n0 n1 n2 z := by
  funext k; by_cases hk : k = 43
  · subst hk; simp [m_sc, mN]
  · simp [m_sc, mN, hk]
theorem mN_self : mN o (o 40) (o 41) (o 42) (o 43) = o := by
  funext k
  unfold mN
  split
  · rename_i hk; rw [hk]
  · split
    · rename_i hk; rw [hk]
    · split
      · rename_i hk; rw [hk]
      · split
        · rename_i hk; rw [hk]
        · rfl
end TN
def d_nr1 (s : Nat → Int32) (p b5 b6 x : Nat) (z : Nat → Int32) : Nat → Int32 := m_sc (m_sc (m_sc (m_sc z (32 * p + x) (s (b5 + 2 * x))) (32 * p + 8 + x) (s (b5 + 2 * x + 1))) (32 * p + 16 + x) (s (b6 + 2 * x))) (32 * p + 24 + x) (s (b6 + 2 * x + 1))
def d_ntp (g h : Nat → Int32) (o : m_I) (u : Nat) (kd : Int32) (n : Nat) : Nat := if decide (kd = nI 1) && decide (h 1 = nI 2) then s_find (fun i => decide (g (150 + 154 * u + 103) < o 42 i)) 0 n else n
def d_nto (o : m_I) (s : Nat → Int32) (u : Nat) (kd ck : Int32) (n p b5 b6 : Nat) : m_I :=
  mN o (m_sc (d_sf (o 40) (p + 1) (n + 1) 1) p (nI u)) (m_sc (d_sf (o 41) (p + 1) (n + 1) 1) p kd) (m_sc (d_sf (o 42) (p + 1) (n + 1) 1) p ck) (s_loop (d_nr1 s p b5 b6) 0 8 (d_sf (o 43) (32 * (p + 1)) (32 * (n + 1)) 32))
def d_note (g h : Nat → Int32) (o : m_I) (s : Nat → Int32) (u : Nat) (kd ck : Int32) (n b5 b6 : Nat) : (Nat → Int32) × m_I :=
  if n = 60 then (m_sc h 4 (h 4 + nI 1), o) else (m_sc (m_sc h 4 (h 4 + nI 1)) 17 (nI (n + 1)), d_nto o s u kd ck n (d_ntp g h o u kd n) b5 b6)
section T31
variable {V : m_V} {t m n : Nat} {ls st : List Value} {I J : m_I} {g h : Nat → Int32} {o : m_I} {L : m_L} {R : m_R} {e : Option Nat} {a b : Nat} {Q : Option Value → Nat → m_I → m_L → m_R → Prop} {u x k : Nat}
theorem w136_23 (ht : 55 ≤ t) (hu : u < 3) (ha : m_aa a) {kd ck : Int32} {w4 w5 w8 w9 : Value} {y6 : Int32} (hn : h 17 = nI n) (hn2 : n < 60) : ∀ (c i : Nat), i + c = n → WP V 136 23 [.ref 27, .int (nI u), .int kd, .int ck, w4, w5, .int y6, .int (nI i), w8, w9] [] t (mM J a g h o) L (m_RR e a b) Q = WP V 136 41 [.ref 27, .int (nI u), .int kd, .int ck, w4, w5, .int y6, .int (nI (s_find (fun i => decide (g (150 + 154 * u + 103) < o 42 i)) i c)), w8, w9] [] t (mM J a g h o) L (m_RR e a b) Q := by
  have hA := mA_of ha
  have hat := mA_lt ha ht
  intro c
  induction c with
  | zero =>
    intro i hi
    obtain rfl : i = n := by omega
    rw [i136_23]
    simp (disch := first | assumption | omega | decide) only [nI_add, n_mul, n_sub, n_le, n_lt, n_eq, n_ne1, n_0, m_bl_t, m_bl_f, if_true, if_false, Nat.reduceAdd, Nat.reduceMul, Nat.reduceSub, Nat.reduceLeDiff, Nat.reduceEqDiff, Nat.add_zero, Nat.add_sub_cancel, Option.toList, List.cons_append, List.nil_append, i136_24, i136_25, i136_26, mM_27, hn, Nat.le_refl, s_find]
  | succ c ih =>
    intro i hi
    have hx8 : ¬ n ≤ i := by omega
    have hi2 : i < 60 := by omega
    rw [i136_23, s_find]
    simp (disch := first | assumption | omega | decide) only [nI_add, n_mul, n_sub, n_le, n_lt, n_eq, n_ne1, n_0, m_bl_t, m_bl_f, if_true, if_false, Nat.reduceAdd, Nat.reduceMul, Nat.reduceSub, Nat.reduceLeDiff, Nat.reduceEqDiff, Nat.add_zero, Nat.add_sub_cancel, Option.toList, List.cons_append, List.nil_append, i136_24, i136_25, i136_26, i136_27, i136_28, i136_29, i136_30, i136_31, i136_32, i136_33, i136_34, i136_35, i136_36, i136_37, i136_38, rv_27_0, rv_27_20, mM_27, mM_n, mM_a, hn, hx8, c113]
    by_cases h1 : g (150 + 154 * u + 103) < o 42 i
    · simp (disch := first | assumption | omega | decide) only [nI_add, n_mul, n_sub, n_le, n_lt, n_eq, n_ne1, n_0, m_bl_t, m_bl_f, if_true, if_false, Nat.reduceAdd, Nat.reduceMul, Nat.reduceSub, Nat.reduceLeDiff, Nat.reduceEqDiff, Nat.add_zero, Nat.add_sub_cancel, Option.toList, List.cons_append, List.nil_append, h1, decide_true]
    · simp (disch := first | assumption | omega | decide) only [nI_add, n_mul, n_sub, n_le, n_lt, n_eq, n_ne1, n_0, m_bl_t, m_bl_f, if_true, if_false, Nat.reduceAdd, Nat.reduceMul, Nat.reduceSub, Nat.reduceLeDiff, Nat.reduceEqDiff, Nat.add_zero, Nat.add_sub_cancel, Option.toList, List.cons_append, List.nil_append, h1, decide_false, Bool.false_eq_true, i136_39, i136_40]
      exact ih (i + 1) (by omega)
theorem w136_79 (ht : 55 ≤ t) (ha : m_aa a) {w1 w2 w3 w4 w5 w6 w7 : Value} {n0 n1 n2 f : Nat → Int32} {i : Nat} (hi : 1 ≤ i) (hin : i ≤ n) (hn2 : n < 60) : ∀ (c x : Nat), x + c = 32 → WP V 136 79 [.ref 27, w1, w2, w3, w4, w5, w6, w7, .int (nI i), .int (nI x)] [] t (mM J a g h (mN o n0 n1 n2 (d_sr f i n x))) L (m_RR e a b) Q = WP V 136 102 [.ref 27, w1, w2, w3, w4, w5, w6, w7, .int (nI i), .int (nI 32)] [] t (mM J a g h (mN o n0 n1 n2 (d_sr f i n 32))) L (m_RR e a b) Q := by
  intro c
  induction c with
  | zero =>
    intro x hx
    obtain rfl : x = 32 := by omega
    rw [i136_79]
    simp (disch := first | assumption | omega | decide) only [nI_add, n_mul, n_sub, n_le, n_lt, n_eq, n_ne1, n_0, m_bl_t, m_bl_f, if_true, if_false, Nat.reduceAdd, Nat.reduceMul, Nat.reduceSub, Nat.reduceLeDiff, Nat.reduceEqDiff, Nat.add_zero, Nat.add_sub_cancel, Option.toList, List.cons_append, List.nil_append, i136_80, i136_81, Nat.le_refl]
  | succ c ih =>
    intro x hx
    have hx8 : ¬ 32 ≤ x := by omega
    have hx7 : x < 32 := by omega
    rw [i136_79]
    simp (disch := first | assumption | omega | decide) only [nI_add, n_mul, n_sub, n_le, n_lt, n_eq, n_ne1, n_0, m_bl_t, m_bl_f, if_true, if_false, Nat.reduceAdd, Nat.reduceMul, Nat.reduceSub, Nat.reduceLeDiff, Nat.reduceEqDiff, Nat.add_zero, Nat.add_sub_cancel, Option.toList, List.cons_append, List.nil_append, i136_80, i136_81, i136_82, i136_83, i136_84, i136_85, i136_86, i136_87, i136_88, i136_89, i136_90, i136_91, i136_92, i136_93, i136_94, i136_95, i136_96, i136_97, i136_98, i136_99, i136_100, i136_101, rv_27_21, hx8, mM_n, mM_sn, mN_3, mN_s3, d_sr1]
    exact ih (x + 1) (by omega)
theorem w136_44 (ht : 55 ≤ t) (ha : m_aa a) {w1 w2 w3 w4 w5 w6 : Value} {p : Nat} {f0 f1 f2 f3 : Nat → Int32} (hp : p ≤ n) (hn2 : n < 60) : ∀ (c : Nat) (w9 : Value), p + c ≤ n → WP V 136 44 [.ref 27, w1, w2, w3, w4, w5, w6, .int (nI p), .int (nI (p + c)), w9] [] t (mM J a g h (mN o (d_sf f0 (p + c + 1) (n + 1) 1) (d_sf f1 (p + c + 1) (n + 1) 1) (d_sf f2 (p + c + 1) (n + 1) 1) (d_sf f3 (32 * (p + c + 1)) (32 * (n + 1)) 32))) L (m_RR e a b) Q = WP V 136 104 [.ref 27, w1, w2, w3, w4, w5, w6, .int (nI p), .int (nI p), (if c = 0 then w9 else .int (nI 32))] [] t (mM J a g h (mN o (d_sf f0 (p + 1) (n + 1) 1) (d_sf f1 (p + 1) (n + 1) 1) (d_sf f2 (p + 1) (n + 1) 1) (d_sf f3 (32 * (p + 1)) (32 * (n + 1)) 32))) L (m_RR e a b) Q := by
  intro c
  induction c with
  | zero =>
    intro w9 hc
    rw [i136_44]
    simp (disch := first | assumption | omega | decide) only [nI_add, n_mul, n_sub, n_le, n_lt, n_eq, n_ne1, n_0, m_bl_t, m_bl_f, if_true, if_false, Nat.reduceAdd, Nat.reduceMul, Nat.reduceSub, Nat.reduceLeDiff, Nat.reduceEqDiff, Nat.add_zero, Nat.add_sub_cancel, Option.toList, List.cons_append, List.nil_append, i136_45, i136_46, Nat.le_refl]
  | succ c ih =>
    intro w9 hc
    have hx8 : ¬ p + c + 1 ≤ p := by omega
    have hi1 : 1 ≤ p + c + 1 := by omega
    have hi2 : p + c + 1 ≤ n := by omega
    have ed : ∀ f : Nat → Int32, m_sc (d_sf f (p + c + 1 + 1) (n + 1) 1) (p + c + 1) (d_sf f (p + c + 1 + 1) (n + 1) 1 (p + c)) = d_sf f (p + c + 1) (n + 1) 1 := fun f => by
      rw [show d_sf f (p + c + 1 + 1) (n + 1) 1 (p + c) = f (p + c + 1 - 1) from if_neg (by omega)]
      exact d_sf1 hi2 hi1
    have er : ∀ f : Nat → Int32, d_sf f (32 * (p + c + 1 + 1)) (32 * (n + 1)) 32 = d_sr f (p + c + 1) n 0 := fun f => d_sr0.symm
    rw [show p + (c + 1) = p + c + 1 from rfl, i136_44, if_neg (by omega), er]
    simp (disch := first | assumption | omega | decide) only [nI_add, n_mul, n_sub, n_le, n_lt, n_eq, n_ne1, n_0, m_bl_t, m_bl_f, if_true, if_false, Nat.reduceAdd, Nat.reduceMul, Nat.reduceSub, Nat.reduceLeDiff, Nat.reduceEqDiff, Nat.add_zero, Nat.add_sub_cancel, Option.toList, List.cons_append, List.nil_append, i136_45, i136_46, i136_47, i136_48, i136_49, i136_50, i136_51, i136_52, i136_53, i136_54, i136_55, i136_56, i136_57, i136_58, i136_59, i136_60, i136_61, i136_62, i136_63, i136_64, i136_65, i136_66, i136_67, i136_68, i136_69, i136_70, i136_71, i136_72, i136_73, i136_74, i136_75, i136_76, i136_77, i136_78, rv_27_18, rv_27_19, rv_27_20, hx8, mM_n, mM_sn, mN_0, mN_1, mN_2, mN_s0, mN_s1, mN_s2, ed]
    rw [w136_79 ht ha hi1 hi2 hn2 32 0 rfl, d_sr32 hi2]
    simp (disch := first | assumption | omega | decide) only [nI_add, n_mul, n_sub, n_le, n_lt, n_eq, n_ne1, n_0, m_bl_t, m_bl_f, if_true, if_false, Nat.reduceAdd, Nat.reduceMul, Nat.reduceSub, Nat.reduceLeDiff, Nat.reduceEqDiff, Nat.add_zero, Nat.add_sub_cancel, Option.toList, List.cons_append, List.nil_append, i136_102, i136_103, n_m1]
    rw [ih (.int (nI 32)) (by omega)]
    cases c <;> rfl
theorem w136_121 (ht : 55 ≤ t) (ha : m_aa a) {w1 w2 w3 : Value} {p r N b5 b6 : Nat} {w9 : Value} {n0 n1 n2 s : Nat → Int32} (hp : p < 60) (hr : r < t) (hrN : m_ar r 2 N = true) (hN : N < 2 ^ 31) (hb5 : b5 + 16 ≤ N) (hb6 : b6 + 16 ≤ N) (hN2 : N < 1000) (hs : ∀ z, mM J a g h (mN o n0 n1 n2 z) r = s) : ∀ (c x : Nat) (z : Nat → Int32), x + c = 8 → WP V 136 121 [.ref 27, w1, w2, w3, .ref r, .int (nI b5), .int (nI b6), .int (nI p), .int (nI x), w9] [] t (mM J a g h (mN o n0 n1 n2 z)) L (m_RR e a b) Q = WP V 136 196 [.ref 27, w1, w2, w3, .ref r, .int (nI b5), .int (nI b6), .int (nI p), .int (nI 8), w9] [] t (mM J a g h (mN o n0 n1 n2 (s_loop (d_nr1 s p b5 b6) x c z))) L (m_RR e a b) Q := by
  intro c
  induction c with
  | zero =>
    intro x z hx
    obtain rfl : x = 8 := by omega
    rw [i136_121]
    simp (disch := first | assumption | omega | decide) only [nI_add, n_mul, n_sub, n_le, n_lt, n_eq, n_ne1, n_0, m_bl_t, m_bl_f, if_true, if_false, Nat.reduceAdd, Nat.reduceMul, Nat.reduceSub, Nat.reduceLeDiff, Nat.reduceEqDiff, Nat.add_zero, Nat.add_sub_cancel, Option.toList, List.cons_append, List.nil_append, i136_122, i136_123, Nat.le_refl, s_loop]
  | succ c ih =>
    intro x z hx
    have hx8 : ¬ 8 ≤ x := by omega
    have hx7 : x < 8 := by omega
    rw [i136_121, s_loop]
    simp (disch := first | assumption | omega | decide) only [nI_add, n_mul, n_sub, n_le, n_lt, n_eq, n_ne1, n_0, m_bl_t, m_bl_f, if_true, if_false, Nat.reduceAdd, Nat.reduceMul, Nat.reduceSub, Nat.reduceLeDiff, Nat.reduceEqDiff, Nat.add_zero, Nat.add_sub_cancel, Option.toList, List.cons_append, List.nil_append, i136_122, i136_123, i136_124, i136_125, i136_126, i136_127, i136_128, i136_129, i136_130, i136_131, i136_132, i136_133, i136_134, i136_135, i136_136, i136_138, i136_139, i136_140, i136_141, i136_142, i136_143, i136_144, i136_145, i136_146, i136_147, i136_148, i136_149, i136_150, i136_151, i136_152, i136_153, i136_154, i136_155, i136_157, i136_158, i136_159, i136_160, i136_161, i136_162, i136_163, i136_164, i136_165, i136_166, i136_167, i136_168, i136_169, i136_170, i136_171, i136_172, i136_174, i136_175, i136_176, i136_177, i136_178, i136_179, i136_180, i136_181, i136_182, i136_183, i136_184, i136_185, i136_186, i136_187, i136_188, i136_189, i136_190, i136_191, i136_193, i136_194, i136_195, rv_27_21, i136_137 (N := N), i136_156 (N := N), i136_173 (N := N), i136_192 (N := N), hx8, hs, mM_n, mM_sn, mN_3, mN_s3]
    exact ih (x + 1) (d_nr1 s p b5 b6 x z) (by omega)
theorem w136_41 (ht : 55 ≤ t) (hu : u < 3) (ha : m_aa a) {kd ck : Int32} {p r N b5 b6 : Nat} {s : Nat → Int32} (hp : p ≤ n) (hn : h 17 = nI n) (hn2 : n < 60) (hr : r < t) (hrN : m_ar r 2 N = true) (hN : N < 2 ^ 31) (hb5 : b5 + 16 ≤ N) (hb6 : b6 + 16 ≤ N) (hN2 : N < 1000) (hs : ∀ n0 n1 n2 z h, mM J a g h (mN o n0 n1 n2 z) r = s) : WP V 136 41 [.ref 27, .int (nI u), .int kd, .int ck, .ref r, .int (nI b5), .int (nI b6), .int (nI p), m_u, m_u] [] t (mM J a g h o) L (m_RR e a b) Q = Q none t (mM J a g (m_sc h 17 (nI (n + 1))) (d_nto o s u kd ck n p b5 b6)) L (m_RR e a b) := by
  have e0 : mM J a g h o = mM J a g h (mN o (o 40) (o 41) (o 42) (o 43)) := by rw [mN_self]
  have hp2 : p < 60 := by omega
  have h44 := w136_44 (V := V) (J := J) (g := g) (h := h) (o := o) (L := L) (e := e) (b := b) (Q := Q) (w1 := .int (nI u)) (w2 := .int kd) (w3 := .int ck) (w4 := .ref r) (w5 := .int (nI b5)) (w6 := .int (nI b6)) (f0 := o 40) (f1 := o 41) (f2 := o 42) (f3 := o 43) ht ha hp hn2 (n - p) m_u (by omega)
  rw [show p + (n - p) = n by omega] at h44
  simp only [d_sf0] at h44
  rw [e0]
  simp (disch := first | assumption | omega | decide) only [nI_add, n_mul, n_sub, n_le, n_lt, n_eq, n_ne1, n_0, m_bl_t, m_bl_f, if_true, if_false, Nat.reduceAdd, Nat.reduceMul, Nat.reduceSub, Nat.reduceLeDiff, Nat.reduceEqDiff, Nat.add_zero, Nat.add_sub_cancel, Option.toList, List.cons_append, List.nil_append, i136_41, i136_42, i136_43, mM_27, hn]
  rw [h44]
  simp (disch := first | assumption | omega | decide) only [nI_add, n_mul, n_sub, n_le, n_lt, n_eq, n_ne1, n_0, m_bl_t, m_bl_f, if_true, if_false, Nat.reduceAdd, Nat.reduceMul, Nat.reduceSub, Nat.reduceLeDiff, Nat.reduceEqDiff, Nat.add_zero, Nat.add_sub_cancel, Option.toList, List.cons_append, List.nil_append, i136_104, i136_105, i136_106, i136_107, i136_108, i136_109, i136_110, i136_111, i136_112, i136_113, i136_114, i136_115, i136_116, i136_117, i136_118, i136_119, i136_120, rv_27_18, rv_27_19, rv_27_20, mM_n, mM_sn, mN_0, mN_1, mN_2, mN_s0, mN_s1, mN_s2]
  rw [w136_121 ht ha hp2 hr hrN hN hb5 hb6 hN2 (fun z => hs _ _ _ z h) 8 0 _ rfl]
  simp (disch := first | assumption | omega | decide) only [nI_add, n_mul, n_sub, n_le, n_lt, n_eq, n_ne1, n_0, m_bl_t, m_bl_f, if_true, if_false, Nat.reduceAdd, Nat.reduceMul, Nat.reduceSub, Nat.reduceLeDiff, Nat.reduceEqDiff, Nat.add_zero, Nat.add_sub_cancel, Option.toList, List.cons_append, List.nil_append, i136_196, i136_197, i136_198, i136_199, i136_200, i136_201, i136_202, mM_27, mM_s27, hn]
  rfl
theorem w136 (ht : 55 ≤ t) (hu : u < 3) (ha : m_aa a) {c r N b5 b6 : Nat} {kd ck : Int32} {s : Nat → Int32} (hn : h 17 = nI c) (hn2 : c ≤ 60) (hr : r < t) (hrN : m_ar r 2 N = true) (hN : N < 2 ^ 31) (hb5 : b5 + 16 ≤ N) (hb6 : b6 + 16 ≤ N) (hN2 : N < 1000) (hs : ∀ n0 n1 n2 z h, mM J a g h (mN o n0 n1 n2 z) r = s) : WP V 136 0 (m_loc 136 [.ref 27, .int (nI u), .int kd, .int ck, .ref r, .int (nI b5), .int (nI b6)]) [] t (mM J a g h o) L (m_RR e a b) Q = Q none t (mM J a g (d_note g h o s u kd ck c b5 b6).1 (d_note g h o s u kd ck c b5 b6).2) L (m_RR e a b) := by
  rw [show m_loc 136 [.ref 27, .int (nI u), .int kd, .int ck, .ref r, .int (nI b5), .int (nI b6)] = [.ref 27, .int (nI u), .int kd, .int ck, .ref r, .int (nI b5), .int (nI b6), m_u, m_u, m_u] from rfl]
  unfold d_note
  have e17 : m_sc h 4 (h 4 + nI 1) 17 = nI c := hn
  have e1 : m_sc h 4 (h 4 + nI 1) 1 = h 1 := rfl
  simp (disch := first | assumption | omega | decide) only [nI_add, n_mul, n_sub, n_le, n_lt, n_eq, n_ne1, n_0, m_bl_t, m_bl_f, if_true, if_false, Nat.reduceAdd, Nat.reduceMul, Nat.reduceSub, Nat.reduceLeDiff, Nat.reduceEqDiff, Nat.add_zero, Nat.add_sub_cancel, Option.toList, List.cons_append, List.nil_append, i136_0, i136_1, i136_2, i136_3, i136_4, i136_5, i136_6, i136_7, i136_8, i136_9, mM_27, mM_s27, e17]
  by_cases h60 : c = 60
  · simp (disch := first | assumption | omega | decide) only [nI_add, n_mul, n_sub, n_le, n_lt, n_eq, n_ne1, n_0, m_bl_t, m_bl_f, if_true, if_false, Nat.reduceAdd, Nat.reduceMul, Nat.reduceSub, Nat.reduceLeDiff, Nat.reduceEqDiff, Nat.add_zero, Nat.add_sub_cancel, Option.toList, List.cons_append, List.nil_append, h60, i136_10]
  · have hn3 : c < 60 := by omega
    have h41 := fun p (hp : p ≤ c) => w136_41 (V := V) (L := L) (e := e) (b := b) (Q := Q) (kd := kd) (ck := ck) ht hu ha hp e17 hn3 hr hrN hN hb5 hb6 hN2 hs
    simp (disch := first | assumption | omega | decide) only [nI_add, n_mul, n_sub, n_le, n_lt, n_eq, n_ne1, n_0, m_bl_t, m_bl_f, if_true, if_false, Nat.reduceAdd, Nat.reduceMul, Nat.reduceSub, Nat.reduceLeDiff, Nat.reduceEqDiff, Nat.add_zero, Nat.add_sub_cancel, Option.toList, List.cons_append, List.nil_append, h60, i136_11, i136_12, i136_13, i136_14, i136_15, i136_16, mM_27, e17]
    unfold d_ntp
    by_cases h2 : kd = nI 1
    · simp (disch := first | assumption | omega | decide) only [nI_add, n_mul, n_sub, n_le, n_lt, n_eq, n_ne1, n_0, m_bl_t, m_bl_f, if_true, if_false, Nat.reduceAdd, Nat.reduceMul, Nat.reduceSub, Nat.reduceLeDiff, Nat.reduceEqDiff, Nat.add_zero, Nat.add_sub_cancel, Option.toList, List.cons_append, List.nil_append, h2, i136_17, i136_18, i136_19, i136_20, mM_27, e1]
      by_cases h3 : h 1 = nI 2
      · rw [h2] at h41
        simp (disch := first | assumption | omega | decide) only [nI_add, n_mul, n_sub, n_le, n_lt, n_eq, n_ne1, n_0, m_bl_t, m_bl_f, if_true, if_false, Nat.reduceAdd, Nat.reduceMul, Nat.reduceSub, Nat.reduceLeDiff, Nat.reduceEqDiff, Nat.add_zero, Nat.add_sub_cancel, Option.toList, List.cons_append, List.nil_append, h3, i136_21, i136_22, decide_true, Bool.and_self]
        rw [w136_23 ht hu ha e17 hn3 c 0 (by omega), h41 _ (by have := s_find_le (p := fun i => decide (g (150 + 154 * u + 103) < o 42 i)) (k := c) (x := 0); omega)]
      · rw [h2] at h41
        simp (disch := first | assumption | omega | decide) only [nI_add, n_mul, n_sub, n_le, n_lt, n_eq, n_ne1, n_0, m_bl_t, m_bl_f, if_true, if_false, Nat.reduceAdd, Nat.reduceMul, Nat.reduceSub, Nat.reduceLeDiff, Nat.reduceEqDiff, Nat.add_zero, Nat.add_sub_cancel, Option.toList, List.cons_append, List.nil_append, h3, decide_true, decide_false, Bool.and_false, Bool.false_eq_true, h41 c (Nat.le_refl c)]
    · simp (disch := first | assumption | omega | decide) only [nI_add, n_mul, n_sub, n_le, n_lt, n_eq, n_ne1, n_0, m_bl_t, m_bl_f, if_true, if_false, Nat.reduceAdd, Nat.reduceMul, Nat.reduceSub, Nat.reduceLeDiff, Nat.reduceEqDiff, Nat.add_zero, Nat.add_sub_cancel, Option.toList, List.cons_append, List.nil_append, h2, decide_false, Bool.false_and, Bool.false_eq_true, h41 c (Nat.le_refl c)]
theorem c136 (ht : 55 ≤ t) (hu : u < 3) (ha : m_aa a) {c r N b5 b6 : Nat} {kd ck : Int32} {s : Nat → Int32} (hn : h 17 = nI c) (hn2 : c ≤ 60) (hr : r < t) (hrN : m_ar r 2 N = true) (hN : N < 2 ^ 31) (hb5 : b5 + 16 ≤ N) (hb6 : b6 + 16 ≤ N) (hN2 : N < 1000) (hs : ∀ n0 n1 n2 z h, mM J a g h (mN o n0 n1 n2 z) r = s) : WPC V 136 [.ref 27, .int (nI u), .int kd, .int ck, .ref r, .int (nI b5), .int (nI b6)] m n ls st t (mM J a g h o) L (m_RR e a b) Q = WP V m n ls st t (mM J a g (d_note g h o s u kd ck c b5 b6).1 (d_note g h o s u kd ck c b5 b6).2) L (m_RR e a b) Q := wpc_of (fun Q => w136 ht hu ha hn hn2 hr hrN hN hb5 hb6 hN2 hs)
end T31
