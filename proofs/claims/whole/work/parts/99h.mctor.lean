/-! the constructors: the model -/
section RCB
variable {V : m_V} {m n : Nat} {ls st : List Value} {t : Nat} {I I' : m_I} {L L' : m_L} {R R' : m_R} {e : Option Nat} {b : Nat} {Q : Option Value → Nat → m_I → m_L → m_R → Prop} {k h q x N : Nat} {v : Int32}
set_option maxRecDepth 20000 in
theorem y_tb27 : m_sc (m_sc (m_sc (m_sc (m_sc (m_sc (m_sc (m_sc (m_sc (m_sc (m_sc (m_sc (m_sc (m_sc (m_sc (m_sc (m_sc (m_sc (m_sc (m_sc (m_sc (m_sc (m_sc (m_sc (m_sc (m_sc (m_sc y_zn 0 (some 28)) 6 (some 29)) 7 (some 30)) 8 (some 31)) 9 (some 32)) 10 (some 33)) 11 (some 34)) 12 (some 35)) 13 (some 36)) 14 (some 37)) 15 (some 38)) 16 (some 39)) 18 (some 40)) 19 (some 41)) 20 (some 42)) 21 (some 43)) 24 (some 44)) 26 (some 45)) 30 (some 46)) 31 (some 47)) 33 (some 48)) 34 (some 49)) 35 (some 50)) 36 (some 51)) 38 (some 52)) 39 (some 53)) 40 (some 54) = m_RR none 28 48 27 := by
  funext j
  match j with
  | 0 | 1 | 2 | 3 | 4 | 5 | 6 | 7 | 8 | 9 | 10 | 11 | 12 | 13 | 14 | 15 | 16 | 17 | 18 | 19 | 20 | 21 | 22 | 23 | 24 | 25 | 26 | 27 | 28 | 29 | 30 | 31 | 32 | 33 | 34 | 35 | 36 | 37 | 38 | 39 | 40 | 41 => rfl
  | j + 42 =>
    rw [m_sc_ne (by omega), m_sc_ne (by omega), m_sc_ne (by omega), m_sc_ne (by omega), m_sc_ne (by omega), m_sc_ne (by omega), m_sc_ne (by omega), m_sc_ne (by omega), m_sc_ne (by omega), m_sc_ne (by omega), m_sc_ne (by omega), m_sc_ne (by omega), m_sc_ne (by omega), m_sc_ne (by omega), m_sc_ne (by omega), m_sc_ne (by omega), m_sc_ne (by omega), m_sc_ne (by omega), m_sc_ne (by omega), m_sc_ne (by omega), m_sc_ne (by omega), m_sc_ne (by omega), m_sc_ne (by omega), m_sc_ne (by omega), m_sc_ne (by omega), m_sc_ne (by omega), m_sc_ne (by omega)]
    rfl
theorem y_tbo (h0 : 27 < k) (h5 : k ≠ 55) : y_zn = m_RR none 28 48 k := by
  unfold m_RR
  have : m_RT none 28 48 k = [] := by
    unfold m_RT
    split <;> first | rfl | omega
  rw [this]
  rfl
theorem y110_8 (ht : 55 ≤ t) (hx : x < 8) : WP V 110 115 [.ref 27, .int (nI x)] [] t I L (m_RR e 28 b) Q = WP V 110 115 [.ref 27, .int (nI (x + 1))] [] t (m_sc I 28 (d_cc (I 28) x)) L (m_RR e 28 b) Q := by
  have hx8 : ¬ 8 ≤ x := by omega
  rw [i110_115]
  simp (disch := first | assumption | omega | decide) only [nI_add, n_mul, n_sub, n_le, n_lt, n_eq, n_ne1, n_0, m_bl_t, m_bl_f, if_true, if_false, Nat.reduceAdd, Nat.reduceMul, Nat.reduceSub, Nat.reduceLeDiff, Nat.reduceEqDiff, Nat.add_zero, Nat.add_sub_cancel, Option.toList, List.cons_append, List.nil_append, i110_116, i110_117, i110_118, i110_119, i110_120, i110_121, i110_122, hx8, c114 ht hx]
theorem y110_3 (ht : 55 ≤ t) (hx : x < 3) : WP V 110 135 [.ref 27, .int (nI x)] [] t I L (m_RR e 28 b) Q = WP V 110 135 [.ref 27, .int (nI (x + 1))] [] t (m_sc I 28 (d_clt (I 28) x)) L (m_RR e 28 b) Q := by
  have hx8 : ¬ 3 ≤ x := by omega
  rw [i110_135]
  simp (disch := first | assumption | omega | decide) only [nI_add, n_mul, n_sub, n_le, n_lt, n_eq, n_ne1, n_0, m_bl_t, m_bl_f, if_true, if_false, Nat.reduceAdd, Nat.reduceMul, Nat.reduceSub, Nat.reduceLeDiff, Nat.reduceEqDiff, Nat.add_zero, Nat.add_sub_cancel, Option.toList, List.cons_append, List.nil_append, i110_136, i110_137, i110_138, i110_139, i110_140, i110_141, i110_142, hx8, c115 ht hx]
def y_G1 : Nat → Int32 := d_cc (d_cc (d_cc (d_cc (d_cc (d_cc (d_cc (d_cc y_z 0) 1) 2) 3) 4) 5) 6) 7
def y_G : Nat → Int32 := d_clt (d_clt (d_clt (m_sc (m_sc y_G1 145 (-1)) 146 (-1)) 0) 1) 2
theorem y110_113 (ht : 55 ≤ t) (h28 : I 28 = y_z) {w : Value} : WP V 110 113 [.ref 27, w] [] t I L (m_RR e 28 b) Q = Q none t (z_rm (m_sc I 28 y_G) 8) L (m_RR e 28 b) := by
  have hA := aa28
  have e1 : ∀ F, m_sc I 28 F 28 = F := fun F => m_sc_self
  simp (disch := first | assumption | omega | decide) only [nI_add, n_mul, n_sub, n_le, n_lt, n_eq, n_ne1, n_0, m_bl_t, m_bl_f, if_true, if_false, Nat.reduceAdd, Nat.reduceMul, Nat.reduceSub, Nat.reduceLeDiff, Nat.reduceEqDiff, Nat.add_zero, Nat.add_sub_cancel, Option.toList, List.cons_append, List.nil_append, i110_113, i110_114]
  rw [y110_8 ht (by omega), y110_8 ht (by omega), y110_8 ht (by omega), y110_8 ht (by omega), y110_8 ht (by omega), y110_8 ht (by omega), y110_8 ht (by omega), y110_8 ht (by omega)]
  simp only [e1, s_scc, h28, Nat.zero_add, Nat.reduceAdd]
  rw [i110_115]
  have f1 : d_cc (d_cc (d_cc (d_cc (d_cc (d_cc (d_cc (d_cc y_z 0) 1) 2) 3) 4) 5) 6) 7 = y_G1 := rfl
  simp (disch := first | assumption | omega | decide) only [nI_add, n_mul, n_sub, n_le, n_lt, n_eq, n_ne1, n_0, m_bl_t, m_bl_f, if_true, if_false, Nat.reduceAdd, Nat.reduceMul, Nat.reduceSub, Nat.reduceLeDiff, Nat.reduceEqDiff, Nat.add_zero, Nat.add_sub_cancel, Option.toList, List.cons_append, List.nil_append, i110_116, i110_117, i110_123, i110_124, i110_125, i110_126, i110_127, i110_128, i110_129, i110_130, i110_131, i110_132, i110_133, i110_134, rv_27_0, Nat.le_refl, f1, e1, s_scc]
  rw [y110_3 ht (by omega), y110_3 ht (by omega), y110_3 ht (by omega), i110_135]
  have f2 : d_clt (d_clt (d_clt (m_sc (m_sc y_G1 145 (-1)) 146 (-1)) 0) 1) 2 = y_G := rfl
  simp only [e1, s_scc, Nat.zero_add, Nat.reduceAdd]
  simp (disch := first | assumption | omega | decide) only [nI_add, n_mul, n_sub, n_le, n_lt, n_eq, n_ne1, n_0, m_bl_t, m_bl_f, if_true, if_false, Nat.reduceAdd, Nat.reduceMul, Nat.reduceSub, Nat.reduceLeDiff, Nat.reduceEqDiff, Nat.add_zero, Nat.add_sub_cancel, Option.toList, List.cons_append, List.nil_append, i110_136, i110_137, i110_143, i110_144, i110_145, Nat.le_refl, f2, c130 ht]
set_option maxRecDepth 20000 in
theorem y110 (hI : I 27 = y_z) (hR : ∀ k, k < 27 → R k = m_RR none 28 48 k) (hRn : ∀ k, 27 ≤ k → k ≠ 55 → R k = y_zn) (hR5 : R 55 = m_RR none 28 48 55) : ∃ I' L', (∀ (m n : Nat) (ls st : List Value) Q, WPC V 110 [.ref 27] m n ls st 28 I L R Q = WP V m n ls st 55 I' L' (m_RR none 28 48) Q) ∧ (∀ k, k < 27 → I' k = I k) ∧ (∀ k, k < 27 → L' k = L k) ∧ I' 27 = m_sc y_z 25 (nI 4000) ∧ I' 28 = y_G ∧ (∀ k, k = 29 ∨ k = 30 ∨ k = 31 ∨ k = 32 ∨ k = 33 ∨ k = 34 ∨ k = 35 ∨ k = 36 ∨ k = 40 ∨ k = 41 ∨ k = 42 ∨ k = 43 → I' k = y_z) ∧ L' 37 = y_zl ∧ (∀ x, x < 8 → I' 38 x = y_G (18 * x) ∧ I' 39 x = y_G (18 * x + 1)) := by
  have hRe : m_sc R 27 (m_sc (m_sc (m_sc (m_sc (m_sc (m_sc (m_sc (m_sc (m_sc (m_sc (m_sc (m_sc (m_sc (m_sc (m_sc (m_sc (m_sc (m_sc (m_sc (m_sc (m_sc (m_sc (m_sc (m_sc (m_sc (m_sc (m_sc y_zn 0 (some 28)) 6 (some 29)) 7 (some 30)) 8 (some 31)) 9 (some 32)) 10 (some 33)) 11 (some 34)) 12 (some 35)) 13 (some 36)) 14 (some 37)) 15 (some 38)) 16 (some 39)) 18 (some 40)) 19 (some 41)) 20 (some 42)) 21 (some 43)) 24 (some 44)) 26 (some 45)) 30 (some 46)) 31 (some 47)) 33 (some 48)) 34 (some 49)) 35 (some 50)) 36 (some 51)) 38 (some 52)) 39 (some 53)) 40 (some 54)) = m_RR none 28 48 := by
    funext k
    by_cases h : k = 27
    · subst h; rw [m_sc_self]; exact y_tb27
    · rw [m_sc_ne h]
      by_cases h2 : k < 27
      · exact hR k h2
      · by_cases h5 : k = 55
        · subst h5; exact hR5
        · rw [hRn k (by omega) h5]; exact y_tbo (by omega) h5
  have hR27 : R 27 = y_zn := hRn 27 (by omega) (by omega)
  refine ⟨?I, ?L, fun m n ls st Q => ?_, ?_⟩
  rotate_left
  rotate_left
  · unfold WPC
    rw [show m_loc 110 [.ref 27] = [.ref 27, m_u] from rfl]
    simp (disch := first | assumption | omega | decide) only [nI_add, n_mul, n_sub, n_le, n_lt, n_eq, n_ne1, n_0, m_bl_t, m_bl_f, if_true, if_false, Nat.reduceAdd, Nat.reduceMul, Nat.reduceSub, Nat.reduceLeDiff, Nat.reduceEqDiff, Nat.add_zero, Nat.add_sub_cancel, Option.toList, List.cons_append, List.nil_append, i110_0, i110_1, i110_2, i110_3, i110_4, i110_5, i110_5n, i110_6, i110_7, i110_8, i110_9, i110_9n, i110_10, i110_11, i110_12, i110_13, i110_13n, i110_14, i110_15, i110_16, i110_17, i110_17n, i110_18, i110_19, i110_20, i110_21, i110_21n, i110_22, i110_23, i110_24, i110_25, i110_25n, i110_26, i110_27, i110_28, i110_29, i110_29n, i110_30, i110_31, i110_32, i110_33, i110_33n, i110_34, i110_35, i110_36, i110_37, i110_37n, i110_38, i110_39, i110_40, i110_41, i110_41n, i110_42, i110_43, i110_44, i110_45, i110_45n, i110_46, i110_47, i110_48, i110_49, i110_49n, i110_50, i110_51, i110_52, i110_53, i110_53n, i110_54, i110_55, i110_56, i110_57, i110_57n, i110_58, i110_59, i110_60, i110_61, i110_61n, i110_62, i110_63, i110_64, i110_65, i110_65n, i110_66, i110_67, i110_68, i110_69, i110_69n, i110_70, i110_71, i110_72, i110_73, i110_74, i110_75, i110_76, i110_76n, i110_77, i110_78, i110_79, i110_80, i110_80n, i110_81, i110_82, i110_83, i110_84, i110_84n, i110_85, i110_86, i110_87, i110_88, i110_88n, i110_89, i110_90, i110_91, i110_92, i110_92n, i110_93, i110_94, i110_95, i110_96, i110_96n, i110_97, i110_98, i110_99, i110_100, i110_100n, i110_101, i110_102, i110_103, i110_104, i110_104n, i110_105, i110_106, i110_107, i110_108, i110_108n, i110_109, i110_110, i110_111, i110_112, i110_112n, m_sc_self, m_sc_ne, s_scc, hR27]
    rw [hRe]
    rw [y110_113 (by decide) (by simp (disch := omega) only [m_sc_ne, m_sc_self]; rfl)]
    rfl
  · refine ⟨fun k hk => ?_, fun k hk => ?_, ?_, ?_, fun k hk => ?_, ?_, fun x hx => ?_⟩
    · rw [z_rm_o (by omega)]
      simp (disch := omega) only [m_sc_ne]
    · simp (disch := omega) only [m_sc_ne]
    · rw [z_rm_o (by omega)]
      simp (disch := omega) only [m_sc_ne, m_sc_self, hI]
    · rw [z_rm_o (by omega), m_sc_self]
    · rcases hk with rfl | rfl | rfl | rfl | rfl | rfl | rfl | rfl | rfl | rfl | rfl | rfl
      all_goals (rw [z_rm_o (by omega)]; simp (disch := omega) only [m_sc_ne, m_sc_self]; rfl)
    · simp (disch := omega) only [m_sc_ne, m_sc_self]
      rfl
    · rw [z_rm_38, z_rm_39, if_pos hx, if_pos hx, m_sc_self]
      exact ⟨rfl, rfl⟩
end RCB
