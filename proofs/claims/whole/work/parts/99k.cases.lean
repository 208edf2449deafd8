/-! the law's cases -/
section RCE
variable {V : m_V} {m n : Nat} {ls st : List Value} {t N i : Nat} {I : m_I} {L : m_L} {e : Option Nat} {Q : Option Value → Nat → m_I → m_L → m_R → Prop}
def y_go (V : m_V) (t : Nat) (e : Option Nat) (N : Nat) (I : m_I) (L : m_L) (i s : Nat) : Prop := ∃ t' e' I' L', x_T t' e' ∧ TP (N + 200) e' I' L' ∧ ∀ Q, WP V 198 s [.ref 1003, .ref 0, .ref 27, .int (nI i)] [] t I L (m_RR e 28 48) Q = WP V 198 10 [.ref 1003, .ref 0, .ref 27, .int (nI (i + 6))] [] t' I' L' (m_RR e' 28 48) Q
theorem x_T55 {t : Nat} {e : Option Nat} (h : x_T t e) : 55 ≤ t := by rcases h with ⟨_, q⟩ | ⟨_, q⟩ <;> omega
theorem y_c0 (ht : 55 ≤ t) (hL : V.1 < 2 ^ 31) (hi : i + 6 ≤ V.1) (hp : pair_ox V t e N I L 86 [.int (V.2 1003 (i + 1)), .int (V.2 1003 (i + 2)), .int (V.2 1003 (i + 3)), .int (V.2 1003 (i + 4)), .int (V.2 1003 (i + 5))] 125 [.int (V.2 1003 (i + 1)), .int (V.2 1003 (i + 2)), .int (V.2 1003 (i + 3)), .int (V.2 1003 (i + 4)), .int (V.2 1003 (i + 5))]) : y_go V t e N I L i 22 := by
  obtain ⟨v, t', e', I1, L1, I2, L2, hx', h1, h2, h3⟩ := hp
  obtain ⟨y, rfl⟩ := y_int h1 rfl
  have ht' : 55 ≤ t' := x_T55 hx'
  refine ⟨t', e', I2, L2, hx', h3, fun Q => ?_⟩
  simp (disch := first | assumption | omega | decide) only [nI_add, n_mul, n_sub, n_le, n_lt, n_eq, n_ne1, n_0, m_bl_t, m_bl_f, if_true, if_false, Nat.reduceAdd, Nat.reduceMul, Nat.reduceSub, Nat.reduceLeDiff, Nat.reduceEqDiff, Nat.add_zero, Nat.add_sub_cancel, Option.toList, List.cons_append, List.nil_append, i198_22, i198_23, i198_24, i198_25, i198_26, i198_27, i198_28, i198_29, i198_30, i198_31, i198_32, i198_33, i198_34, i198_35, i198_36, i198_37, i198_38, i198_39, i198_40, i198_41, i198_42, i198_43, i198_44, i198_45, i198_46, i198_47, i198_48, wpc_of h1]
  simp (disch := first | assumption | omega | decide) only [nI_add, n_mul, n_sub, n_le, n_lt, n_eq, n_ne1, n_0, m_bl_t, m_bl_f, if_true, if_false, Nat.reduceAdd, Nat.reduceMul, Nat.reduceSub, Nat.reduceLeDiff, Nat.reduceEqDiff, Nat.add_zero, Nat.add_sub_cancel, Option.toList, List.cons_append, List.nil_append, i198_49, i198_50, i198_51, i198_52, i198_53, i198_54, i198_55, i198_56, i198_57, i198_58, i198_59, i198_60, i198_61, i198_62, i198_63, i198_64, i198_65, i198_66, i198_67, i198_68, i198_69, i198_70, i198_71, i198_72, i198_73, i198_74, i198_75, wpc_of h2]
  rw [i198_76, if_pos rfl]
  simp (disch := first | assumption | omega | decide) only [nI_add, n_mul, n_sub, n_le, n_lt, n_eq, n_ne1, n_0, m_bl_t, m_bl_f, if_true, if_false, Nat.reduceAdd, Nat.reduceMul, Nat.reduceSub, Nat.reduceLeDiff, Nat.reduceEqDiff, Nat.add_zero, Nat.add_sub_cancel, Option.toList, List.cons_append, List.nil_append, i198_558, i198_559]
theorem y_c1 (ht : 55 ≤ t) (hL : V.1 < 2 ^ 31) (hi : i + 6 ≤ V.1) (hp : pair_ox V t e N I L 87 [] 126 []) : y_go V t e N I L i 79 := by
  obtain ⟨v, t', e', I1, L1, I2, L2, hx', h1, h2, h3⟩ := hp
  obtain ⟨y, rfl⟩ := y_int h1 rfl
  have ht' : 55 ≤ t' := x_T55 hx'
  refine ⟨t', e', I2, L2, hx', h3, fun Q => ?_⟩
  simp (disch := first | assumption | omega | decide) only [nI_add, n_mul, n_sub, n_le, n_lt, n_eq, n_ne1, n_0, m_bl_t, m_bl_f, if_true, if_false, Nat.reduceAdd, Nat.reduceMul, Nat.reduceSub, Nat.reduceLeDiff, Nat.reduceEqDiff, Nat.add_zero, Nat.add_sub_cancel, Option.toList, List.cons_append, List.nil_append, i198_79, i198_80, wpc_of h1]
  simp (disch := first | assumption | omega | decide) only [nI_add, n_mul, n_sub, n_le, n_lt, n_eq, n_ne1, n_0, m_bl_t, m_bl_f, if_true, if_false, Nat.reduceAdd, Nat.reduceMul, Nat.reduceSub, Nat.reduceLeDiff, Nat.reduceEqDiff, Nat.add_zero, Nat.add_sub_cancel, Option.toList, List.cons_append, List.nil_append, i198_81, i198_82, wpc_of h2]
  rw [i198_83, if_pos rfl]
  simp (disch := first | assumption | omega | decide) only [nI_add, n_mul, n_sub, n_le, n_lt, n_eq, n_ne1, n_0, m_bl_t, m_bl_f, if_true, if_false, Nat.reduceAdd, Nat.reduceMul, Nat.reduceSub, Nat.reduceLeDiff, Nat.reduceEqDiff, Nat.add_zero, Nat.add_sub_cancel, Option.toList, List.cons_append, List.nil_append, i198_558, i198_559]
theorem y_c2 (ht : 55 ≤ t) (hL : V.1 < 2 ^ 31) (hi : i + 6 ≤ V.1) (hp : pair_ox V t e N I L 88 [.int (V.2 1003 (i + 1)), .int (V.2 1003 (i + 2)), .int (V.2 1003 (i + 3))] 127 [.int (V.2 1003 (i + 1)), .int (V.2 1003 (i + 2)), .int (V.2 1003 (i + 3))]) : y_go V t e N I L i 86 := by
  obtain ⟨v, t', e', I1, L1, I2, L2, hx', h1, h2, h3⟩ := hp
  obtain ⟨y, rfl⟩ := y_int h1 rfl
  have ht' : 55 ≤ t' := x_T55 hx'
  refine ⟨t', e', I2, L2, hx', h3, fun Q => ?_⟩
  simp (disch := first | assumption | omega | decide) only [nI_add, n_mul, n_sub, n_le, n_lt, n_eq, n_ne1, n_0, m_bl_t, m_bl_f, if_true, if_false, Nat.reduceAdd, Nat.reduceMul, Nat.reduceSub, Nat.reduceLeDiff, Nat.reduceEqDiff, Nat.add_zero, Nat.add_sub_cancel, Option.toList, List.cons_append, List.nil_append, i198_86, i198_87, i198_88, i198_89, i198_90, i198_91, i198_92, i198_93, i198_94, i198_95, i198_96, i198_97, i198_98, i198_99, i198_100, i198_101, i198_102, wpc_of h1]
  simp (disch := first | assumption | omega | decide) only [nI_add, n_mul, n_sub, n_le, n_lt, n_eq, n_ne1, n_0, m_bl_t, m_bl_f, if_true, if_false, Nat.reduceAdd, Nat.reduceMul, Nat.reduceSub, Nat.reduceLeDiff, Nat.reduceEqDiff, Nat.add_zero, Nat.add_sub_cancel, Option.toList, List.cons_append, List.nil_append, i198_103, i198_104, i198_105, i198_106, i198_107, i198_108, i198_109, i198_110, i198_111, i198_112, i198_113, i198_114, i198_115, i198_116, i198_117, i198_118, i198_119, wpc_of h2]
  rw [i198_120, if_pos rfl]
  simp (disch := first | assumption | omega | decide) only [nI_add, n_mul, n_sub, n_le, n_lt, n_eq, n_ne1, n_0, m_bl_t, m_bl_f, if_true, if_false, Nat.reduceAdd, Nat.reduceMul, Nat.reduceSub, Nat.reduceLeDiff, Nat.reduceEqDiff, Nat.add_zero, Nat.add_sub_cancel, Option.toList, List.cons_append, List.nil_append, i198_558, i198_559]
theorem y_c3 (ht : 55 ≤ t) (hL : V.1 < 2 ^ 31) (hi : i + 6 ≤ V.1) (hp : pair_ox V t e N I L 89 [.int (V.2 1003 (i + 1)), .int (V.2 1003 (i + 2)), .long (((V.2 1003 (i + 3)).toInt64 <<< ((nI 32).toInt64 &&& 63)) ||| ((V.2 1003 (i + 4)).toInt64 &&& lN 4294967295))] 128 [.int (V.2 1003 (i + 1)), .int (V.2 1003 (i + 2)), .long (((V.2 1003 (i + 3)).toInt64 <<< ((nI 32).toInt64 &&& 63)) ||| ((V.2 1003 (i + 4)).toInt64 &&& lN 4294967295))]) : y_go V t e N I L i 123 := by
  obtain ⟨v, t', e', I1, L1, I2, L2, hx', h1, h2, h3⟩ := hp
  obtain ⟨y, rfl⟩ := y_int h1 rfl
  have ht' : 55 ≤ t' := x_T55 hx'
  refine ⟨t', e', I2, L2, hx', h3, fun Q => ?_⟩
  simp (disch := first | assumption | omega | decide) only [nI_add, n_mul, n_sub, n_le, n_lt, n_eq, n_ne1, n_0, m_bl_t, m_bl_f, if_true, if_false, Nat.reduceAdd, Nat.reduceMul, Nat.reduceSub, Nat.reduceLeDiff, Nat.reduceEqDiff, Nat.add_zero, Nat.add_sub_cancel, Option.toList, List.cons_append, List.nil_append, i198_123, i198_124, i198_125, i198_126, i198_127, i198_128, i198_129, i198_130, i198_131, i198_132, i198_133, i198_134, i198_135, i198_136, i198_137, i198_138, i198_139, i198_140, i198_141, i198_142, i198_143, i198_144, i198_145, i198_146, i198_147, i198_148, i198_149, i198_150, i198_151, wpc_of h1]
  simp (disch := first | assumption | omega | decide) only [nI_add, n_mul, n_sub, n_le, n_lt, n_eq, n_ne1, n_0, m_bl_t, m_bl_f, if_true, if_false, Nat.reduceAdd, Nat.reduceMul, Nat.reduceSub, Nat.reduceLeDiff, Nat.reduceEqDiff, Nat.add_zero, Nat.add_sub_cancel, Option.toList, List.cons_append, List.nil_append, i198_152, i198_153, i198_154, i198_155, i198_156, i198_157, i198_158, i198_159, i198_160, i198_161, i198_162, i198_163, i198_164, i198_165, i198_166, i198_167, i198_168, i198_169, i198_170, i198_171, i198_172, i198_173, i198_174, i198_175, i198_176, i198_177, i198_178, i198_179, i198_180, wpc_of h2]
  rw [i198_181, if_pos rfl]
  simp (disch := first | assumption | omega | decide) only [nI_add, n_mul, n_sub, n_le, n_lt, n_eq, n_ne1, n_0, m_bl_t, m_bl_f, if_true, if_false, Nat.reduceAdd, Nat.reduceMul, Nat.reduceSub, Nat.reduceLeDiff, Nat.reduceEqDiff, Nat.add_zero, Nat.add_sub_cancel, Option.toList, List.cons_append, List.nil_append, i198_558, i198_559]
theorem y_c4 (ht : 55 ≤ t) (hL : V.1 < 2 ^ 31) (hi : i + 6 ≤ V.1) (hp : pair_ox V t e N I L 90 [.int (V.2 1003 (i + 1))] 129 [.int (V.2 1003 (i + 1))]) : y_go V t e N I L i 184 := by
  obtain ⟨v, t', e', I1, L1, I2, L2, hx', h1, h2, h3⟩ := hp
  obtain ⟨y, rfl⟩ := y_int h1 rfl
  have ht' : 55 ≤ t' := x_T55 hx'
  refine ⟨t', e', I2, L2, hx', h3, fun Q => ?_⟩
  simp (disch := first | assumption | omega | decide) only [nI_add, n_mul, n_sub, n_le, n_lt, n_eq, n_ne1, n_0, m_bl_t, m_bl_f, if_true, if_false, Nat.reduceAdd, Nat.reduceMul, Nat.reduceSub, Nat.reduceLeDiff, Nat.reduceEqDiff, Nat.add_zero, Nat.add_sub_cancel, Option.toList, List.cons_append, List.nil_append, i198_184, i198_185, i198_186, i198_187, i198_188, i198_189, i198_190, wpc_of h1]
  simp (disch := first | assumption | omega | decide) only [nI_add, n_mul, n_sub, n_le, n_lt, n_eq, n_ne1, n_0, m_bl_t, m_bl_f, if_true, if_false, Nat.reduceAdd, Nat.reduceMul, Nat.reduceSub, Nat.reduceLeDiff, Nat.reduceEqDiff, Nat.add_zero, Nat.add_sub_cancel, Option.toList, List.cons_append, List.nil_append, i198_191, i198_192, i198_193, i198_194, i198_195, i198_196, i198_197, wpc_of h2]
  rw [i198_198, if_pos rfl]
  simp (disch := first | assumption | omega | decide) only [nI_add, n_mul, n_sub, n_le, n_lt, n_eq, n_ne1, n_0, m_bl_t, m_bl_f, if_true, if_false, Nat.reduceAdd, Nat.reduceMul, Nat.reduceSub, Nat.reduceLeDiff, Nat.reduceEqDiff, Nat.add_zero, Nat.add_sub_cancel, Option.toList, List.cons_append, List.nil_append, i198_558, i198_559]
theorem y_c5 (ht : 55 ≤ t) (hL : V.1 < 2 ^ 31) (hi : i + 6 ≤ V.1) (hp : pair_ox V t e N I L 91 [.int (V.2 1003 (i + 1)), .int (V.2 1003 (i + 2)), .int (V.2 1003 (i + 3))] 131 [.int (V.2 1003 (i + 1)), .int (V.2 1003 (i + 2)), .int (V.2 1003 (i + 3))]) : y_go V t e N I L i 201 := by
  obtain ⟨v, t', e', I1, L1, I2, L2, hx', h1, h2, h3⟩ := hp
  obtain ⟨y, rfl⟩ := y_int h1 rfl
  have ht' : 55 ≤ t' := x_T55 hx'
  refine ⟨t', e', I2, L2, hx', h3, fun Q => ?_⟩
  simp (disch := first | assumption | omega | decide) only [nI_add, n_mul, n_sub, n_le, n_lt, n_eq, n_ne1, n_0, m_bl_t, m_bl_f, if_true, if_false, Nat.reduceAdd, Nat.reduceMul, Nat.reduceSub, Nat.reduceLeDiff, Nat.reduceEqDiff, Nat.add_zero, Nat.add_sub_cancel, Option.toList, List.cons_append, List.nil_append, i198_201, i198_202, i198_203, i198_204, i198_205, i198_206, i198_207, i198_208, i198_209, i198_210, i198_211, i198_212, i198_213, i198_214, i198_215, i198_216, i198_217, wpc_of h1]
  simp (disch := first | assumption | omega | decide) only [nI_add, n_mul, n_sub, n_le, n_lt, n_eq, n_ne1, n_0, m_bl_t, m_bl_f, if_true, if_false, Nat.reduceAdd, Nat.reduceMul, Nat.reduceSub, Nat.reduceLeDiff, Nat.reduceEqDiff, Nat.add_zero, Nat.add_sub_cancel, Option.toList, List.cons_append, List.nil_append, i198_218, i198_219, i198_220, i198_221, i198_222, i198_223, i198_224, i198_225, i198_226, i198_227, i198_228, i198_229, i198_230, i198_231, i198_232, i198_233, i198_234, wpc_of h2]
  rw [i198_235, if_pos rfl]
  simp (disch := first | assumption | omega | decide) only [nI_add, n_mul, n_sub, n_le, n_lt, n_eq, n_ne1, n_0, m_bl_t, m_bl_f, if_true, if_false, Nat.reduceAdd, Nat.reduceMul, Nat.reduceSub, Nat.reduceLeDiff, Nat.reduceEqDiff, Nat.add_zero, Nat.add_sub_cancel, Option.toList, List.cons_append, List.nil_append, i198_558, i198_559]
theorem y_c6 (ht : 55 ≤ t) (hL : V.1 < 2 ^ 31) (hi : i + 6 ≤ V.1) (hp : pair_ox V t e N I L 92 [.int (V.2 1003 (i + 1))] 132 [.int (V.2 1003 (i + 1))]) : y_go V t e N I L i 238 := by
  obtain ⟨v, t', e', I1, L1, I2, L2, hx', h1, h2, h3⟩ := hp
  obtain ⟨y, rfl⟩ := y_int h1 rfl
  have ht' : 55 ≤ t' := x_T55 hx'
  refine ⟨t', e', I2, L2, hx', h3, fun Q => ?_⟩
  simp (disch := first | assumption | omega | decide) only [nI_add, n_mul, n_sub, n_le, n_lt, n_eq, n_ne1, n_0, m_bl_t, m_bl_f, if_true, if_false, Nat.reduceAdd, Nat.reduceMul, Nat.reduceSub, Nat.reduceLeDiff, Nat.reduceEqDiff, Nat.add_zero, Nat.add_sub_cancel, Option.toList, List.cons_append, List.nil_append, i198_238, i198_239, i198_240, i198_241, i198_242, i198_243, i198_244, wpc_of h1]
  simp (disch := first | assumption | omega | decide) only [nI_add, n_mul, n_sub, n_le, n_lt, n_eq, n_ne1, n_0, m_bl_t, m_bl_f, if_true, if_false, Nat.reduceAdd, Nat.reduceMul, Nat.reduceSub, Nat.reduceLeDiff, Nat.reduceEqDiff, Nat.add_zero, Nat.add_sub_cancel, Option.toList, List.cons_append, List.nil_append, i198_245, i198_246, i198_247, i198_248, i198_249, i198_250, i198_251, wpc_of h2]
  rw [i198_252, if_pos rfl]
  simp (disch := first | assumption | omega | decide) only [nI_add, n_mul, n_sub, n_le, n_lt, n_eq, n_ne1, n_0, m_bl_t, m_bl_f, if_true, if_false, Nat.reduceAdd, Nat.reduceMul, Nat.reduceSub, Nat.reduceLeDiff, Nat.reduceEqDiff, Nat.add_zero, Nat.add_sub_cancel, Option.toList, List.cons_append, List.nil_append, i198_558, i198_559]
theorem y_c7 (ht : 55 ≤ t) (hL : V.1 < 2 ^ 31) (hi : i + 6 ≤ V.1) (hp : pair_ox V t e N I L 93 [.int (V.2 1003 (i + 1)), .int (V.2 1003 (i + 2))] 133 [.int (V.2 1003 (i + 1)), .int (V.2 1003 (i + 2))]) : y_go V t e N I L i 255 := by
  obtain ⟨v, t', e', I1, L1, I2, L2, hx', h1, h2, h3⟩ := hp
  obtain ⟨y, rfl⟩ := y_int h1 rfl
  have ht' : 55 ≤ t' := x_T55 hx'
  refine ⟨t', e', I2, L2, hx', h3, fun Q => ?_⟩
  simp (disch := first | assumption | omega | decide) only [nI_add, n_mul, n_sub, n_le, n_lt, n_eq, n_ne1, n_0, m_bl_t, m_bl_f, if_true, if_false, Nat.reduceAdd, Nat.reduceMul, Nat.reduceSub, Nat.reduceLeDiff, Nat.reduceEqDiff, Nat.add_zero, Nat.add_sub_cancel, Option.toList, List.cons_append, List.nil_append, i198_255, i198_256, i198_257, i198_258, i198_259, i198_260, i198_261, i198_262, i198_263, i198_264, i198_265, i198_266, wpc_of h1]
  simp (disch := first | assumption | omega | decide) only [nI_add, n_mul, n_sub, n_le, n_lt, n_eq, n_ne1, n_0, m_bl_t, m_bl_f, if_true, if_false, Nat.reduceAdd, Nat.reduceMul, Nat.reduceSub, Nat.reduceLeDiff, Nat.reduceEqDiff, Nat.add_zero, Nat.add_sub_cancel, Option.toList, List.cons_append, List.nil_append, i198_267, i198_268, i198_269, i198_270, i198_271, i198_272, i198_273, i198_274, i198_275, i198_276, i198_277, i198_278, wpc_of h2]
  rw [i198_279, if_pos rfl]
  simp (disch := first | assumption | omega | decide) only [nI_add, n_mul, n_sub, n_le, n_lt, n_eq, n_ne1, n_0, m_bl_t, m_bl_f, if_true, if_false, Nat.reduceAdd, Nat.reduceMul, Nat.reduceSub, Nat.reduceLeDiff, Nat.reduceEqDiff, Nat.add_zero, Nat.add_sub_cancel, Option.toList, List.cons_append, List.nil_append, i198_558, i198_559]
theorem y_c8 (ht : 55 ≤ t) (hL : V.1 < 2 ^ 31) (hi : i + 6 ≤ V.1) (hp : pair_ox V t e N I L 94 [.int (V.2 1003 (i + 1))] 134 [.int (V.2 1003 (i + 1))]) : y_go V t e N I L i 282 := by
  obtain ⟨v, t', e', I1, L1, I2, L2, hx', h1, h2, h3⟩ := hp
  obtain ⟨y, rfl⟩ := y_int h1 rfl
  have ht' : 55 ≤ t' := x_T55 hx'
  refine ⟨t', e', I2, L2, hx', h3, fun Q => ?_⟩
  simp (disch := first | assumption | omega | decide) only [nI_add, n_mul, n_sub, n_le, n_lt, n_eq, n_ne1, n_0, m_bl_t, m_bl_f, if_true, if_false, Nat.reduceAdd, Nat.reduceMul, Nat.reduceSub, Nat.reduceLeDiff, Nat.reduceEqDiff, Nat.add_zero, Nat.add_sub_cancel, Option.toList, List.cons_append, List.nil_append, i198_282, i198_283, i198_284, i198_285, i198_286, i198_287, i198_288, wpc_of h1]
  simp (disch := first | assumption | omega | decide) only [nI_add, n_mul, n_sub, n_le, n_lt, n_eq, n_ne1, n_0, m_bl_t, m_bl_f, if_true, if_false, Nat.reduceAdd, Nat.reduceMul, Nat.reduceSub, Nat.reduceLeDiff, Nat.reduceEqDiff, Nat.add_zero, Nat.add_sub_cancel, Option.toList, List.cons_append, List.nil_append, i198_289, i198_290, i198_291, i198_292, i198_293, i198_294, i198_295, wpc_of h2]
  rw [i198_296, if_pos rfl]
  simp (disch := first | assumption | omega | decide) only [nI_add, n_mul, n_sub, n_le, n_lt, n_eq, n_ne1, n_0, m_bl_t, m_bl_f, if_true, if_false, Nat.reduceAdd, Nat.reduceMul, Nat.reduceSub, Nat.reduceLeDiff, Nat.reduceEqDiff, Nat.add_zero, Nat.add_sub_cancel, Option.toList, List.cons_append, List.nil_append, i198_558, i198_559]
theorem y_c9 (ht : 55 ≤ t) (hL : V.1 < 2 ^ 31) (hi : i + 6 ≤ V.1) (hp : pair_ox V t e N I L 95 [] 135 []) : y_go V t e N I L i 299 := by
  obtain ⟨v, t', e', I1, L1, I2, L2, hx', h1, h2, h3⟩ := hp
  obtain ⟨y, rfl⟩ := y_int h1 rfl
  have ht' : 55 ≤ t' := x_T55 hx'
  refine ⟨t', e', I2, L2, hx', h3, fun Q => ?_⟩
  simp (disch := first | assumption | omega | decide) only [nI_add, n_mul, n_sub, n_le, n_lt, n_eq, n_ne1, n_0, m_bl_t, m_bl_f, if_true, if_false, Nat.reduceAdd, Nat.reduceMul, Nat.reduceSub, Nat.reduceLeDiff, Nat.reduceEqDiff, Nat.add_zero, Nat.add_sub_cancel, Option.toList, List.cons_append, List.nil_append, i198_299, i198_300, wpc_of h1]
  simp (disch := first | assumption | omega | decide) only [nI_add, n_mul, n_sub, n_le, n_lt, n_eq, n_ne1, n_0, m_bl_t, m_bl_f, if_true, if_false, Nat.reduceAdd, Nat.reduceMul, Nat.reduceSub, Nat.reduceLeDiff, Nat.reduceEqDiff, Nat.add_zero, Nat.add_sub_cancel, Option.toList, List.cons_append, List.nil_append, i198_301, i198_302, wpc_of h2]
  rw [i198_303, if_pos rfl]
  simp (disch := first | assumption | omega | decide) only [nI_add, n_mul, n_sub, n_le, n_lt, n_eq, n_ne1, n_0, m_bl_t, m_bl_f, if_true, if_false, Nat.reduceAdd, Nat.reduceMul, Nat.reduceSub, Nat.reduceLeDiff, Nat.reduceEqDiff, Nat.add_zero, Nat.add_sub_cancel, Option.toList, List.cons_append, List.nil_append, i198_558, i198_559]
theorem y_c10 (ht : 55 ≤ t) (hL : V.1 < 2 ^ 31) (hi : i + 6 ≤ V.1) (hp : pair_ox V t e N I L 96 [.int (V.2 1003 (i + 1))] 170 [.int (V.2 1003 (i + 1))]) : y_go V t e N I L i 306 := by
  obtain ⟨v, t', e', I1, L1, I2, L2, hx', h1, h2, h3⟩ := hp
  obtain ⟨y, rfl⟩ := y_int h1 rfl
  have ht' : 55 ≤ t' := x_T55 hx'
  refine ⟨t', e', I2, L2, hx', h3, fun Q => ?_⟩
  simp (disch := first | assumption | omega | decide) only [nI_add, n_mul, n_sub, n_le, n_lt, n_eq, n_ne1, n_0, m_bl_t, m_bl_f, if_true, if_false, Nat.reduceAdd, Nat.reduceMul, Nat.reduceSub, Nat.reduceLeDiff, Nat.reduceEqDiff, Nat.add_zero, Nat.add_sub_cancel, Option.toList, List.cons_append, List.nil_append, i198_306, i198_307, i198_308, i198_309, i198_310, i198_311, i198_312, wpc_of h1]
  simp (disch := first | assumption | omega | decide) only [nI_add, n_mul, n_sub, n_le, n_lt, n_eq, n_ne1, n_0, m_bl_t, m_bl_f, if_true, if_false, Nat.reduceAdd, Nat.reduceMul, Nat.reduceSub, Nat.reduceLeDiff, Nat.reduceEqDiff, Nat.add_zero, Nat.add_sub_cancel, Option.toList, List.cons_append, List.nil_append, i198_313, i198_314, i198_315, i198_316, i198_317, i198_318, i198_319, wpc_of h2]
  rw [i198_320, if_pos rfl]
  simp (disch := first | assumption | omega | decide) only [nI_add, n_mul, n_sub, n_le, n_lt, n_eq, n_ne1, n_0, m_bl_t, m_bl_f, if_true, if_false, Nat.reduceAdd, Nat.reduceMul, Nat.reduceSub, Nat.reduceLeDiff, Nat.reduceEqDiff, Nat.add_zero, Nat.add_sub_cancel, Option.toList, List.cons_append, List.nil_append, i198_558, i198_559]
theorem y_c11 (ht : 55 ≤ t) (hL : V.1 < 2 ^ 31) (hi : i + 6 ≤ V.1) (hp : pair_ox V t e N I L 97 [.int (V.2 1003 (i + 1)), .int (V.2 1003 (i + 2))] 171 [.int (V.2 1003 (i + 1)), .int (V.2 1003 (i + 2))]) : y_go V t e N I L i 323 := by
  obtain ⟨v, t', e', I1, L1, I2, L2, hx', h1, h2, h3⟩ := hp
  obtain ⟨y, rfl⟩ := y_int h1 rfl
  have ht' : 55 ≤ t' := x_T55 hx'
  refine ⟨t', e', I2, L2, hx', h3, fun Q => ?_⟩
  simp (disch := first | assumption | omega | decide) only [nI_add, n_mul, n_sub, n_le, n_lt, n_eq, n_ne1, n_0, m_bl_t, m_bl_f, if_true, if_false, Nat.reduceAdd, Nat.reduceMul, Nat.reduceSub, Nat.reduceLeDiff, Nat.reduceEqDiff, Nat.add_zero, Nat.add_sub_cancel, Option.toList, List.cons_append, List.nil_append, i198_323, i198_324, i198_325, i198_326, i198_327, i198_328, i198_329, i198_330, i198_331, i198_332, i198_333, i198_334, wpc_of h1]
  simp (disch := first | assumption | omega | decide) only [nI_add, n_mul, n_sub, n_le, n_lt, n_eq, n_ne1, n_0, m_bl_t, m_bl_f, if_true, if_false, Nat.reduceAdd, Nat.reduceMul, Nat.reduceSub, Nat.reduceLeDiff, Nat.reduceEqDiff, Nat.add_zero, Nat.add_sub_cancel, Option.toList, List.cons_append, List.nil_append, i198_335, i198_336, i198_337, i198_338, i198_339, i198_340, i198_341, i198_342, i198_343, i198_344, i198_345, i198_346, wpc_of h2]
  rw [i198_347, if_pos rfl]
  simp (disch := first | assumption | omega | decide) only [nI_add, n_mul, n_sub, n_le, n_lt, n_eq, n_ne1, n_0, m_bl_t, m_bl_f, if_true, if_false, Nat.reduceAdd, Nat.reduceMul, Nat.reduceSub, Nat.reduceLeDiff, Nat.reduceEqDiff, Nat.add_zero, Nat.add_sub_cancel, Option.toList, List.cons_append, List.nil_append, i198_558, i198_559]
theorem y_c12 (ht : 55 ≤ t) (hL : V.1 < 2 ^ 31) (hi : i + 6 ≤ V.1) (hp : pair_ox V t e N I L 98 [.int (V.2 1003 (i + 1))] 179 [.int (V.2 1003 (i + 1))]) : y_go V t e N I L i 350 := by
  obtain ⟨v, t', e', I1, L1, I2, L2, hx', h1, h2, h3⟩ := hp
  obtain ⟨y, rfl⟩ := y_int h1 rfl
  have ht' : 55 ≤ t' := x_T55 hx'
  refine ⟨t', e', I2, L2, hx', h3, fun Q => ?_⟩
  simp (disch := first | assumption | omega | decide) only [nI_add, n_mul, n_sub, n_le, n_lt, n_eq, n_ne1, n_0, m_bl_t, m_bl_f, if_true, if_false, Nat.reduceAdd, Nat.reduceMul, Nat.reduceSub, Nat.reduceLeDiff, Nat.reduceEqDiff, Nat.add_zero, Nat.add_sub_cancel, Option.toList, List.cons_append, List.nil_append, i198_350, i198_351, i198_352, i198_353, i198_354, i198_355, i198_356, wpc_of h1]
  simp (disch := first | assumption | omega | decide) only [nI_add, n_mul, n_sub, n_le, n_lt, n_eq, n_ne1, n_0, m_bl_t, m_bl_f, if_true, if_false, Nat.reduceAdd, Nat.reduceMul, Nat.reduceSub, Nat.reduceLeDiff, Nat.reduceEqDiff, Nat.add_zero, Nat.add_sub_cancel, Option.toList, List.cons_append, List.nil_append, i198_357, i198_358, i198_359, i198_360, i198_361, i198_362, i198_363, wpc_of h2]
  rw [i198_364, if_pos rfl]
  simp (disch := first | assumption | omega | decide) only [nI_add, n_mul, n_sub, n_le, n_lt, n_eq, n_ne1, n_0, m_bl_t, m_bl_f, if_true, if_false, Nat.reduceAdd, Nat.reduceMul, Nat.reduceSub, Nat.reduceLeDiff, Nat.reduceEqDiff, Nat.add_zero, Nat.add_sub_cancel, Option.toList, List.cons_append, List.nil_append, i198_558, i198_559]
theorem y_c13 (ht : 55 ≤ t) (hL : V.1 < 2 ^ 31) (hi : i + 6 ≤ V.1) (hp : pair_ox V t e N I L 99 [.int (V.2 1003 (i + 1)), .int (V.2 1003 (i + 2))] 181 [.int (V.2 1003 (i + 1)), .int (V.2 1003 (i + 2))]) : y_go V t e N I L i 367 := by
  obtain ⟨v, t', e', I1, L1, I2, L2, hx', h1, h2, h3⟩ := hp
  obtain ⟨y, rfl⟩ := y_int h1 rfl
  have ht' : 55 ≤ t' := x_T55 hx'
  refine ⟨t', e', I2, L2, hx', h3, fun Q => ?_⟩
  simp (disch := first | assumption | omega | decide) only [nI_add, n_mul, n_sub, n_le, n_lt, n_eq, n_ne1, n_0, m_bl_t, m_bl_f, if_true, if_false, Nat.reduceAdd, Nat.reduceMul, Nat.reduceSub, Nat.reduceLeDiff, Nat.reduceEqDiff, Nat.add_zero, Nat.add_sub_cancel, Option.toList, List.cons_append, List.nil_append, i198_367, i198_368, i198_369, i198_370, i198_371, i198_372, i198_373, i198_374, i198_375, i198_376, i198_377, i198_378, wpc_of h1]
  simp (disch := first | assumption | omega | decide) only [nI_add, n_mul, n_sub, n_le, n_lt, n_eq, n_ne1, n_0, m_bl_t, m_bl_f, if_true, if_false, Nat.reduceAdd, Nat.reduceMul, Nat.reduceSub, Nat.reduceLeDiff, Nat.reduceEqDiff, Nat.add_zero, Nat.add_sub_cancel, Option.toList, List.cons_append, List.nil_append, i198_379, i198_380, i198_381, i198_382, i198_383, i198_384, i198_385, i198_386, i198_387, i198_388, i198_389, i198_390, wpc_of h2]
  rw [i198_391, if_pos rfl]
  simp (disch := first | assumption | omega | decide) only [nI_add, n_mul, n_sub, n_le, n_lt, n_eq, n_ne1, n_0, m_bl_t, m_bl_f, if_true, if_false, Nat.reduceAdd, Nat.reduceMul, Nat.reduceSub, Nat.reduceLeDiff, Nat.reduceEqDiff, Nat.add_zero, Nat.add_sub_cancel, Option.toList, List.cons_append, List.nil_append, i198_558, i198_559]
theorem y_c14 (ht : 55 ≤ t) (hL : V.1 < 2 ^ 31) (hi : i + 6 ≤ V.1) (hp : pair_ox V t e N I L 100 [.int (V.2 1003 (i + 1)), .int (V.2 1003 (i + 2))] 182 [.int (V.2 1003 (i + 1)), .int (V.2 1003 (i + 2))]) : y_go V t e N I L i 394 := by
  obtain ⟨v, t', e', I1, L1, I2, L2, hx', h1, h2, h3⟩ := hp
  obtain ⟨y, rfl⟩ := y_int h1 rfl
  have ht' : 55 ≤ t' := x_T55 hx'
  refine ⟨t', e', I2, L2, hx', h3, fun Q => ?_⟩
  simp (disch := first | assumption | omega | decide) only [nI_add, n_mul, n_sub, n_le, n_lt, n_eq, n_ne1, n_0, m_bl_t, m_bl_f, if_true, if_false, Nat.reduceAdd, Nat.reduceMul, Nat.reduceSub, Nat.reduceLeDiff, Nat.reduceEqDiff, Nat.add_zero, Nat.add_sub_cancel, Option.toList, List.cons_append, List.nil_append, i198_394, i198_395, i198_396, i198_397, i198_398, i198_399, i198_400, i198_401, i198_402, i198_403, i198_404, i198_405, wpc_of h1]
  simp (disch := first | assumption | omega | decide) only [nI_add, n_mul, n_sub, n_le, n_lt, n_eq, n_ne1, n_0, m_bl_t, m_bl_f, if_true, if_false, Nat.reduceAdd, Nat.reduceMul, Nat.reduceSub, Nat.reduceLeDiff, Nat.reduceEqDiff, Nat.add_zero, Nat.add_sub_cancel, Option.toList, List.cons_append, List.nil_append, i198_406, i198_407, i198_408, i198_409, i198_410, i198_411, i198_412, i198_413, i198_414, i198_415, i198_416, i198_417, wpc_of h2]
  rw [i198_418, if_pos rfl]
  simp (disch := first | assumption | omega | decide) only [nI_add, n_mul, n_sub, n_le, n_lt, n_eq, n_ne1, n_0, m_bl_t, m_bl_f, if_true, if_false, Nat.reduceAdd, Nat.reduceMul, Nat.reduceSub, Nat.reduceLeDiff, Nat.reduceEqDiff, Nat.add_zero, Nat.add_sub_cancel, Option.toList, List.cons_append, List.nil_append, i198_558, i198_559]
theorem y_c15 (ht : 55 ≤ t) (hL : V.1 < 2 ^ 31) (hi : i + 6 ≤ V.1) (hp : pair_ox V t e N I L 101 [.int (V.2 1003 (i + 1)), .int (V.2 1003 (i + 2))] 183 [.int (V.2 1003 (i + 1)), .int (V.2 1003 (i + 2))]) : y_go V t e N I L i 421 := by
  obtain ⟨v, t', e', I1, L1, I2, L2, hx', h1, h2, h3⟩ := hp
  obtain ⟨y, rfl⟩ := y_int h1 rfl
  have ht' : 55 ≤ t' := x_T55 hx'
  refine ⟨t', e', I2, L2, hx', h3, fun Q => ?_⟩
  simp (disch := first | assumption | omega | decide) only [nI_add, n_mul, n_sub, n_le, n_lt, n_eq, n_ne1, n_0, m_bl_t, m_bl_f, if_true, if_false, Nat.reduceAdd, Nat.reduceMul, Nat.reduceSub, Nat.reduceLeDiff, Nat.reduceEqDiff, Nat.add_zero, Nat.add_sub_cancel, Option.toList, List.cons_append, List.nil_append, i198_421, i198_422, i198_423, i198_424, i198_425, i198_426, i198_427, i198_428, i198_429, i198_430, i198_431, i198_432, wpc_of h1]
  simp (disch := first | assumption | omega | decide) only [nI_add, n_mul, n_sub, n_le, n_lt, n_eq, n_ne1, n_0, m_bl_t, m_bl_f, if_true, if_false, Nat.reduceAdd, Nat.reduceMul, Nat.reduceSub, Nat.reduceLeDiff, Nat.reduceEqDiff, Nat.add_zero, Nat.add_sub_cancel, Option.toList, List.cons_append, List.nil_append, i198_433, i198_434, i198_435, i198_436, i198_437, i198_438, i198_439, i198_440, i198_441, i198_442, i198_443, i198_444, wpc_of h2]
  rw [i198_445, if_pos rfl]
  simp (disch := first | assumption | omega | decide) only [nI_add, n_mul, n_sub, n_le, n_lt, n_eq, n_ne1, n_0, m_bl_t, m_bl_f, if_true, if_false, Nat.reduceAdd, Nat.reduceMul, Nat.reduceSub, Nat.reduceLeDiff, Nat.reduceEqDiff, Nat.add_zero, Nat.add_sub_cancel, Option.toList, List.cons_append, List.nil_append, i198_558, i198_559]
theorem y_c16 (ht : 55 ≤ t) (hL : V.1 < 2 ^ 31) (hi : i + 6 ≤ V.1) (hp : pair_ox V t e N I L 102 [.int (V.2 1003 (i + 1))] 184 [.int (V.2 1003 (i + 1))]) : y_go V t e N I L i 448 := by
  obtain ⟨v, t', e', I1, L1, I2, L2, hx', h1, h2, h3⟩ := hp
  obtain ⟨y, rfl⟩ := y_int h1 rfl
  have ht' : 55 ≤ t' := x_T55 hx'
  refine ⟨t', e', I2, L2, hx', h3, fun Q => ?_⟩
  simp (disch := first | assumption | omega | decide) only [nI_add, n_mul, n_sub, n_le, n_lt, n_eq, n_ne1, n_0, m_bl_t, m_bl_f, if_true, if_false, Nat.reduceAdd, Nat.reduceMul, Nat.reduceSub, Nat.reduceLeDiff, Nat.reduceEqDiff, Nat.add_zero, Nat.add_sub_cancel, Option.toList, List.cons_append, List.nil_append, i198_448, i198_449, i198_450, i198_451, i198_452, i198_453, i198_454, wpc_of h1]
  simp (disch := first | assumption | omega | decide) only [nI_add, n_mul, n_sub, n_le, n_lt, n_eq, n_ne1, n_0, m_bl_t, m_bl_f, if_true, if_false, Nat.reduceAdd, Nat.reduceMul, Nat.reduceSub, Nat.reduceLeDiff, Nat.reduceEqDiff, Nat.add_zero, Nat.add_sub_cancel, Option.toList, List.cons_append, List.nil_append, i198_455, i198_456, i198_457, i198_458, i198_459, i198_460, i198_461, wpc_of h2]
  rw [i198_462, if_pos rfl]
  simp (disch := first | assumption | omega | decide) only [nI_add, n_mul, n_sub, n_le, n_lt, n_eq, n_ne1, n_0, m_bl_t, m_bl_f, if_true, if_false, Nat.reduceAdd, Nat.reduceMul, Nat.reduceSub, Nat.reduceLeDiff, Nat.reduceEqDiff, Nat.add_zero, Nat.add_sub_cancel, Option.toList, List.cons_append, List.nil_append, i198_558, i198_559]
theorem y_c17 (ht : 55 ≤ t) (hL : V.1 < 2 ^ 31) (hi : i + 6 ≤ V.1) (hp : pair_ox V t e N I L 103 [.int (V.2 1003 (i + 1)), .int (V.2 1003 (i + 2))] 185 [.int (V.2 1003 (i + 1)), .int (V.2 1003 (i + 2))]) : y_go V t e N I L i 465 := by
  obtain ⟨v, t', e', I1, L1, I2, L2, hx', h1, h2, h3⟩ := hp
  obtain ⟨y, rfl⟩ := y_int h1 rfl
  have ht' : 55 ≤ t' := x_T55 hx'
  refine ⟨t', e', I2, L2, hx', h3, fun Q => ?_⟩
  simp (disch := first | assumption | omega | decide) only [nI_add, n_mul, n_sub, n_le, n_lt, n_eq, n_ne1, n_0, m_bl_t, m_bl_f, if_true, if_false, Nat.reduceAdd, Nat.reduceMul, Nat.reduceSub, Nat.reduceLeDiff, Nat.reduceEqDiff, Nat.add_zero, Nat.add_sub_cancel, Option.toList, List.cons_append, List.nil_append, i198_465, i198_466, i198_467, i198_468, i198_469, i198_470, i198_471, i198_472, i198_473, i198_474, i198_475, i198_476, wpc_of h1]
  simp (disch := first | assumption | omega | decide) only [nI_add, n_mul, n_sub, n_le, n_lt, n_eq, n_ne1, n_0, m_bl_t, m_bl_f, if_true, if_false, Nat.reduceAdd, Nat.reduceMul, Nat.reduceSub, Nat.reduceLeDiff, Nat.reduceEqDiff, Nat.add_zero, Nat.add_sub_cancel, Option.toList, List.cons_append, List.nil_append, i198_477, i198_478, i198_479, i198_480, i198_481, i198_482, i198_483, i198_484, i198_485, i198_486, i198_487, i198_488, wpc_of h2]
  rw [i198_489, if_pos rfl]
  simp (disch := first | assumption | omega | decide) only [nI_add, n_mul, n_sub, n_le, n_lt, n_eq, n_ne1, n_0, m_bl_t, m_bl_f, if_true, if_false, Nat.reduceAdd, Nat.reduceMul, Nat.reduceSub, Nat.reduceLeDiff, Nat.reduceEqDiff, Nat.add_zero, Nat.add_sub_cancel, Option.toList, List.cons_append, List.nil_append, i198_558, i198_559]
theorem y_c18 (ht : 55 ≤ t) (hL : V.1 < 2 ^ 31) (hi : i + 6 ≤ V.1) (hp : pair_ox V t e N I L 104 [.int (V.2 1003 (i + 1)), .int (V.2 1003 (i + 2)), .int (V.2 1003 (i + 3))] 186 [.int (V.2 1003 (i + 1)), .int (V.2 1003 (i + 2)), .int (V.2 1003 (i + 3))]) : y_go V t e N I L i 492 := by
  obtain ⟨v, t', e', I1, L1, I2, L2, hx', h1, h2, h3⟩ := hp
  obtain ⟨y, rfl⟩ := y_int h1 rfl
  have ht' : 55 ≤ t' := x_T55 hx'
  refine ⟨t', e', I2, L2, hx', h3, fun Q => ?_⟩
  simp (disch := first | assumption | omega | decide) only [nI_add, n_mul, n_sub, n_le, n_lt, n_eq, n_ne1, n_0, m_bl_t, m_bl_f, if_true, if_false, Nat.reduceAdd, Nat.reduceMul, Nat.reduceSub, Nat.reduceLeDiff, Nat.reduceEqDiff, Nat.add_zero, Nat.add_sub_cancel, Option.toList, List.cons_append, List.nil_append, i198_492, i198_493, i198_494, i198_495, i198_496, i198_497, i198_498, i198_499, i198_500, i198_501, i198_502, i198_503, i198_504, i198_505, i198_506, i198_507, i198_508, wpc_of h1]
  simp (disch := first | assumption | omega | decide) only [nI_add, n_mul, n_sub, n_le, n_lt, n_eq, n_ne1, n_0, m_bl_t, m_bl_f, if_true, if_false, Nat.reduceAdd, Nat.reduceMul, Nat.reduceSub, Nat.reduceLeDiff, Nat.reduceEqDiff, Nat.add_zero, Nat.add_sub_cancel, Option.toList, List.cons_append, List.nil_append, i198_509, i198_510, i198_511, i198_512, i198_513, i198_514, i198_515, i198_516, i198_517, i198_518, i198_519, i198_520, i198_521, i198_522, i198_523, i198_524, i198_525, wpc_of h2]
  rw [i198_526, if_pos rfl]
  simp (disch := first | assumption | omega | decide) only [nI_add, n_mul, n_sub, n_le, n_lt, n_eq, n_ne1, n_0, m_bl_t, m_bl_f, if_true, if_false, Nat.reduceAdd, Nat.reduceMul, Nat.reduceSub, Nat.reduceLeDiff, Nat.reduceEqDiff, Nat.add_zero, Nat.add_sub_cancel, Option.toList, List.cons_append, List.nil_append, i198_558, i198_559]
theorem y_c19 (ht : 55 ≤ t) (hL : V.1 < 2 ^ 31) (hi : i + 6 ≤ V.1) (hp : pair_ox V t e N I L 105 [] 187 []) : y_go V t e N I L i 529 := by
  obtain ⟨v, t', e', I1, L1, I2, L2, hx', h1, h2, h3⟩ := hp
  obtain ⟨y, rfl⟩ := y_int h1 rfl
  have ht' : 55 ≤ t' := x_T55 hx'
  refine ⟨t', e', I2, L2, hx', h3, fun Q => ?_⟩
  simp (disch := first | assumption | omega | decide) only [nI_add, n_mul, n_sub, n_le, n_lt, n_eq, n_ne1, n_0, m_bl_t, m_bl_f, if_true, if_false, Nat.reduceAdd, Nat.reduceMul, Nat.reduceSub, Nat.reduceLeDiff, Nat.reduceEqDiff, Nat.add_zero, Nat.add_sub_cancel, Option.toList, List.cons_append, List.nil_append, i198_529, i198_530, wpc_of h1]
  simp (disch := first | assumption | omega | decide) only [nI_add, n_mul, n_sub, n_le, n_lt, n_eq, n_ne1, n_0, m_bl_t, m_bl_f, if_true, if_false, Nat.reduceAdd, Nat.reduceMul, Nat.reduceSub, Nat.reduceLeDiff, Nat.reduceEqDiff, Nat.add_zero, Nat.add_sub_cancel, Option.toList, List.cons_append, List.nil_append, i198_531, i198_532, wpc_of h2]
  rw [i198_533, if_pos rfl]
  simp (disch := first | assumption | omega | decide) only [nI_add, n_mul, n_sub, n_le, n_lt, n_eq, n_ne1, n_0, m_bl_t, m_bl_f, if_true, if_false, Nat.reduceAdd, Nat.reduceMul, Nat.reduceSub, Nat.reduceLeDiff, Nat.reduceEqDiff, Nat.add_zero, Nat.add_sub_cancel, Option.toList, List.cons_append, List.nil_append, i198_558, i198_559]
theorem y_c20 (ht : 55 ≤ t) (hL : V.1 < 2 ^ 31) (hi : i + 6 ≤ V.1) (hp : pair_ox V t e N I L 106 [] 190 []) : y_go V t e N I L i 536 := by
  obtain ⟨v, t', e', I1, L1, I2, L2, hx', h1, h2, h3⟩ := hp
  obtain ⟨y, rfl⟩ := y_int h1 rfl
  have ht' : 55 ≤ t' := x_T55 hx'
  refine ⟨t', e', I2, L2, hx', h3, fun Q => ?_⟩
  simp (disch := first | assumption | omega | decide) only [nI_add, n_mul, n_sub, n_le, n_lt, n_eq, n_ne1, n_0, m_bl_t, m_bl_f, if_true, if_false, Nat.reduceAdd, Nat.reduceMul, Nat.reduceSub, Nat.reduceLeDiff, Nat.reduceEqDiff, Nat.add_zero, Nat.add_sub_cancel, Option.toList, List.cons_append, List.nil_append, i198_536, i198_537, wpc_of h1]
  simp (disch := first | assumption | omega | decide) only [nI_add, n_mul, n_sub, n_le, n_lt, n_eq, n_ne1, n_0, m_bl_t, m_bl_f, if_true, if_false, Nat.reduceAdd, Nat.reduceMul, Nat.reduceSub, Nat.reduceLeDiff, Nat.reduceEqDiff, Nat.add_zero, Nat.add_sub_cancel, Option.toList, List.cons_append, List.nil_append, i198_538, i198_539, wpc_of h2]
  rw [i198_540, if_pos rfl]
  simp (disch := first | assumption | omega | decide) only [nI_add, n_mul, n_sub, n_le, n_lt, n_eq, n_ne1, n_0, m_bl_t, m_bl_f, if_true, if_false, Nat.reduceAdd, Nat.reduceMul, Nat.reduceSub, Nat.reduceLeDiff, Nat.reduceEqDiff, Nat.add_zero, Nat.add_sub_cancel, Option.toList, List.cons_append, List.nil_append, i198_558, i198_559]
theorem y_c21 (ht : 55 ≤ t) (hL : V.1 < 2 ^ 31) (hi : i + 6 ≤ V.1) (hp : pair_ox V t e N I L 107 [] 191 []) : y_go V t e N I L i 543 := by
  obtain ⟨v, t', e', I1, L1, I2, L2, hx', h1, h2, h3⟩ := hp
  obtain ⟨y, rfl⟩ := y_int h1 rfl
  have ht' : 55 ≤ t' := x_T55 hx'
  refine ⟨t', e', I2, L2, hx', h3, fun Q => ?_⟩
  simp (disch := first | assumption | omega | decide) only [nI_add, n_mul, n_sub, n_le, n_lt, n_eq, n_ne1, n_0, m_bl_t, m_bl_f, if_true, if_false, Nat.reduceAdd, Nat.reduceMul, Nat.reduceSub, Nat.reduceLeDiff, Nat.reduceEqDiff, Nat.add_zero, Nat.add_sub_cancel, Option.toList, List.cons_append, List.nil_append, i198_543, i198_544, wpc_of h1]
  simp (disch := first | assumption | omega | decide) only [nI_add, n_mul, n_sub, n_le, n_lt, n_eq, n_ne1, n_0, m_bl_t, m_bl_f, if_true, if_false, Nat.reduceAdd, Nat.reduceMul, Nat.reduceSub, Nat.reduceLeDiff, Nat.reduceEqDiff, Nat.add_zero, Nat.add_sub_cancel, Option.toList, List.cons_append, List.nil_append, i198_545, i198_546, wpc_of h2]
  rw [i198_547, if_pos rfl]
  simp (disch := first | assumption | omega | decide) only [nI_add, n_mul, n_sub, n_le, n_lt, n_eq, n_ne1, n_0, m_bl_t, m_bl_f, if_true, if_false, Nat.reduceAdd, Nat.reduceMul, Nat.reduceSub, Nat.reduceLeDiff, Nat.reduceEqDiff, Nat.add_zero, Nat.add_sub_cancel, Option.toList, List.cons_append, List.nil_append, i198_558, i198_559]
theorem y_c22 (ht : 55 ≤ t) (hL : V.1 < 2 ^ 31) (hi : i + 6 ≤ V.1) (hp : pair_ox V t e N I L 108 [] 192 []) : y_go V t e N I L i 550 := by
  obtain ⟨v, t', e', I1, L1, I2, L2, hx', h1, h2, h3⟩ := hp
  obtain ⟨y, rfl⟩ := y_long h1 rfl
  have ht' : 55 ≤ t' := x_T55 hx'
  refine ⟨t', e', I2, L2, hx', h3, fun Q => ?_⟩
  simp (disch := first | assumption | omega | decide) only [nI_add, n_mul, n_sub, n_le, n_lt, n_eq, n_ne1, n_0, m_bl_t, m_bl_f, if_true, if_false, Nat.reduceAdd, Nat.reduceMul, Nat.reduceSub, Nat.reduceLeDiff, Nat.reduceEqDiff, Nat.add_zero, Nat.add_sub_cancel, Option.toList, List.cons_append, List.nil_append, i198_550, i198_551, wpc_of h1]
  simp (disch := first | assumption | omega | decide) only [nI_add, n_mul, n_sub, n_le, n_lt, n_eq, n_ne1, n_0, m_bl_t, m_bl_f, if_true, if_false, Nat.reduceAdd, Nat.reduceMul, Nat.reduceSub, Nat.reduceLeDiff, Nat.reduceEqDiff, Nat.add_zero, Nat.add_sub_cancel, Option.toList, List.cons_append, List.nil_append, i198_552, i198_553, wpc_of h2]
  simp (disch := first | assumption | omega | decide) only [nI_add, n_mul, n_sub, n_le, n_lt, n_eq, n_ne1, n_0, m_bl_t, m_bl_f, if_true, if_false, Nat.reduceAdd, Nat.reduceMul, Nat.reduceSub, Nat.reduceLeDiff, Nat.reduceEqDiff, Nat.add_zero, Nat.add_sub_cancel, Option.toList, List.cons_append, List.nil_append, i198_554, y_cmp]
  simp (disch := first | assumption | omega | decide) only [nI_add, n_mul, n_sub, n_le, n_lt, n_eq, n_ne1, n_0, m_bl_t, m_bl_f, if_true, if_false, Nat.reduceAdd, Nat.reduceMul, Nat.reduceSub, Nat.reduceLeDiff, Nat.reduceEqDiff, Nat.add_zero, Nat.add_sub_cancel, Option.toList, List.cons_append, List.nil_append, i198_555, i198_558, i198_559]
theorem n_a31 (z : Int32) : ∃ j, j < 32 ∧ z &&& nI 31 = nI j := by
  refine ⟨(z.toBitVec &&& 31#32).toNat, ?_, ?_⟩
  · rw [BitVec.toNat_and]
    exact Nat.lt_of_le_of_lt Nat.and_le_right (by decide)
  · apply Int32.toBitVec_inj.1
    rw [Int32.toBitVec_and, show (nI 31).toBitVec = 31#32 from rfl]
    show _ = BitVec.ofNat 32 _
    rw [BitVec.ofNat_toNat, BitVec.setWidth_eq]
theorem y_one (hx : x_T t e) (hV : tab_ok V) (hT : TP N e I L) (hN : N < 800000) (hL : V.1 < 2 ^ 31) (hi : i + 6 ≤ V.1) : y_go V t e N I L i 10 := by
  have ht : 55 ≤ t := x_T55 hx
  have ht2 : e = some 55 → 62 ≤ t := fun q => by
    rcases hx with ⟨h, _⟩ | ⟨_, h⟩
    · rw [h] at q; cases q
    · omega
  have hLn : V.1 < 2147483648 := by omega
  have h6 : 6 ≤ V.1 := by omega
  have hlt : ¬ V.1 - 6 < i := by omega
  obtain ⟨j, hj, hz⟩ := n_a31 (V.2 1003 i)
  have run : ∀ Q, WP V 198 10 [.ref 1003, .ref 0, .ref 27, .int (nI i)] [] t I L (m_RR e 28 48) Q = WP V 198 21 [.ref 1003, .ref 0, .ref 27, .int (nI i)] [.int (nI j)] t I L (m_RR e 28 48) Q := fun Q => by
    simp (disch := first | assumption | omega | decide) only [nI_add, n_mul, n_sub, n_le, n_lt, n_eq, n_ne1, n_0, m_bl_t, m_bl_f, if_true, if_false, Nat.reduceAdd, Nat.reduceMul, Nat.reduceSub, Nat.reduceLeDiff, Nat.reduceEqDiff, Nat.add_zero, Nat.add_sub_cancel, Option.toList, List.cons_append, List.nil_append, i198_10, i198_11, i198_12, i198_13, i198_14, i198_15, i198_16, i198_17, i198_18, i198_19, i198_20, hlt, hz]
  have key : ∀ s, (∀ Q, WP V 198 21 [.ref 1003, .ref 0, .ref 27, .int (nI i)] [.int (nI j)] t I L (m_RR e 28 48) Q = WP V 198 s [.ref 1003, .ref 0, .ref 27, .int (nI i)] [] t I L (m_RR e 28 48) Q) → y_go V t e N I L i s → y_go V t e N I L i 10 := by
    intro s h1 h2
    obtain ⟨t', e', I', L', a1, a2, a3⟩ := h2
    exact ⟨t', e', I', L', a1, a2, fun Q => (run Q).trans ((h1 Q).trans (a3 Q))⟩
  by_cases hj2 : 23 ≤ j
  · refine key 558 (fun Q => ?_) ⟨t, e, I, L, hx, TP_le hT (Nat.le_add_right _ _), fun Q => ?_⟩
    · have hd : (nI j).toInt < 0 ∨ 22 < (nI j).toInt := Or.inr (by rw [nI_toInt (by omega)]; omega)
      rw [i198_21sd hd]
    · simp (disch := first | assumption | omega | decide) only [nI_add, n_mul, n_sub, n_le, n_lt, n_eq, n_ne1, n_0, m_bl_t, m_bl_f, if_true, if_false, Nat.reduceAdd, Nat.reduceMul, Nat.reduceSub, Nat.reduceLeDiff, Nat.reduceEqDiff, Nat.add_zero, Nat.add_sub_cancel, Option.toList, List.cons_append, List.nil_append, i198_558, i198_559]
  obtain rfl | rfl | rfl | rfl | rfl | rfl | rfl | rfl | rfl | rfl | rfl | rfl | rfl | rfl | rfl | rfl | rfl | rfl | rfl | rfl | rfl | rfl | rfl : j = 0 ∨ j = 1 ∨ j = 2 ∨ j = 3 ∨ j = 4 ∨ j = 5 ∨ j = 6 ∨ j = 7 ∨ j = 8 ∨ j = 9 ∨ j = 10 ∨ j = 11 ∨ j = 12 ∨ j = 13 ∨ j = 14 ∨ j = 15 ∨ j = 16 ∨ j = 17 ∨ j = 18 ∨ j = 19 ∨ j = 20 ∨ j = 21 ∨ j = 22 := by omega
  · exact key 22 (fun Q => i198_21s0) (y_c0 ht hL hi (pair_o hx (p_act hT hV ht _ _ _ _ _)))
  · exact key 79 (fun Q => i198_21s1) (y_c1 ht hL hi (pair_o hx (p_wipe hT ht )))
  · exact key 86 (fun Q => i198_21s2) (y_c2 ht hL hi (pair_o hx (p_row hT ht _ _ _)))
  · exact key 123 (fun Q => i198_21s3) (y_c3 ht hL hi (pair_o hx (p_item hT ht _ _ _)))
  · exact key 184 (fun Q => i198_21s4) (y_c4 ht hL hi (pair_o hx (p_tear hT ht _)))
  · exact key 201 (fun Q => i198_21s5) (y_c5 ht hL hi (pair_o hx (p_cell hT ht _ _ _)))
  · exact key 238 (fun Q => i198_21s6) (y_c6 ht hL hi (pair_o hx (p_way hT ht _)))
  · exact key 255 (fun Q => i198_21s7) (y_c7 ht hL hi (pair_o hx (p_code hT ht _ _)))
  · exact key 282 (fun Q => i198_21s8) (y_c8 ht hL hi (pair_o hx (p_start hT ht _)))
  · exact key 299 (fun Q => i198_21s9) (y_c9 ht hL hi (pair_o hx (p_reset hT ht )))
  · exact key 306 (fun Q => i198_21s10) (y_c10 ht hL hi (pair_o hx (p_step hT hN ht _)))
  · exact key 323 (fun Q => i198_21s11) (y_c11 ht hL hi (pair_o hx (p_run hT hN ht _ _)))
  · exact key 350 (fun Q => i198_21s12) (y_c12 ht hL hi (p_explore hT hN hx _))
  · exact key 367 (fun Q => i198_21s13) (y_c13 ht hL hi (pair_o hx (p_end hT ht ht2 _ _)))
  · exact key 394 (fun Q => i198_21s14) (y_c14 ht hL hi (pair_o hx (p_thread hT ht _ _)))
  · exact key 421 (fun Q => i198_21s15) (y_c15 ht hL hi (pair_o hx (p_told hT ht _ _)))
  · exact key 448 (fun Q => i198_21s16) (y_c16 ht hL hi (pair_o hx (p_count hT hN ht _)))
  · exact key 465 (fun Q => i198_21s17) (y_c17 ht hL hi (pair_o hx (p_order hT hN ht _ _)))
  · exact key 492 (fun Q => i198_21s18) (y_c18 ht hL hi (pair_o hx (p_forge hT hN ht _ _ _)))
  · exact key 529 (fun Q => i198_21s19) (y_c19 ht hL hi (pair_o hx (p_check hT hN ht )))
  · exact key 536 (fun Q => i198_21s20) (y_c20 ht hL hi (pair_o hx (p_keep hT ht )))
  · exact key 543 (fun Q => i198_21s21) (y_c21 ht hL hi (pair_o hx (p_back hT ht )))
  · exact key 550 (fun Q => i198_21s22) (y_c22 ht hL hi (pair_o hx (p_digest hT hN ht )))
end RCE
