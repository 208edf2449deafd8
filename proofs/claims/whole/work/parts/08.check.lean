def m_nests : List Cond := [.methodLinkNest "TransactionCells$House" 19 ⟨"TransactionCells$Codes", "<init>", "()V"⟩ "TransactionCells", .methodLinkNest "TransactionCells$House" 33 ⟨"TransactionCells$Notes", "<init>", "()V"⟩ "TransactionCells", .methodLinkNest "TransactionCells$Codes" 31 ⟨"TransactionCells", "isIn", "(II)Z"⟩ "TransactionCells", .methodLinkNest "TransactionCells$Steps" 107 ⟨"TransactionCells", "isIn", "(II)Z"⟩ "TransactionCells"]
theorem m_nests_in : ∀ w ∈ m_nests, w ∈ lw_tbl := by
  intro w hw
  simp only [m_nests, List.mem_cons, List.not_mem_nil, or_false] at hw
  rcases hw with rfl | rfl | rfl | rfl
  · exact List.mem_of_getElem? (i := 115) (by decide +kernel)
  · exact List.mem_of_getElem? (i := 155) (by decide +kernel)
  · exact List.mem_of_getElem? (i := 292) (by decide +kernel)
  · exact List.mem_of_getElem? (i := 488) (by decide +kernel)
/-- where a method's words stand: code, static or instanceMethod, selects, initialized; and 0 static, 1 virtual, 2 a constructor -/
def m_ps : List (Nat × Nat × Nat × Nat × Nat) := [(117, 116, 0, 89, 2), (286, 285, 0, 89, 0), (291, 290, 0, 89, 0), (312, 310, 311, 89, 1), (308, 306, 307, 89, 1), (320, 318, 319, 89, 1), (728, 726, 727, 89, 1), (231, 230, 0, 95, 2), (401, 400, 0, 95, 1), (404, 403, 0, 95, 0), (501, 499, 500, 95, 1), (416, 414, 415, 95, 1), (420, 419, 3, 95, 1), (428, 427, 5, 95, 1), (458, 457, 10, 95, 1), (462, 461, 11, 95, 1), (432, 431, 6, 95, 1), (424, 423, 4, 95, 1), (436, 435, 7, 95, 1), (440, 439, 8, 95, 1), (470, 468, 469, 95, 1), (474, 473, 13, 95, 1), (505, 503, 504, 95, 1), (509, 508, 17, 95, 1), (397, 395, 396, 95, 1), (513, 511, 512, 95, 1), (453, 451, 452, 95, 1), (526, 524, 525, 95, 1), (449, 448, 9, 95, 1), (530, 529, 19, 95, 1), (444, 442, 443, 95, 1), (550, 548, 549, 95, 1), (393, 391, 392, 95, 1), (586, 585, 0, 97, 2), (629, 627, 628, 97, 1), (635, 634, 27, 97, 1), (639, 638, 28, 97, 1), (643, 642, 29, 97, 1), (647, 646, 30, 97, 1), (651, 650, 31, 97, 1), (655, 654, 32, 97, 1), (661, 660, 33, 97, 1), (665, 664, 34, 97, 1), (111, 110, 0, 88, 2), (357, 356, 0, 88, 0), (724, 722, 723, 88, 1), (179, 177, 178, 88, 1), (193, 191, 192, 88, 1), (304, 302, 303, 88, 1), (300, 298, 299, 88, 1), (384, 382, 383, 88, 1), (189, 187, 188, 88, 1), (478, 476, 477, 88, 1), (157, 156, 0, 92, 2), (685, 683, 684, 92, 1), (699, 698, 0, 92, 0), (517, 515, 516, 92, 1), (482, 480, 481, 92, 1), (521, 520, 18, 92, 1), (707, 705, 706, 92, 1), (712, 711, 35, 92, 1), (716, 715, 36, 92, 1), (738, 736, 737, 92, 1), (133, 132, 0, 90, 2), (339, 337, 338, 90, 1), (328, 326, 327, 90, 1), (343, 341, 342, 90, 1), (346, 345, 0, 90, 0), (733, 731, 732, 90, 1), (225, 224, 0, 94, 2), (388, 386, 387, 94, 1), (408, 407, 1, 94, 1), (412, 411, 2, 94, 1), (497, 496, 16, 94, 1), (493, 492, 15, 94, 1), (466, 465, 12, 94, 1), (487, 486, 14, 94, 1), (541, 540, 0, 94, 0), (538, 537, 21, 94, 1), (555, 554, 23, 94, 1), (560, 559, 24, 94, 1), (545, 544, 22, 94, 1), (534, 533, 20, 94, 1), (564, 563, 25, 94, 1), (568, 567, 26, 94, 1), (103, 102, 0, 87, 2), (280, 278, 279, 87, 1), (316, 314, 315, 87, 1), (324, 322, 323, 87, 1), (335, 333, 334, 87, 1), (350, 348, 349, 87, 1), (354, 352, 353, 87, 1), (362, 360, 361, 87, 1), (366, 364, 365, 87, 1), (370, 368, 369, 87, 1), (374, 372, 373, 87, 1), (380, 378, 379, 87, 1), (577, 575, 576, 87, 1), (581, 579, 580, 87, 1), (669, 667, 668, 87, 1), (673, 671, 672, 87, 1), (677, 675, 676, 87, 1), (681, 679, 680, 87, 1), (692, 690, 691, 87, 1), (696, 694, 695, 87, 1), (703, 701, 702, 87, 1), (720, 718, 719, 87, 1), (742, 740, 741, 87, 1), (746, 744, 745, 87, 1), (283, 282, 0, 87, 0), (756, 755, 0, 96, 2), (922, 921, 0, 96, 0), (765, 764, 0, 96, 0), (772, 771, 0, 96, 0), (762, 761, 37, 96, 1), (769, 768, 38, 96, 1), (776, 775, 39, 96, 1), (780, 779, 40, 96, 1), (784, 783, 41, 96, 1), (938, 937, 43, 96, 1), (928, 927, 0, 96, 0), (931, 930, 0, 96, 0), (969, 968, 0, 96, 0), (934, 933, 0, 96, 0), (925, 924, 0, 96, 0), (919, 917, 918, 96, 1), (942, 940, 941, 96, 1), (946, 944, 945, 96, 1), (950, 948, 949, 96, 1), (954, 952, 953, 96, 1), (788, 787, 42, 96, 1), (958, 956, 957, 96, 1), (962, 960, 961, 96, 1), (966, 964, 965, 96, 1), (973, 971, 972, 96, 1), (977, 975, 976, 96, 1), (1037, 1036, 57, 96, 1), (1033, 1032, 56, 96, 1), (1013, 1012, 51, 96, 1), (1045, 1044, 59, 96, 1), (1001, 1000, 48, 96, 1), (1017, 1016, 52, 96, 1), (1009, 1008, 50, 96, 1), (1029, 1028, 55, 96, 1), (1041, 1040, 58, 96, 1), (1069, 1068, 65, 96, 1), (1065, 1064, 64, 96, 1), (1061, 1060, 63, 96, 1), (1005, 1004, 49, 96, 1), (1057, 1056, 62, 96, 1), (1077, 1076, 67, 96, 1), (1073, 1072, 66, 96, 1), (1085, 1084, 69, 96, 1), (1089, 1088, 70, 96, 1), (1025, 1024, 54, 96, 1), (1021, 1020, 53, 96, 1), (1113, 1112, 76, 96, 1), (1117, 1116, 77, 96, 1), (1101, 1100, 73, 96, 1), (1105, 1104, 74, 96, 1), (1109, 1108, 75, 96, 1), (997, 996, 47, 96, 1), (1049, 1048, 60, 96, 1), (1097, 1096, 72, 96, 1), (993, 992, 46, 96, 1), (1053, 1052, 61, 96, 1), (1081, 1080, 68, 96, 1), (1093, 1092, 71, 96, 1), (985, 984, 44, 96, 1), (989, 988, 45, 96, 1), (981, 979, 980, 96, 1), (1121, 1119, 1120, 96, 1), (1129, 1128, 78, 96, 1), (1148, 1147, 0, 96, 0), (1151, 1150, 0, 96, 0), (1145, 1144, 82, 96, 1), (1141, 1140, 81, 96, 1), (1133, 1132, 79, 96, 1), (1155, 1154, 83, 96, 1), (1125, 1123, 1124, 96, 1), (1137, 1136, 80, 96, 1), (1159, 1157, 1158, 96, 1), (1163, 1161, 1162, 96, 1), (1167, 1165, 1166, 96, 1), (1171, 1169, 1170, 96, 1), (1175, 1173, 1174, 96, 1), (1179, 1177, 1178, 96, 1), (1183, 1181, 1182, 96, 1), (1191, 1190, 84, 96, 1), (1195, 1194, 85, 96, 1), (1187, 1185, 1186, 96, 1), (1199, 1197, 1198, 96, 1), (1203, 1201, 1202, 96, 1), (688, 687, 0, 98, 0), (185, 184, 0, 91, 0), (331, 330, 0, 91, 0), (137, 136, 0, 91, 0), (182, 181, 0, 91, 0), (0, 0, 0, 0, 3)]
def m_psq (m : Nat) : Nat × Nat × Nat × Nat × Nat := m_ps.getD m (0, 0, 0, 0, 3)
def m_kd (m : Nat) : Nat := (m_psq m).2.2.2.2
def m_own (m : Nat) : String := m_cn.getD (m_ow m) ""
/-- a word of the tables, at its place, that may be handed on -/
def m_wd (i : Nat) (w : Cond) : Bool := decide (lw_tbl[i]? = some w) && goodWord w
theorem m_wd_in {i : Nat} {w : Cond} (h : m_wd i w = true) : w ∈ m_g := by
  simp only [m_wd, Bool.and_eq_true, decide_eq_true_eq] at h
  exact m_g_at h.1 h.2
/-- a method's own words -/
def m_ckm (a : Nat) : Bool :=
  m_wd (m_psq a).2.1 (if m_kd a = 0 then .static (m_y a) else .instanceMethod (m_y a)) &&
  (decide (m_kd a ≠ 1) || m_wd (m_psq a).2.2.1 (.selects (m_y a).cls (m_y a) (m_y a))) && m_wd (m_psq a).2.2.2.1 (.initialized (m_y a).cls) &&
  decide ((m_y a).cls ≠ "java/lang/invoke/MethodHandle" ∧ (m_y a).cls ≠ "java/lang/invoke/VarHandle") && plainName (m_y a).cls && decide (m_kd a ≠ 2 ∨ ((m_y a).name = "<init>" ∧ m_rt a = none)) && decide (m_own a = (m_y a).cls)
def m_len (ins : ClassFile.Instr) : Nat := match ins with
  | .bipush _ => 2
  | .sipush _ => 3
  | .ldc _ => 2
  | .ldc2_w _ => 3
  | .iload _ => 2
  | .lload _ => 2
  | .aload _ => 2
  | .istore _ => 2
  | .lstore _ => 2
  | .astore _ => 2
  | .iinc _ _ => 3
  | .ifCond _ _ => 3
  | .if_icmp _ _ => 3
  | .goto _ => 3
  | .ifnull _ => 3
  | .ifnonnull _ => 3
  | .getfield _ => 3
  | .putfield _ => 3
  | .getstatic _ => 3
  | .invokestatic _ => 3
  | .invokevirtual _ => 3
  | .invokespecial _ => 3
  | .new _ => 3
  | .newarray _ => 2
  | _ => 1
def m_pcl (tb : List m_E) (n : Nat) : Nat := (tb.getD n m_e0).1
/-- the room that a call needs -/
def m_ckr (m a b : Nat) : Bool := decide (a < 198 ∧ a ≠ 193 ∧ m_fr a + 1 ≤ m_fr m ∧ 8 + (m_ml a + 11) + m_lo a ≤ m_lo m ∧ (parseMethodDescriptor (m_y a).desc).map (fun d => d.parameters.length) = some b)
def m_stn (a : Nat) : String := if a = 1000 then "A_BELOW" else if a = 1001 then "B_BELOW" else "C_BELOW"
/-- what a row links: by its kind -/
def m_ckl (m : Nat) (tb : List m_E) (e : m_E) : Bool := match e with
  | (pc, ins, _, a, b, l) => match ins with
    | .ifCond _ o => decide ((pc : Int) + o = (m_pcl tb a : Int))
    | .if_icmp _ o => decide ((pc : Int) + o = (m_pcl tb a : Int))
    | .goto o => decide ((pc : Int) + o = (m_pcl tb a : Int))
    | .ifnull o => decide ((pc : Int) + o = (m_pcl tb a : Int))
    | .ifnonnull o => decide ((pc : Int) + o = (m_pcl tb a : Int))
    | .tableswitch d lo hi os => decide ((pc : Int) + d = (m_pcl tb a : Int)) && decide (os.toList.map (fun o => (pc : Int) + o) = l.map (fun j => (m_pcl tb j : Int)))
    | .getfield i => decide (a < 9 ∧ b < m_CN a) && m_wd (86 + l.headD 0) (.fieldLink (m_own m) i (m_CT a b).1 (m_CT a b).2.1 (m_CT a b).2.2.1)
    | .putfield i => decide (a < 9 ∧ b < m_CN a) && m_wd (86 + l.headD 0) (.fieldLink (m_own m) i (m_CT a b).1 (m_CT a b).2.1 (m_CT a b).2.2.1) && decide ((m_CT a b).2.2.2 = false ∨ (m_kd m = 2 ∧ (m_CT a b).1 = m_own m))
    | .getstatic i => decide (1000 ≤ a ∧ a < 1003) && m_wd (86 + b) (.fieldLink (m_own m) i "TransactionCells$Codes" (m_stn a) "[I")
    | .new i => decide (a = 99) || decide (a < 9) && m_wd (86 + b) (.classLink (m_own m) i (m_CR a))
    | .ldc i => decide (2147483648 ≤ a) || m_wd (86 + b) (.constant (m_own m) i (Int32.ofNat a))
    | .ldc2_w i => m_wd (86 + b) (.constantLong (m_own m) i (Int64.ofNat a))
    | .invokevirtual i => decide (a = 500) || m_ckr m a b && decide (m_kd a = 1) && m_wd (86 + l.headD 0) (.methodLink (m_own m) i (m_y a))
    | .invokestatic i => if a = 1000 then m_wd (86 + l.headD 0) (.methodLink (m_own m) i arraycopyName) && decide (1 ≤ m_fr m ∧ 26 ≤ m_lo m)
      else if a = 1002 then m_wd (86 + l.headD 0) (.methodLink (m_own m) i Lib.Math.min.name) && decide (1 ≤ m_fr m ∧ 21 ≤ m_lo m)
      else m_ckr m a b && decide (m_kd a = 0) && (if l.getD 1 0 = 0 then m_wd (86 + l.headD 0) (.methodLink (m_own m) i (m_y a)) else decide (.methodLinkNest (m_own m) i (m_y a) "TransactionCells" ∈ m_nests))
    | .invokespecial i => if a = 1001 then m_wd (86 + l.headD 0) (.methodLink (m_own m) i objectInit) && decide (1 ≤ m_fr m ∧ 20 ≤ m_lo m)
      else decide (a = 500) || m_ckr m a b && decide (m_kd a = 2) && (if l.getD 1 0 = 0 then m_wd (86 + l.headD 0) (.methodLink (m_own m) i (m_y a)) else decide (.methodLinkNest (m_own m) i (m_y a) "TransactionCells" ∈ m_nests))
    | .return_ => decide (m_rt m = none)
    | _ => true
def m_cke (m : Nat) (tb : List m_E) (e : m_E) (r : List m_E) : Bool :=
  (match e.2.1 with
    | .tableswitch _ _ _ _ => true
    | _ => decide (e.2.2.1 = m_len e.2.1)) && (match r with
    | [] => true
    | e2 :: _ => decide (e2.1 = e.1 + e.2.2.1)) && m_ckl m tb e
def m_ckt (m : Nat) (tb : List m_E) : List m_E → Bool
  | [] => true
  | e :: r => m_cke m tb e r && m_ckt m tb r

