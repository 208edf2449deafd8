section
variable {V : m_V} {t : Nat} {I : m_I} {L : m_L} {R : m_R} {Q : Option Value → Nat → m_I → m_L → m_R → Prop} {ls st : List Value}
-- TransactionCellsModel.fails(II)I
theorem i155_0 {w0 w2 w3 w4 w5 w6 w7 w8 : Value} {x : Int32} : WP V 155 0 [w0, .int x, w2, w3, w4, w5, w6, w7, w8] st t I L R Q = WP V 155 1 [w0, .int x, w2, w3, w4, w5, w6, w7, w8] (.int x :: st) t I L R Q := wp_go rfl
theorem i155_1 {x0 : Int32}  : WP V 155 1 ls [.int x0] t I L R Q = WPC V 113 [.int x0] 155 2 ls [] t I L R Q := wp_cls (wp_ics rfl (by decide)) (by decide) (Nat.le_of_ble_eq_true rfl) rfl rfl (Nat.le_of_ble_eq_true rfl) (Nat.le_of_ble_eq_true rfl)
theorem i155_2 {p : Int32} {w0 w1 w3 w4 w5 w6 w7 w8 : Value} {x : Int32} : WP V 155 2 [w0, w1, .int p, w3, w4, w5, w6, w7, w8] (.int x :: st) t I L R Q = WP V 155 3 [w0, w1, .int p, .int x, w4, w5, w6, w7, w8] st t I L R Q := wp_go rfl
theorem i155_3 {w1 w2 w3 w4 w5 w6 w7 w8 : Value} {x : Nat} : WP V 155 3 [.ref x, w1, w2, w3, w4, w5, w6, w7, w8] st t I L R Q = WP V 155 4 [.ref x, w1, w2, w3, w4, w5, w6, w7, w8] (.ref x :: st) t I L R Q := wp_go rfl
theorem i155_4 {k : Nat} (h1 : k < t) (h2 : m_ob k 8 = true) : WP V 155 4 ls (.ref k :: st) t I L R Q = WP V 155 5 ls (m_rv (R k 0) :: st) t I L R Q := wp_getR rfl (by decide) h1 h2
theorem i155_5 {w0 w1 w2 w4 w5 w6 w7 w8 : Value} {x : Int32} : WP V 155 5 [w0, w1, w2, .int x, w4, w5, w6, w7, w8] st t I L R Q = WP V 155 6 [w0, w1, w2, .int x, w4, w5, w6, w7, w8] (.int x :: st) t I L R Q := wp_go rfl
theorem i155_6  : WP V 155 6 ls st t I L R Q = WP V 155 7 ls (.int (nI 101) :: st) t I L R Q := wp_go rfl
theorem i155_7 {x y : Int32} : WP V 155 7 ls (.int y :: .int x :: st) t I L R Q = WP V 155 8 ls (.int (x + y) :: st) t I L R Q := wp_go rfl
theorem i155_8 {k j : Nat} (h2 : m_ar k 2 612 = true) (h1 : k < t) (h3 : j < 612) : WP V 155 8 ls (.int (nI j) :: .ref k :: st) t I L R Q = WP V 155 9 ls (.int (I k j) :: st) t I L R Q := wp_iaload rfl (by decide) h1 h2 h3
theorem i155_9  : WP V 155 9 ls st t I L R Q = WP V 155 10 ls (.int (nI 1) :: st) t I L R Q := wp_go rfl
theorem i155_10 {x y : Int32} : WP V 155 10 ls (.int y :: .int x :: st) t I L R Q = if x = y then WP V 155 11 ls st t I L R Q else WP V 155 18 ls st t I L R Q := wp_brn (c := m_cc .ne x y) rfl rfl
theorem i155_11 {w1 w2 w3 w4 w5 w6 w7 w8 : Value} {x : Nat} : WP V 155 11 [.ref x, w1, w2, w3, w4, w5, w6, w7, w8] st t I L R Q = WP V 155 12 [.ref x, w1, w2, w3, w4, w5, w6, w7, w8] (.ref x :: st) t I L R Q := wp_go rfl
theorem i155_12 {k : Nat} (h1 : k < t) (h2 : m_ob k 8 = true) : WP V 155 12 ls (.ref k :: st) t I L R Q = WP V 155 13 ls (m_rv (R k 0) :: st) t I L R Q := wp_getR rfl (by decide) h1 h2
theorem i155_13 {w0 w1 w2 w4 w5 w6 w7 w8 : Value} {x : Int32} : WP V 155 13 [w0, w1, w2, .int x, w4, w5, w6, w7, w8] st t I L R Q = WP V 155 14 [w0, w1, w2, .int x, w4, w5, w6, w7, w8] (.int x :: st) t I L R Q := wp_go rfl
theorem i155_14  : WP V 155 14 ls st t I L R Q = WP V 155 15 ls (.int (nI 110) :: st) t I L R Q := wp_go rfl
theorem i155_15 {x y : Int32} : WP V 155 15 ls (.int y :: .int x :: st) t I L R Q = WP V 155 16 ls (.int (x + y) :: st) t I L R Q := wp_go rfl
theorem i155_16 {k j : Nat} (h2 : m_ar k 2 612 = true) (h1 : k < t) (h3 : j < 612) : WP V 155 16 ls (.int (nI j) :: .ref k :: st) t I L R Q = WP V 155 17 ls (.int (I k j) :: st) t I L R Q := wp_iaload rfl (by decide) h1 h2 h3
theorem i155_17  : WP V 155 17 ls st t I L R Q = WP V 155 19 ls st t I L R Q := wp_go rfl
theorem i155_18  : WP V 155 18 ls st t I L R Q = WP V 155 19 ls (.int (nI 0) :: st) t I L R Q := wp_go rfl
theorem i155_19 {p : Int32} {w0 w1 w2 w4 w5 w6 w7 w8 : Value} {x : Int32} : WP V 155 19 [w0, w1, w2, .int p, w4, w5, w6, w7, w8] (.int x :: st) t I L R Q = WP V 155 20 [w0, w1, w2, .int p, .int x, w5, w6, w7, w8] st t I L R Q := wp_go rfl
theorem i155_20 {w1 w2 w3 w4 w5 w6 w7 w8 : Value} {x : Nat} : WP V 155 20 [.ref x, w1, w2, w3, w4, w5, w6, w7, w8] st t I L R Q = WP V 155 21 [.ref x, w1, w2, w3, w4, w5, w6, w7, w8] (.ref x :: st) t I L R Q := wp_go rfl
theorem i155_21 {k : Nat} (h1 : k < t) (h2 : m_ob k 8 = true) : WP V 155 21 ls (.ref k :: st) t I L R Q = WP V 155 22 ls (m_rv (R k 0) :: st) t I L R Q := wp_getR rfl (by decide) h1 h2
theorem i155_22 {w0 w1 w2 w4 w5 w6 w7 w8 : Value} {x : Int32} : WP V 155 22 [w0, w1, w2, .int x, w4, w5, w6, w7, w8] st t I L R Q = WP V 155 23 [w0, w1, w2, .int x, w4, w5, w6, w7, w8] (.int x :: st) t I L R Q := wp_go rfl
theorem i155_23  : WP V 155 23 ls st t I L R Q = WP V 155 24 ls (.int (nI 8) :: st) t I L R Q := wp_go rfl
theorem i155_24 {x y : Int32} : WP V 155 24 ls (.int y :: .int x :: st) t I L R Q = WP V 155 25 ls (.int (x + y) :: st) t I L R Q := wp_go rfl
theorem i155_25 {k j : Nat} (h2 : m_ar k 2 612 = true) (h1 : k < t) (h3 : j < 612) : WP V 155 25 ls (.int (nI j) :: .ref k :: st) t I L R Q = WP V 155 26 ls (.int (I k j) :: st) t I L R Q := wp_iaload rfl (by decide) h1 h2 h3
theorem i155_26  : WP V 155 26 ls st t I L R Q = WP V 155 27 ls (.int (nI 1) :: st) t I L R Q := wp_go rfl
theorem i155_27 {x y : Int32} : WP V 155 27 ls (.int y :: .int x :: st) t I L R Q = WP V 155 28 ls (.int (x - y) :: st) t I L R Q := wp_go rfl
theorem i155_28 {p : Int32} {w0 w1 w2 w3 w5 w6 w7 w8 : Value} {x : Int32} : WP V 155 28 [w0, w1, w2, w3, .int p, w5, w6, w7, w8] (.int x :: st) t I L R Q = WP V 155 29 [w0, w1, w2, w3, .int p, .int x, w6, w7, w8] st t I L R Q := wp_go rfl
theorem i155_29 {w0 w1 w2 w3 w4 w6 w7 w8 : Value} {x : Int32} : WP V 155 29 [w0, w1, w2, w3, w4, .int x, w6, w7, w8] st t I L R Q = WP V 155 30 [w0, w1, w2, w3, w4, .int x, w6, w7, w8] (.int x :: st) t I L R Q := wp_go rfl
theorem i155_30 {w0 w1 w2 w3 w5 w6 w7 w8 : Value} {x : Int32} : WP V 155 30 [w0, w1, w2, w3, .int x, w5, w6, w7, w8] st t I L R Q = WP V 155 31 [w0, w1, w2, w3, .int x, w5, w6, w7, w8] (.int x :: st) t I L R Q := wp_go rfl
theorem i155_31 {x y : Int32} : WP V 155 31 ls (.int y :: .int x :: st) t I L R Q = if x < y then WP V 155 82 ls st t I L R Q else WP V 155 32 ls st t I L R Q := wp_br (c := m_cc .lt x y) rfl rfl
theorem i155_32 {w0 w1 w2 w4 w5 w6 w7 w8 : Value} {x : Int32} : WP V 155 32 [w0, w1, w2, .int x, w4, w5, w6, w7, w8] st t I L R Q = WP V 155 33 [w0, w1, w2, .int x, w4, w5, w6, w7, w8] (.int x :: st) t I L R Q := wp_go rfl
theorem i155_33  : WP V 155 33 ls st t I L R Q = WP V 155 34 ls (.int (nI 9) :: st) t I L R Q := wp_go rfl
theorem i155_34 {x y : Int32} : WP V 155 34 ls (.int y :: .int x :: st) t I L R Q = WP V 155 35 ls (.int (x + y) :: st) t I L R Q := wp_go rfl
theorem i155_35  : WP V 155 35 ls st t I L R Q = WP V 155 36 ls (.int (nI 23) :: st) t I L R Q := wp_go rfl
theorem i155_36 {w0 w1 w2 w3 w4 w6 w7 w8 : Value} {x : Int32} : WP V 155 36 [w0, w1, w2, w3, w4, .int x, w6, w7, w8] st t I L R Q = WP V 155 37 [w0, w1, w2, w3, w4, .int x, w6, w7, w8] (.int x :: st) t I L R Q := wp_go rfl
theorem i155_37 {x y : Int32} : WP V 155 37 ls (.int y :: .int x :: st) t I L R Q = WP V 155 38 ls (.int (x * y) :: st) t I L R Q := wp_go rfl
theorem i155_38 {x y : Int32} : WP V 155 38 ls (.int y :: .int x :: st) t I L R Q = WP V 155 39 ls (.int (x + y) :: st) t I L R Q := wp_go rfl
theorem i155_39 {p : Int32} {w0 w1 w2 w3 w4 w6 w7 w8 : Value} {x : Int32} : WP V 155 39 [w0, w1, w2, w3, w4, .int p, w6, w7, w8] (.int x :: st) t I L R Q = WP V 155 40 [w0, w1, w2, w3, w4, .int p, .int x, w7, w8] st t I L R Q := wp_go rfl
theorem i155_40 {w1 w2 w3 w4 w5 w6 w7 w8 : Value} {x : Nat} : WP V 155 40 [.ref x, w1, w2, w3, w4, w5, w6, w7, w8] st t I L R Q = WP V 155 41 [.ref x, w1, w2, w3, w4, w5, w6, w7, w8] (.ref x :: st) t I L R Q := wp_go rfl
theorem i155_41 {k : Nat} (h1 : k < t) (h2 : m_ob k 8 = true) : WP V 155 41 ls (.ref k :: st) t I L R Q = WP V 155 42 ls (m_rv (R k 0) :: st) t I L R Q := wp_getR rfl (by decide) h1 h2
theorem i155_42 {w0 w1 w2 w3 w4 w5 w7 w8 : Value} {x : Int32} : WP V 155 42 [w0, w1, w2, w3, w4, w5, .int x, w7, w8] st t I L R Q = WP V 155 43 [w0, w1, w2, w3, w4, w5, .int x, w7, w8] (.int x :: st) t I L R Q := wp_go rfl
theorem i155_43 {k j : Nat} (h2 : m_ar k 2 612 = true) (h1 : k < t) (h3 : j < 612) : WP V 155 43 ls (.int (nI j) :: .ref k :: st) t I L R Q = WP V 155 44 ls (.int (I k j) :: st) t I L R Q := wp_iaload rfl (by decide) h1 h2 h3
theorem i155_44 {p : Int32} {w0 w1 w2 w3 w4 w5 w7 w8 : Value} {x : Int32} : WP V 155 44 [w0, w1, w2, w3, w4, w5, .int p, w7, w8] (.int x :: st) t I L R Q = WP V 155 45 [w0, w1, w2, w3, w4, w5, .int p, .int x, w8] st t I L R Q := wp_go rfl
theorem i155_45 {w1 w2 w3 w4 w5 w6 w7 w8 : Value} {x : Nat} : WP V 155 45 [.ref x, w1, w2, w3, w4, w5, w6, w7, w8] st t I L R Q = WP V 155 46 [.ref x, w1, w2, w3, w4, w5, w6, w7, w8] (.ref x :: st) t I L R Q := wp_go rfl
theorem i155_46 {k : Nat} (h1 : k < t) (h2 : m_ob k 8 = true) : WP V 155 46 ls (.ref k :: st) t I L R Q = WP V 155 47 ls (m_rv (R k 0) :: st) t I L R Q := wp_getR rfl (by decide) h1 h2
theorem i155_47 {w0 w1 w2 w3 w4 w5 w7 w8 : Value} {x : Int32} : WP V 155 47 [w0, w1, w2, w3, w4, w5, .int x, w7, w8] st t I L R Q = WP V 155 48 [w0, w1, w2, w3, w4, w5, .int x, w7, w8] (.int x :: st) t I L R Q := wp_go rfl
theorem i155_48  : WP V 155 48 ls st t I L R Q = WP V 155 49 ls (.int (nI 1) :: st) t I L R Q := wp_go rfl
theorem i155_49 {x y : Int32} : WP V 155 49 ls (.int y :: .int x :: st) t I L R Q = WP V 155 50 ls (.int (x + y) :: st) t I L R Q := wp_go rfl
theorem i155_50 {k j : Nat} (h2 : m_ar k 2 612 = true) (h1 : k < t) (h3 : j < 612) : WP V 155 50 ls (.int (nI j) :: .ref k :: st) t I L R Q = WP V 155 51 ls (.int (I k j) :: st) t I L R Q := wp_iaload rfl (by decide) h1 h2 h3
theorem i155_51 {p : Int32} {w0 w1 w2 w3 w4 w5 w6 w8 : Value} {x : Int32} : WP V 155 51 [w0, w1, w2, w3, w4, w5, w6, .int p, w8] (.int x :: st) t I L R Q = WP V 155 52 [w0, w1, w2, w3, w4, w5, w6, .int p, .int x] st t I L R Q := wp_go rfl
theorem i155_52 {w0 w1 w2 w3 w4 w5 w6 w8 : Value} {x : Int32} : WP V 155 52 [w0, w1, w2, w3, w4, w5, w6, .int x, w8] st t I L R Q = WP V 155 53 [w0, w1, w2, w3, w4, w5, w6, .int x, w8] (.int x :: st) t I L R Q := wp_go rfl
theorem i155_53  : WP V 155 53 ls st t I L R Q = WP V 155 54 ls (.int (nI 1) :: st) t I L R Q := wp_go rfl
theorem i155_54 {x y : Int32} : WP V 155 54 ls (.int y :: .int x :: st) t I L R Q = if x = y then WP V 155 55 ls st t I L R Q else WP V 155 59 ls st t I L R Q := wp_brn (c := m_cc .ne x y) rfl rfl
theorem i155_55 {w1 w2 w3 w4 w5 w6 w7 w8 : Value} {x : Nat} : WP V 155 55 [.ref x, w1, w2, w3, w4, w5, w6, w7, w8] st t I L R Q = WP V 155 56 [.ref x, w1, w2, w3, w4, w5, w6, w7, w8] (.ref x :: st) t I L R Q := wp_go rfl
theorem i155_56 {w0 w2 w3 w4 w5 w6 w7 w8 : Value} {x : Int32} : WP V 155 56 [w0, .int x, w2, w3, w4, w5, w6, w7, w8] st t I L R Q = WP V 155 57 [w0, .int x, w2, w3, w4, w5, w6, w7, w8] (.int x :: st) t I L R Q := wp_go rfl
theorem i155_57 {w0 w1 w2 w3 w4 w6 w7 w8 : Value} {x : Int32} : WP V 155 57 [w0, w1, w2, w3, w4, .int x, w6, w7, w8] st t I L R Q = WP V 155 58 [w0, w1, w2, w3, w4, .int x, w6, w7, w8] (.int x :: st) t I L R Q := wp_go rfl
theorem i155_58 {x0 : Int32} {x1 : Int32} {x2 : Nat}  (h1 : x2 < t) (h2 : m_ob x2 8 = true) : WP V 155 58 ls [.int x0, .int x1, .ref x2] t I L R Q = WPC V 154 [.ref x2, .int x1, .int x0] 155 59 ls [] t I L R Q := wp_cls (wp_icv rfl rfl h1 h2) (by decide) (Nat.le_of_ble_eq_true rfl) rfl rfl (Nat.le_of_ble_eq_true rfl) (Nat.le_of_ble_eq_true rfl)
theorem i155_59 {w1 w2 w3 w4 w5 w6 w7 w8 : Value} {x : Nat} : WP V 155 59 [.ref x, w1, w2, w3, w4, w5, w6, w7, w8] st t I L R Q = WP V 155 60 [.ref x, w1, w2, w3, w4, w5, w6, w7, w8] (.ref x :: st) t I L R Q := wp_go rfl
theorem i155_60 {w0 w2 w3 w4 w5 w6 w7 w8 : Value} {x : Int32} : WP V 155 60 [w0, .int x, w2, w3, w4, w5, w6, w7, w8] st t I L R Q = WP V 155 61 [w0, .int x, w2, w3, w4, w5, w6, w7, w8] (.int x :: st) t I L R Q := wp_go rfl
theorem i155_61 {w0 w1 w2 w3 w4 w6 w7 w8 : Value} {x : Int32} : WP V 155 61 [w0, w1, w2, w3, w4, .int x, w6, w7, w8] st t I L R Q = WP V 155 62 [w0, w1, w2, w3, w4, .int x, w6, w7, w8] (.int x :: st) t I L R Q := wp_go rfl
theorem i155_62 {x0 : Int32} {x1 : Int32} {x2 : Nat}  (h1 : x2 < t) (h2 : m_ob x2 8 = true) : WP V 155 62 ls [.int x0, .int x1, .ref x2] t I L R Q = WPC V 141 [.ref x2, .int x1, .int x0] 155 63 ls [] t I L R Q := wp_cls (wp_icv rfl rfl h1 h2) (by decide) (Nat.le_of_ble_eq_true rfl) rfl rfl (Nat.le_of_ble_eq_true rfl) (Nat.le_of_ble_eq_true rfl)
theorem i155_63 {w0 w1 w2 w3 w4 w5 w6 w8 : Value} {x : Int32} : WP V 155 63 [w0, w1, w2, w3, w4, w5, w6, .int x, w8] st t I L R Q = WP V 155 64 [w0, w1, w2, w3, w4, w5, w6, .int x, w8] (.int x :: st) t I L R Q := wp_go rfl
theorem i155_64 {x : Int32} : WP V 155 64 ls (.int x :: st) t I L R Q = if x = nI 0 then WP V 155 81 ls st t I L R Q else WP V 155 65 ls st t I L R Q := wp_br (c := m_cc .eq x 0) rfl rfl
theorem i155_65 {w1 w2 w3 w4 w5 w6 w7 w8 : Value} {x : Nat} : WP V 155 65 [.ref x, w1, w2, w3, w4, w5, w6, w7, w8] st t I L R Q = WP V 155 66 [.ref x, w1, w2, w3, w4, w5, w6, w7, w8] (.ref x :: st) t I L R Q := wp_go rfl
theorem i155_66 {k : Nat} (h1 : k < t) (h2 : m_ob k 8 = true) : WP V 155 66 ls (.ref k :: st) t I L R Q = WP V 155 67 ls (m_rv (R k 0) :: st) t I L R Q := wp_getR rfl (by decide) h1 h2
theorem i155_67 {w0 w1 w2 w4 w5 w6 w7 w8 : Value} {x : Int32} : WP V 155 67 [w0, w1, w2, .int x, w4, w5, w6, w7, w8] st t I L R Q = WP V 155 68 [w0, w1, w2, .int x, w4, w5, w6, w7, w8] (.int x :: st) t I L R Q := wp_go rfl
theorem i155_68  : WP V 155 68 ls st t I L R Q = WP V 155 69 ls (.int (nI 3) :: st) t I L R Q := wp_go rfl
theorem i155_69 {x y : Int32} : WP V 155 69 ls (.int y :: .int x :: st) t I L R Q = WP V 155 70 ls (.int (x + y) :: st) t I L R Q := wp_go rfl
theorem i155_70 {w0 w1 w3 w4 w5 w6 w7 w8 : Value} {x : Int32} : WP V 155 70 [w0, w1, .int x, w3, w4, w5, w6, w7, w8] st t I L R Q = WP V 155 71 [w0, w1, .int x, w3, w4, w5, w6, w7, w8] (.int x :: st) t I L R Q := wp_go rfl
theorem i155_71 {k j : Nat} {x : Int32} (h2 : m_ar k 2 612 = true) (h1 : k < t) (h3 : j < 612) : WP V 155 71 ls (.int x :: .int (nI j) :: .ref k :: st) t I L R Q = WP V 155 72 ls st t (m_sc I k (m_sc (I k) j x)) L R Q := wp_iastore rfl (by decide) h1 h2 h3
theorem i155_72 {w1 w2 w3 w4 w5 w6 w7 w8 : Value} {x : Nat} : WP V 155 72 [.ref x, w1, w2, w3, w4, w5, w6, w7, w8] st t I L R Q = WP V 155 73 [.ref x, w1, w2, w3, w4, w5, w6, w7, w8] (.ref x :: st) t I L R Q := wp_go rfl
theorem i155_73 {k : Nat} (h1 : k < t) (h2 : m_ob k 8 = true) : WP V 155 73 ls (.ref k :: st) t I L R Q = WP V 155 74 ls (m_rv (R k 0) :: st) t I L R Q := wp_getR rfl (by decide) h1 h2
theorem i155_74 {w0 w1 w2 w4 w5 w6 w7 w8 : Value} {x : Int32} : WP V 155 74 [w0, w1, w2, .int x, w4, w5, w6, w7, w8] st t I L R Q = WP V 155 75 [w0, w1, w2, .int x, w4, w5, w6, w7, w8] (.int x :: st) t I L R Q := wp_go rfl
theorem i155_75  : WP V 155 75 ls st t I L R Q = WP V 155 76 ls (.int (nI 1) :: st) t I L R Q := wp_go rfl
theorem i155_76 {x y : Int32} : WP V 155 76 ls (.int y :: .int x :: st) t I L R Q = WP V 155 77 ls (.int (x + y) :: st) t I L R Q := wp_go rfl
theorem i155_77 {w0 w1 w2 w3 w4 w5 w6 w7 : Value} {x : Int32} : WP V 155 77 [w0, w1, w2, w3, w4, w5, w6, w7, .int x] st t I L R Q = WP V 155 78 [w0, w1, w2, w3, w4, w5, w6, w7, .int x] (.int x :: st) t I L R Q := wp_go rfl
theorem i155_78 {k j : Nat} {x : Int32} (h2 : m_ar k 2 612 = true) (h1 : k < t) (h3 : j < 612) : WP V 155 78 ls (.int x :: .int (nI j) :: .ref k :: st) t I L R Q = WP V 155 79 ls st t (m_sc I k (m_sc (I k) j x)) L R Q := wp_iastore rfl (by decide) h1 h2 h3
theorem i155_79  : WP V 155 79 ls st t I L R Q = WP V 155 80 ls (.int (nI 1) :: st) t I L R Q := wp_go rfl
theorem i155_80 {x : Int32} : WP V 155 80 ls [.int x] t I L R Q = Q (some (.int x)) t I L R := wp_rti rfl rfl
theorem i155_81  : WP V 155 81 ls st t I L R Q = WP V 155 154 ls st t I L R Q := wp_go rfl
theorem i155_82 {w1 w2 w3 w4 w5 w6 w7 w8 : Value} {x : Nat} : WP V 155 82 [.ref x, w1, w2, w3, w4, w5, w6, w7, w8] st t I L R Q = WP V 155 83 [.ref x, w1, w2, w3, w4, w5, w6, w7, w8] (.ref x :: st) t I L R Q := wp_go rfl
theorem i155_83 {k : Nat} (h1 : k < t) (h2 : m_ob k 8 = true) : WP V 155 83 ls (.ref k :: st) t I L R Q = WP V 155 84 ls (m_rv (R k 0) :: st) t I L R Q := wp_getR rfl (by decide) h1 h2
theorem i155_84 {w0 w1 w2 w4 w5 w6 w7 w8 : Value} {x : Int32} : WP V 155 84 [w0, w1, w2, .int x, w4, w5, w6, w7, w8] st t I L R Q = WP V 155 85 [w0, w1, w2, .int x, w4, w5, w6, w7, w8] (.int x :: st) t I L R Q := wp_go rfl
theorem i155_85  : WP V 155 85 ls st t I L R Q = WP V 155 86 ls (.int (nI 101) :: st) t I L R Q := wp_go rfl
theorem i155_86 {x y : Int32} : WP V 155 86 ls (.int y :: .int x :: st) t I L R Q = WP V 155 87 ls (.int (x + y) :: st) t I L R Q := wp_go rfl
theorem i155_87 {k j : Nat} (h2 : m_ar k 2 612 = true) (h1 : k < t) (h3 : j < 612) : WP V 155 87 ls (.int (nI j) :: .ref k :: st) t I L R Q = WP V 155 88 ls (.int (I k j) :: st) t I L R Q := wp_iaload rfl (by decide) h1 h2 h3
theorem i155_88  : WP V 155 88 ls st t I L R Q = WP V 155 89 ls (.int (nI 1) :: st) t I L R Q := wp_go rfl
theorem i155_89 {x y : Int32} : WP V 155 89 ls (.int y :: .int x :: st) t I L R Q = if x = y then WP V 155 90 ls st t I L R Q else WP V 155 138 ls st t I L R Q := wp_brn (c := m_cc .ne x y) rfl rfl
theorem i155_90 {w1 w2 w3 w4 w5 w6 w7 w8 : Value} {x : Nat} : WP V 155 90 [.ref x, w1, w2, w3, w4, w5, w6, w7, w8] st t I L R Q = WP V 155 91 [.ref x, w1, w2, w3, w4, w5, w6, w7, w8] (.ref x :: st) t I L R Q := wp_go rfl
theorem i155_91 {k : Nat} (h1 : k < t) (h2 : m_ob k 8 = true) : WP V 155 91 ls (.ref k :: st) t I L R Q = WP V 155 92 ls (m_rv (R k 0) :: st) t I L R Q := wp_getR rfl (by decide) h1 h2
theorem i155_92 {w0 w1 w2 w4 w5 w6 w7 w8 : Value} {x : Int32} : WP V 155 92 [w0, w1, w2, .int x, w4, w5, w6, w7, w8] st t I L R Q = WP V 155 93 [w0, w1, w2, .int x, w4, w5, w6, w7, w8] (.int x :: st) t I L R Q := wp_go rfl
theorem i155_93  : WP V 155 93 ls st t I L R Q = WP V 155 94 ls (.int (nI 102) :: st) t I L R Q := wp_go rfl
theorem i155_94 {x y : Int32} : WP V 155 94 ls (.int y :: .int x :: st) t I L R Q = WP V 155 95 ls (.int (x + y) :: st) t I L R Q := wp_go rfl
theorem i155_95 {k j : Nat} (h2 : m_ar k 2 612 = true) (h1 : k < t) (h3 : j < 612) : WP V 155 95 ls (.int (nI j) :: .ref k :: st) t I L R Q = WP V 155 96 ls (.int (I k j) :: st) t I L R Q := wp_iaload rfl (by decide) h1 h2 h3
theorem i155_96  : WP V 155 96 ls st t I L R Q = WP V 155 97 ls (.int (nI 3) :: st) t I L R Q := wp_go rfl
theorem i155_97 {x y : Int32} : WP V 155 97 ls (.int y :: .int x :: st) t I L R Q = if x = y then WP V 155 98 ls st t I L R Q else WP V 155 102 ls st t I L R Q := wp_brn (c := m_cc .ne x y) rfl rfl
theorem i155_98 {w1 w2 w3 w4 w5 w6 w7 w8 : Value} {x : Nat} : WP V 155 98 [.ref x, w1, w2, w3, w4, w5, w6, w7, w8] st t I L R Q = WP V 155 99 [.ref x, w1, w2, w3, w4, w5, w6, w7, w8] (.ref x :: st) t I L R Q := wp_go rfl
theorem i155_99 {w0 w2 w3 w4 w5 w6 w7 w8 : Value} {x : Int32} : WP V 155 99 [w0, .int x, w2, w3, w4, w5, w6, w7, w8] st t I L R Q = WP V 155 100 [w0, .int x, w2, w3, w4, w5, w6, w7, w8] (.int x :: st) t I L R Q := wp_go rfl
theorem i155_100 {x0 : Int32} {x1 : Nat}  (h1 : x1 < t) (h2 : m_ob x1 8 = true) : WP V 155 100 ls [.int x0, .ref x1] t I L R Q = WPC V 143 [.ref x1, .int x0] 155 101 ls [] t I L R Q := wp_cls (wp_icv rfl rfl h1 h2) (by decide) (Nat.le_of_ble_eq_true rfl) rfl rfl (Nat.le_of_ble_eq_true rfl) (Nat.le_of_ble_eq_true rfl)
theorem i155_101  : WP V 155 101 ls st t I L R Q = WP V 155 154 ls st t I L R Q := wp_go rfl
theorem i155_102 {w1 w2 w3 w4 w5 w6 w7 w8 : Value} {x : Nat} : WP V 155 102 [.ref x, w1, w2, w3, w4, w5, w6, w7, w8] st t I L R Q = WP V 155 103 [.ref x, w1, w2, w3, w4, w5, w6, w7, w8] (.ref x :: st) t I L R Q := wp_go rfl
theorem i155_103 {w0 w2 w3 w4 w5 w6 w7 w8 : Value} {x : Int32} : WP V 155 103 [w0, .int x, w2, w3, w4, w5, w6, w7, w8] st t I L R Q = WP V 155 104 [w0, .int x, w2, w3, w4, w5, w6, w7, w8] (.int x :: st) t I L R Q := wp_go rfl
theorem i155_104 {x0 : Int32} {x1 : Nat}  (h1 : x1 < t) (h2 : m_ob x1 8 = true) : WP V 155 104 ls [.int x0, .ref x1] t I L R Q = WPC V 140 [.ref x1, .int x0] 155 105 ls [] t I L R Q := wp_cls (wp_icv rfl rfl h1 h2) (by decide) (Nat.le_of_ble_eq_true rfl) rfl rfl (Nat.le_of_ble_eq_true rfl) (Nat.le_of_ble_eq_true rfl)
theorem i155_105 {x : Int32} : WP V 155 105 ls (.int x :: st) t I L R Q = if x = nI 0 then WP V 155 111 ls st t I L R Q else WP V 155 106 ls st t I L R Q := wp_br (c := m_cc .eq x 0) rfl rfl
theorem i155_106 {w1 w2 w3 w4 w5 w6 w7 w8 : Value} {x : Nat} : WP V 155 106 [.ref x, w1, w2, w3, w4, w5, w6, w7, w8] st t I L R Q = WP V 155 107 [.ref x, w1, w2, w3, w4, w5, w6, w7, w8] (.ref x :: st) t I L R Q := wp_go rfl
theorem i155_107 {w0 w2 w3 w4 w5 w6 w7 w8 : Value} {x : Int32} : WP V 155 107 [w0, .int x, w2, w3, w4, w5, w6, w7, w8] st t I L R Q = WP V 155 108 [w0, .int x, w2, w3, w4, w5, w6, w7, w8] (.int x :: st) t I L R Q := wp_go rfl
theorem i155_108 {x0 : Int32} {x1 : Nat}  (h1 : x1 < t) (h2 : m_ob x1 8 = true) : WP V 155 108 ls [.int x0, .ref x1] t I L R Q = WPC V 142 [.ref x1, .int x0] 155 109 ls [] t I L R Q := wp_cls (wp_icv rfl rfl h1 h2) (by decide) (Nat.le_of_ble_eq_true rfl) rfl rfl (Nat.le_of_ble_eq_true rfl) (Nat.le_of_ble_eq_true rfl)
theorem i155_109  : WP V 155 109 ls st t I L R Q = WP V 155 110 ls (.int (nI 2) :: st) t I L R Q := wp_go rfl
theorem i155_110 {x : Int32} : WP V 155 110 ls [.int x] t I L R Q = Q (some (.int x)) t I L R := wp_rti rfl rfl
theorem i155_111  : WP V 155 111 ls st t I L R Q = WP V 155 112 ls (.int (nI 0) :: st) t I L R Q := wp_go rfl
theorem i155_112 {p : Int32} {w0 w1 w2 w3 w4 w6 w7 w8 : Value} {x : Int32} : WP V 155 112 [w0, w1, w2, w3, w4, .int p, w6, w7, w8] (.int x :: st) t I L R Q = WP V 155 113 [w0, w1, w2, w3, w4, .int p, .int x, w7, w8] st t I L R Q := wp_go rfl
theorem i155_113 {w0 w1 w2 w3 w4 w5 w7 w8 : Value} {x : Int32} : WP V 155 113 [w0, w1, w2, w3, w4, w5, .int x, w7, w8] st t I L R Q = WP V 155 114 [w0, w1, w2, w3, w4, w5, .int x, w7, w8] (.int x :: st) t I L R Q := wp_go rfl
theorem i155_114  : WP V 155 114 ls st t I L R Q = WP V 155 115 ls (.int (nI 4) :: st) t I L R Q := wp_go rfl
theorem i155_115 {x y : Int32} : WP V 155 115 ls (.int y :: .int x :: st) t I L R Q = if y ≤ x then WP V 155 134 ls st t I L R Q else WP V 155 116 ls st t I L R Q := wp_br (c := m_cc .ge x y) rfl rfl
theorem i155_116 {w1 w2 w3 w4 w5 w6 w7 w8 : Value} {x : Nat} : WP V 155 116 [.ref x, w1, w2, w3, w4, w5, w6, w7, w8] st t I L R Q = WP V 155 117 [.ref x, w1, w2, w3, w4, w5, w6, w7, w8] (.ref x :: st) t I L R Q := wp_go rfl
theorem i155_117 {k : Nat} (h1 : k < t) (h2 : m_ob k 8 = true) : WP V 155 117 ls (.ref k :: st) t I L R Q = WP V 155 118 ls (m_rv (R k 0) :: st) t I L R Q := wp_getR rfl (by decide) h1 h2
theorem i155_118 {w0 w1 w2 w4 w5 w6 w7 w8 : Value} {x : Int32} : WP V 155 118 [w0, w1, w2, .int x, w4, w5, w6, w7, w8] st t I L R Q = WP V 155 119 [w0, w1, w2, .int x, w4, w5, w6, w7, w8] (.int x :: st) t I L R Q := wp_go rfl
theorem i155_119  : WP V 155 119 ls st t I L R Q = WP V 155 120 ls (.int (nI 3) :: st) t I L R Q := wp_go rfl
theorem i155_120 {x y : Int32} : WP V 155 120 ls (.int y :: .int x :: st) t I L R Q = WP V 155 121 ls (.int (x + y) :: st) t I L R Q := wp_go rfl
theorem i155_121 {w0 w1 w2 w3 w4 w5 w7 w8 : Value} {x : Int32} : WP V 155 121 [w0, w1, w2, w3, w4, w5, .int x, w7, w8] st t I L R Q = WP V 155 122 [w0, w1, w2, w3, w4, w5, .int x, w7, w8] (.int x :: st) t I L R Q := wp_go rfl
theorem i155_122 {x y : Int32} : WP V 155 122 ls (.int y :: .int x :: st) t I L R Q = WP V 155 123 ls (.int (x + y) :: st) t I L R Q := wp_go rfl
theorem i155_123 {w1 w2 w3 w4 w5 w6 w7 w8 : Value} {x : Nat} : WP V 155 123 [.ref x, w1, w2, w3, w4, w5, w6, w7, w8] st t I L R Q = WP V 155 124 [.ref x, w1, w2, w3, w4, w5, w6, w7, w8] (.ref x :: st) t I L R Q := wp_go rfl
theorem i155_124 {k : Nat} (h1 : k < t) (h2 : m_ob k 8 = true) : WP V 155 124 ls (.ref k :: st) t I L R Q = WP V 155 125 ls (m_rv (R k 0) :: st) t I L R Q := wp_getR rfl (by decide) h1 h2
theorem i155_125 {w0 w1 w2 w4 w5 w6 w7 w8 : Value} {x : Int32} : WP V 155 125 [w0, w1, w2, .int x, w4, w5, w6, w7, w8] st t I L R Q = WP V 155 126 [w0, w1, w2, .int x, w4, w5, w6, w7, w8] (.int x :: st) t I L R Q := wp_go rfl
theorem i155_126  : WP V 155 126 ls st t I L R Q = WP V 155 127 ls (.int (nI 106) :: st) t I L R Q := wp_go rfl
theorem i155_127 {x y : Int32} : WP V 155 127 ls (.int y :: .int x :: st) t I L R Q = WP V 155 128 ls (.int (x + y) :: st) t I L R Q := wp_go rfl
theorem i155_128 {w0 w1 w2 w3 w4 w5 w7 w8 : Value} {x : Int32} : WP V 155 128 [w0, w1, w2, w3, w4, w5, .int x, w7, w8] st t I L R Q = WP V 155 129 [w0, w1, w2, w3, w4, w5, .int x, w7, w8] (.int x :: st) t I L R Q := wp_go rfl
theorem i155_129 {x y : Int32} : WP V 155 129 ls (.int y :: .int x :: st) t I L R Q = WP V 155 130 ls (.int (x + y) :: st) t I L R Q := wp_go rfl
theorem i155_130 {k j : Nat} (h2 : m_ar k 2 612 = true) (h1 : k < t) (h3 : j < 612) : WP V 155 130 ls (.int (nI j) :: .ref k :: st) t I L R Q = WP V 155 131 ls (.int (I k j) :: st) t I L R Q := wp_iaload rfl (by decide) h1 h2 h3
theorem i155_131 {k j : Nat} {x : Int32} (h2 : m_ar k 2 612 = true) (h1 : k < t) (h3 : j < 612) : WP V 155 131 ls (.int x :: .int (nI j) :: .ref k :: st) t I L R Q = WP V 155 132 ls st t (m_sc I k (m_sc (I k) j x)) L R Q := wp_iastore rfl (by decide) h1 h2 h3
theorem i155_132 {p : Int32} {w0 w1 w2 w3 w4 w7 w8 : Value} {x : Int32} : WP V 155 132 [w0, w1, w2, w3, w4, .int p, .int x, w7, w8] st t I L R Q = WP V 155 133 [w0, w1, w2, w3, w4, .int p, .int (x + (nI 1)), w7, w8] st t I L R Q := wp_go rfl
theorem i155_133  : WP V 155 133 ls st t I L R Q = WP V 155 113 ls st t I L R Q := wp_go rfl
theorem i155_134 {w1 w2 w3 w4 w5 w6 w7 w8 : Value} {x : Nat} : WP V 155 134 [.ref x, w1, w2, w3, w4, w5, w6, w7, w8] st t I L R Q = WP V 155 135 [.ref x, w1, w2, w3, w4, w5, w6, w7, w8] (.ref x :: st) t I L R Q := wp_go rfl
theorem i155_135 {w0 w2 w3 w4 w5 w6 w7 w8 : Value} {x : Int32} : WP V 155 135 [w0, .int x, w2, w3, w4, w5, w6, w7, w8] st t I L R Q = WP V 155 136 [w0, .int x, w2, w3, w4, w5, w6, w7, w8] (.int x :: st) t I L R Q := wp_go rfl
theorem i155_136 {x0 : Int32} {x1 : Nat}  (h1 : x1 < t) (h2 : m_ob x1 8 = true) : WP V 155 136 ls [.int x0, .ref x1] t I L R Q = WPC V 144 [.ref x1, .int x0] 155 137 ls [] t I L R Q := wp_cls (wp_icv rfl rfl h1 h2) (by decide) (Nat.le_of_ble_eq_true rfl) rfl rfl (Nat.le_of_ble_eq_true rfl) (Nat.le_of_ble_eq_true rfl)
theorem i155_137  : WP V 155 137 ls st t I L R Q = WP V 155 154 ls st t I L R Q := wp_go rfl
theorem i155_138 {w1 w2 w3 w4 w5 w6 w7 w8 : Value} {x : Nat} : WP V 155 138 [.ref x, w1, w2, w3, w4, w5, w6, w7, w8] st t I L R Q = WP V 155 139 [.ref x, w1, w2, w3, w4, w5, w6, w7, w8] (.ref x :: st) t I L R Q := wp_go rfl
theorem i155_139 {k : Nat} (h1 : k < t) (h2 : m_ob k 8 = true) : WP V 155 139 ls (.ref k :: st) t I L R Q = WP V 155 140 ls (m_rv (R k 0) :: st) t I L R Q := wp_getR rfl (by decide) h1 h2
theorem i155_140 {w0 w1 w2 w4 w5 w6 w7 w8 : Value} {x : Int32} : WP V 155 140 [w0, w1, w2, .int x, w4, w5, w6, w7, w8] st t I L R Q = WP V 155 141 [w0, w1, w2, .int x, w4, w5, w6, w7, w8] (.int x :: st) t I L R Q := wp_go rfl
theorem i155_141  : WP V 155 141 ls st t I L R Q = WP V 155 142 ls (.int (nI 0) :: st) t I L R Q := wp_go rfl
theorem i155_142 {x y : Int32} : WP V 155 142 ls (.int y :: .int x :: st) t I L R Q = WP V 155 143 ls (.int (x + y) :: st) t I L R Q := wp_go rfl
theorem i155_143  : WP V 155 143 ls st t I L R Q = WP V 155 144 ls (.int (nI 3) :: st) t I L R Q := wp_go rfl
theorem i155_144 {k j : Nat} {x : Int32} (h2 : m_ar k 2 612 = true) (h1 : k < t) (h3 : j < 612) : WP V 155 144 ls (.int x :: .int (nI j) :: .ref k :: st) t I L R Q = WP V 155 145 ls st t (m_sc I k (m_sc (I k) j x)) L R Q := wp_iastore rfl (by decide) h1 h2 h3
theorem i155_145 {w1 w2 w3 w4 w5 w6 w7 w8 : Value} {x : Nat} : WP V 155 145 [.ref x, w1, w2, w3, w4, w5, w6, w7, w8] st t I L R Q = WP V 155 146 [.ref x, w1, w2, w3, w4, w5, w6, w7, w8] (.ref x :: st) t I L R Q := wp_go rfl
theorem i155_146 {k : Nat} (h1 : k < t) (h2 : m_ob k 8 = true) : WP V 155 146 ls (.ref k :: st) t I L R Q = WP V 155 147 ls (m_rv (R k 0) :: st) t I L R Q := wp_getR rfl (by decide) h1 h2
theorem i155_147 {w0 w1 w2 w4 w5 w6 w7 w8 : Value} {x : Int32} : WP V 155 147 [w0, w1, w2, .int x, w4, w5, w6, w7, w8] st t I L R Q = WP V 155 148 [w0, w1, w2, .int x, w4, w5, w6, w7, w8] (.int x :: st) t I L R Q := wp_go rfl
theorem i155_148  : WP V 155 148 ls st t I L R Q = WP V 155 149 ls (.int (nI 2) :: st) t I L R Q := wp_go rfl
theorem i155_149 {x y : Int32} : WP V 155 149 ls (.int y :: .int x :: st) t I L R Q = WP V 155 150 ls (.int (x + y) :: st) t I L R Q := wp_go rfl
theorem i155_150 {w0 w1 w3 w4 w5 w6 w7 w8 : Value} {x : Int32} : WP V 155 150 [w0, w1, .int x, w3, w4, w5, w6, w7, w8] st t I L R Q = WP V 155 151 [w0, w1, .int x, w3, w4, w5, w6, w7, w8] (.int x :: st) t I L R Q := wp_go rfl
theorem i155_151 {k j : Nat} {x : Int32} (h2 : m_ar k 2 612 = true) (h1 : k < t) (h3 : j < 612) : WP V 155 151 ls (.int x :: .int (nI j) :: .ref k :: st) t I L R Q = WP V 155 152 ls st t (m_sc I k (m_sc (I k) j x)) L R Q := wp_iastore rfl (by decide) h1 h2 h3
theorem i155_152  : WP V 155 152 ls st t I L R Q = WP V 155 153 ls (.int (nI 3) :: st) t I L R Q := wp_go rfl
theorem i155_153 {x : Int32} : WP V 155 153 ls [.int x] t I L R Q = Q (some (.int x)) t I L R := wp_rti rfl rfl
theorem i155_154  : WP V 155 154 ls st t I L R Q = WP V 155 3 ls st t I L R Q := wp_go rfl
-- TransactionCellsModel.pushes(III)Z
theorem i156_0 {w0 w2 w3 w4 w5 w6 w7 : Value} {x : Int32} : WP V 156 0 [w0, .int x, w2, w3, w4, w5, w6, w7] st t I L R Q = WP V 156 1 [w0, .int x, w2, w3, w4, w5, w6, w7] (.int x :: st) t I L R Q := wp_go rfl
theorem i156_1 {x0 : Int32}  : WP V 156 1 ls [.int x0] t I L R Q = WPC V 113 [.int x0] 156 2 ls [] t I L R Q := wp_cls (wp_ics rfl (by decide)) (by decide) (Nat.le_of_ble_eq_true rfl) rfl rfl (Nat.le_of_ble_eq_true rfl) (Nat.le_of_ble_eq_true rfl)
theorem i156_2 {p : Int32} {w0 w1 w2 w4 w5 w6 w7 : Value} {x : Int32} : WP V 156 2 [w0, w1, w2, .int p, w4, w5, w6, w7] (.int x :: st) t I L R Q = WP V 156 3 [w0, w1, w2, .int p, .int x, w5, w6, w7] st t I L R Q := wp_go rfl
theorem i156_3 {w1 w2 w3 w4 w5 w6 w7 : Value} {x : Nat} : WP V 156 3 [.ref x, w1, w2, w3, w4, w5, w6, w7] st t I L R Q = WP V 156 4 [.ref x, w1, w2, w3, w4, w5, w6, w7] (.ref x :: st) t I L R Q := wp_go rfl
theorem i156_4 {k : Nat} (h1 : k < t) (h2 : m_ob k 8 = true) : WP V 156 4 ls (.ref k :: st) t I L R Q = WP V 156 5 ls (m_rv (R k 0) :: st) t I L R Q := wp_getR rfl (by decide) h1 h2
theorem i156_5 {w0 w1 w2 w3 w5 w6 w7 : Value} {x : Int32} : WP V 156 5 [w0, w1, w2, w3, .int x, w5, w6, w7] st t I L R Q = WP V 156 6 [w0, w1, w2, w3, .int x, w5, w6, w7] (.int x :: st) t I L R Q := wp_go rfl
theorem i156_6  : WP V 156 6 ls st t I L R Q = WP V 156 7 ls (.int (nI 8) :: st) t I L R Q := wp_go rfl
theorem i156_7 {x y : Int32} : WP V 156 7 ls (.int y :: .int x :: st) t I L R Q = WP V 156 8 ls (.int (x + y) :: st) t I L R Q := wp_go rfl
theorem i156_8 {k j : Nat} (h2 : m_ar k 2 612 = true) (h1 : k < t) (h3 : j < 612) : WP V 156 8 ls (.int (nI j) :: .ref k :: st) t I L R Q = WP V 156 9 ls (.int (I k j) :: st) t I L R Q := wp_iaload rfl (by decide) h1 h2 h3
theorem i156_9 {p : Int32} {w0 w1 w2 w3 w5 w6 w7 : Value} {x : Int32} : WP V 156 9 [w0, w1, w2, w3, .int p, w5, w6, w7] (.int x :: st) t I L R Q = WP V 156 10 [w0, w1, w2, w3, .int p, .int x, w6, w7] st t I L R Q := wp_go rfl
theorem i156_10 {w0 w1 w2 w3 w4 w6 w7 : Value} {x : Int32} : WP V 156 10 [w0, w1, w2, w3, w4, .int x, w6, w7] st t I L R Q = WP V 156 11 [w0, w1, w2, w3, w4, .int x, w6, w7] (.int x :: st) t I L R Q := wp_go rfl
theorem i156_11  : WP V 156 11 ls st t I L R Q = WP V 156 12 ls (.int (nI 4) :: st) t I L R Q := wp_go rfl
theorem i156_12 {x y : Int32} : WP V 156 12 ls (.int y :: .int x :: st) t I L R Q = if x = y then WP V 156 13 ls st t I L R Q else WP V 156 15 ls st t I L R Q := wp_brn (c := m_cc .ne x y) rfl rfl
theorem i156_13  : WP V 156 13 ls st t I L R Q = WP V 156 14 ls (.int (nI 0) :: st) t I L R Q := wp_go rfl
theorem i156_14 {x : Int32} (h : m_01 x = true) : WP V 156 14 ls [.int x] t I L R Q = Q (some (.int x)) t I L R := wp_rtz rfl rfl h
theorem i156_15 {w0 w1 w2 w3 w5 w6 w7 : Value} {x : Int32} : WP V 156 15 [w0, w1, w2, w3, .int x, w5, w6, w7] st t I L R Q = WP V 156 16 [w0, w1, w2, w3, .int x, w5, w6, w7] (.int x :: st) t I L R Q := wp_go rfl
theorem i156_16  : WP V 156 16 ls st t I L R Q = WP V 156 17 ls (.int (nI 9) :: st) t I L R Q := wp_go rfl
theorem i156_17 {x y : Int32} : WP V 156 17 ls (.int y :: .int x :: st) t I L R Q = WP V 156 18 ls (.int (x + y) :: st) t I L R Q := wp_go rfl
theorem i156_18  : WP V 156 18 ls st t I L R Q = WP V 156 19 ls (.int (nI 23) :: st) t I L R Q := wp_go rfl
theorem i156_19 {w0 w1 w2 w3 w4 w6 w7 : Value} {x : Int32} : WP V 156 19 [w0, w1, w2, w3, w4, .int x, w6, w7] st t I L R Q = WP V 156 20 [w0, w1, w2, w3, w4, .int x, w6, w7] (.int x :: st) t I L R Q := wp_go rfl
theorem i156_20 {x y : Int32} : WP V 156 20 ls (.int y :: .int x :: st) t I L R Q = WP V 156 21 ls (.int (x * y) :: st) t I L R Q := wp_go rfl
theorem i156_21 {x y : Int32} : WP V 156 21 ls (.int y :: .int x :: st) t I L R Q = WP V 156 22 ls (.int (x + y) :: st) t I L R Q := wp_go rfl
theorem i156_22 {p : Int32} {w0 w1 w2 w3 w4 w6 w7 : Value} {x : Int32} : WP V 156 22 [w0, w1, w2, w3, w4, .int p, w6, w7] (.int x :: st) t I L R Q = WP V 156 23 [w0, w1, w2, w3, w4, .int p, .int x, w7] st t I L R Q := wp_go rfl
theorem i156_23 {w1 w2 w3 w4 w5 w6 w7 : Value} {x : Nat} : WP V 156 23 [.ref x, w1, w2, w3, w4, w5, w6, w7] st t I L R Q = WP V 156 24 [.ref x, w1, w2, w3, w4, w5, w6, w7] (.ref x :: st) t I L R Q := wp_go rfl
theorem i156_24 {k : Nat} (h1 : k < t) (h2 : m_ob k 8 = true) : WP V 156 24 ls (.ref k :: st) t I L R Q = WP V 156 25 ls (m_rv (R k 0) :: st) t I L R Q := wp_getR rfl (by decide) h1 h2
theorem i156_25 {w0 w1 w2 w3 w4 w5 w7 : Value} {x : Int32} : WP V 156 25 [w0, w1, w2, w3, w4, w5, .int x, w7] st t I L R Q = WP V 156 26 [w0, w1, w2, w3, w4, w5, .int x, w7] (.int x :: st) t I L R Q := wp_go rfl
theorem i156_26 {w0 w1 w3 w4 w5 w6 w7 : Value} {x : Int32} : WP V 156 26 [w0, w1, .int x, w3, w4, w5, w6, w7] st t I L R Q = WP V 156 27 [w0, w1, .int x, w3, w4, w5, w6, w7] (.int x :: st) t I L R Q := wp_go rfl
theorem i156_27 {k j : Nat} {x : Int32} (h2 : m_ar k 2 612 = true) (h1 : k < t) (h3 : j < 612) : WP V 156 27 ls (.int x :: .int (nI j) :: .ref k :: st) t I L R Q = WP V 156 28 ls st t (m_sc I k (m_sc (I k) j x)) L R Q := wp_iastore rfl (by decide) h1 h2 h3
theorem i156_28 {w1 w2 w3 w4 w5 w6 w7 : Value} {x : Nat} : WP V 156 28 [.ref x, w1, w2, w3, w4, w5, w6, w7] st t I L R Q = WP V 156 29 [.ref x, w1, w2, w3, w4, w5, w6, w7] (.ref x :: st) t I L R Q := wp_go rfl
theorem i156_29 {k : Nat} (h1 : k < t) (h2 : m_ob k 8 = true) : WP V 156 29 ls (.ref k :: st) t I L R Q = WP V 156 30 ls (m_rv (R k 0) :: st) t I L R Q := wp_getR rfl (by decide) h1 h2
theorem i156_30 {w0 w1 w2 w3 w4 w5 w7 : Value} {x : Int32} : WP V 156 30 [w0, w1, w2, w3, w4, w5, .int x, w7] st t I L R Q = WP V 156 31 [w0, w1, w2, w3, w4, w5, .int x, w7] (.int x :: st) t I L R Q := wp_go rfl
theorem i156_31  : WP V 156 31 ls st t I L R Q = WP V 156 32 ls (.int (nI 1) :: st) t I L R Q := wp_go rfl
theorem i156_32 {x y : Int32} : WP V 156 32 ls (.int y :: .int x :: st) t I L R Q = WP V 156 33 ls (.int (x + y) :: st) t I L R Q := wp_go rfl
theorem i156_33 {w0 w1 w2 w4 w5 w6 w7 : Value} {x : Int32} : WP V 156 33 [w0, w1, w2, .int x, w4, w5, w6, w7] st t I L R Q = WP V 156 34 [w0, w1, w2, .int x, w4, w5, w6, w7] (.int x :: st) t I L R Q := wp_go rfl
theorem i156_34 {k j : Nat} {x : Int32} (h2 : m_ar k 2 612 = true) (h1 : k < t) (h3 : j < 612) : WP V 156 34 ls (.int x :: .int (nI j) :: .ref k :: st) t I L R Q = WP V 156 35 ls st t (m_sc I k (m_sc (I k) j x)) L R Q := wp_iastore rfl (by decide) h1 h2 h3
theorem i156_35 {w1 w2 w3 w4 w5 w6 w7 : Value} {x : Nat} : WP V 156 35 [.ref x, w1, w2, w3, w4, w5, w6, w7] st t I L R Q = WP V 156 36 [.ref x, w1, w2, w3, w4, w5, w6, w7] (.ref x :: st) t I L R Q := wp_go rfl
theorem i156_36 {k : Nat} (h1 : k < t) (h2 : m_ob k 8 = true) : WP V 156 36 ls (.ref k :: st) t I L R Q = WP V 156 37 ls (m_rv (R k 0) :: st) t I L R Q := wp_getR rfl (by decide) h1 h2
theorem i156_37 {w0 w1 w2 w3 w4 w5 w7 : Value} {x : Int32} : WP V 156 37 [w0, w1, w2, w3, w4, w5, .int x, w7] st t I L R Q = WP V 156 38 [w0, w1, w2, w3, w4, w5, .int x, w7] (.int x :: st) t I L R Q := wp_go rfl
theorem i156_38  : WP V 156 38 ls st t I L R Q = WP V 156 39 ls (.int (nI 2) :: st) t I L R Q := wp_go rfl
theorem i156_39 {x y : Int32} : WP V 156 39 ls (.int y :: .int x :: st) t I L R Q = WP V 156 40 ls (.int (x + y) :: st) t I L R Q := wp_go rfl
theorem i156_40 {w1 w2 w3 w4 w5 w6 w7 : Value} {x : Nat} : WP V 156 40 [.ref x, w1, w2, w3, w4, w5, w6, w7] st t I L R Q = WP V 156 41 [.ref x, w1, w2, w3, w4, w5, w6, w7] (.ref x :: st) t I L R Q := wp_go rfl
theorem i156_41 {k : Nat} (h1 : k < t) (h2 : m_ob k 8 = true) : WP V 156 41 ls (.ref k :: st) t I L R Q = WP V 156 42 ls (m_rv (R k 0) :: st) t I L R Q := wp_getR rfl (by decide) h1 h2
theorem i156_42 {w0 w1 w2 w3 w5 w6 w7 : Value} {x : Int32} : WP V 156 42 [w0, w1, w2, w3, .int x, w5, w6, w7] st t I L R Q = WP V 156 43 [w0, w1, w2, w3, .int x, w5, w6, w7] (.int x :: st) t I L R Q := wp_go rfl
theorem i156_43  : WP V 156 43 ls st t I L R Q = WP V 156 44 ls (.int (nI 101) :: st) t I L R Q := wp_go rfl
theorem i156_44 {x y : Int32} : WP V 156 44 ls (.int y :: .int x :: st) t I L R Q = WP V 156 45 ls (.int (x + y) :: st) t I L R Q := wp_go rfl
theorem i156_45 {k j : Nat} (h2 : m_ar k 2 612 = true) (h1 : k < t) (h3 : j < 612) : WP V 156 45 ls (.int (nI j) :: .ref k :: st) t I L R Q = WP V 156 46 ls (.int (I k j) :: st) t I L R Q := wp_iaload rfl (by decide) h1 h2 h3
theorem i156_46 {k j : Nat} {x : Int32} (h2 : m_ar k 2 612 = true) (h1 : k < t) (h3 : j < 612) : WP V 156 46 ls (.int x :: .int (nI j) :: .ref k :: st) t I L R Q = WP V 156 47 ls st t (m_sc I k (m_sc (I k) j x)) L R Q := wp_iastore rfl (by decide) h1 h2 h3
theorem i156_47 {w0 w1 w3 w4 w5 w6 w7 : Value} {x : Int32} : WP V 156 47 [w0, w1, .int x, w3, w4, w5, w6, w7] st t I L R Q = WP V 156 48 [w0, w1, .int x, w3, w4, w5, w6, w7] (.int x :: st) t I L R Q := wp_go rfl
theorem i156_48  : WP V 156 48 ls st t I L R Q = WP V 156 49 ls (.int (nI 2) :: st) t I L R Q := wp_go rfl
theorem i156_49 {x y : Int32} : WP V 156 49 ls (.int y :: .int x :: st) t I L R Q = if x = y then WP V 156 96 ls st t I L R Q else WP V 156 50 ls st t I L R Q := wp_br (c := m_cc .eq x y) rfl rfl
theorem i156_50  : WP V 156 50 ls st t I L R Q = WP V 156 51 ls (.int (nI 0) :: st) t I L R Q := wp_go rfl
theorem i156_51 {p : Int32} {w0 w1 w2 w3 w4 w5 w7 : Value} {x : Int32} : WP V 156 51 [w0, w1, w2, w3, w4, w5, .int p, w7] (.int x :: st) t I L R Q = WP V 156 52 [w0, w1, w2, w3, w4, w5, .int p, .int x] st t I L R Q := wp_go rfl
theorem i156_52 {w0 w1 w2 w3 w4 w5 w6 : Value} {x : Int32} : WP V 156 52 [w0, w1, w2, w3, w4, w5, w6, .int x] st t I L R Q = WP V 156 53 [w0, w1, w2, w3, w4, w5, w6, .int x] (.int x :: st) t I L R Q := wp_go rfl
theorem i156_53  : WP V 156 53 ls st t I L R Q = WP V 156 54 ls (.int (nI 4) :: st) t I L R Q := wp_go rfl
theorem i156_54 {x y : Int32} : WP V 156 54 ls (.int y :: .int x :: st) t I L R Q = if y ≤ x then WP V 156 73 ls st t I L R Q else WP V 156 55 ls st t I L R Q := wp_br (c := m_cc .ge x y) rfl rfl
theorem i156_55 {w1 w2 w3 w4 w5 w6 w7 : Value} {x : Nat} : WP V 156 55 [.ref x, w1, w2, w3, w4, w5, w6, w7] st t I L R Q = WP V 156 56 [.ref x, w1, w2, w3, w4, w5, w6, w7] (.ref x :: st) t I L R Q := wp_go rfl
theorem i156_56 {k : Nat} (h1 : k < t) (h2 : m_ob k 8 = true) : WP V 156 56 ls (.ref k :: st) t I L R Q = WP V 156 57 ls (m_rv (R k 0) :: st) t I L R Q := wp_getR rfl (by decide) h1 h2
theorem i156_57 {w0 w1 w2 w3 w4 w5 w7 : Value} {x : Int32} : WP V 156 57 [w0, w1, w2, w3, w4, w5, .int x, w7] st t I L R Q = WP V 156 58 [w0, w1, w2, w3, w4, w5, .int x, w7] (.int x :: st) t I L R Q := wp_go rfl
theorem i156_58  : WP V 156 58 ls st t I L R Q = WP V 156 59 ls (.int (nI 3) :: st) t I L R Q := wp_go rfl
theorem i156_59 {x y : Int32} : WP V 156 59 ls (.int y :: .int x :: st) t I L R Q = WP V 156 60 ls (.int (x + y) :: st) t I L R Q := wp_go rfl
theorem i156_60 {w0 w1 w2 w3 w4 w5 w6 : Value} {x : Int32} : WP V 156 60 [w0, w1, w2, w3, w4, w5, w6, .int x] st t I L R Q = WP V 156 61 [w0, w1, w2, w3, w4, w5, w6, .int x] (.int x :: st) t I L R Q := wp_go rfl
theorem i156_61 {x y : Int32} : WP V 156 61 ls (.int y :: .int x :: st) t I L R Q = WP V 156 62 ls (.int (x + y) :: st) t I L R Q := wp_go rfl
theorem i156_62 {w1 w2 w3 w4 w5 w6 w7 : Value} {x : Nat} : WP V 156 62 [.ref x, w1, w2, w3, w4, w5, w6, w7] st t I L R Q = WP V 156 63 [.ref x, w1, w2, w3, w4, w5, w6, w7] (.ref x :: st) t I L R Q := wp_go rfl
theorem i156_63 {k : Nat} (h1 : k < t) (h2 : m_ob k 8 = true) : WP V 156 63 ls (.ref k :: st) t I L R Q = WP V 156 64 ls (m_rv (R k 0) :: st) t I L R Q := wp_getR rfl (by decide) h1 h2
theorem i156_64 {w0 w1 w2 w3 w5 w6 w7 : Value} {x : Int32} : WP V 156 64 [w0, w1, w2, w3, .int x, w5, w6, w7] st t I L R Q = WP V 156 65 [w0, w1, w2, w3, .int x, w5, w6, w7] (.int x :: st) t I L R Q := wp_go rfl
theorem i156_65  : WP V 156 65 ls st t I L R Q = WP V 156 66 ls (.int (nI 3) :: st) t I L R Q := wp_go rfl
theorem i156_66 {x y : Int32} : WP V 156 66 ls (.int y :: .int x :: st) t I L R Q = WP V 156 67 ls (.int (x + y) :: st) t I L R Q := wp_go rfl
theorem i156_67 {w0 w1 w2 w3 w4 w5 w6 : Value} {x : Int32} : WP V 156 67 [w0, w1, w2, w3, w4, w5, w6, .int x] st t I L R Q = WP V 156 68 [w0, w1, w2, w3, w4, w5, w6, .int x] (.int x :: st) t I L R Q := wp_go rfl
theorem i156_68 {x y : Int32} : WP V 156 68 ls (.int y :: .int x :: st) t I L R Q = WP V 156 69 ls (.int (x + y) :: st) t I L R Q := wp_go rfl
theorem i156_69 {k j : Nat} (h2 : m_ar k 2 612 = true) (h1 : k < t) (h3 : j < 612) : WP V 156 69 ls (.int (nI j) :: .ref k :: st) t I L R Q = WP V 156 70 ls (.int (I k j) :: st) t I L R Q := wp_iaload rfl (by decide) h1 h2 h3
theorem i156_70 {k j : Nat} {x : Int32} (h2 : m_ar k 2 612 = true) (h1 : k < t) (h3 : j < 612) : WP V 156 70 ls (.int x :: .int (nI j) :: .ref k :: st) t I L R Q = WP V 156 71 ls st t (m_sc I k (m_sc (I k) j x)) L R Q := wp_iastore rfl (by decide) h1 h2 h3
theorem i156_71 {p : Int32} {w0 w1 w2 w3 w4 w5 : Value} {x : Int32} : WP V 156 71 [w0, w1, w2, w3, w4, w5, .int p, .int x] st t I L R Q = WP V 156 72 [w0, w1, w2, w3, w4, w5, .int p, .int (x + (nI 1))] st t I L R Q := wp_go rfl
theorem i156_72  : WP V 156 72 ls st t I L R Q = WP V 156 52 ls st t I L R Q := wp_go rfl
theorem i156_73  : WP V 156 73 ls st t I L R Q = WP V 156 74 ls (.int (nI 0) :: st) t I L R Q := wp_go rfl
theorem i156_74 {p : Int32} {w0 w1 w2 w3 w4 w5 w7 : Value} {x : Int32} : WP V 156 74 [w0, w1, w2, w3, w4, w5, .int p, w7] (.int x :: st) t I L R Q = WP V 156 75 [w0, w1, w2, w3, w4, w5, .int p, .int x] st t I L R Q := wp_go rfl
theorem i156_75 {w0 w1 w2 w3 w4 w5 w6 : Value} {x : Int32} : WP V 156 75 [w0, w1, w2, w3, w4, w5, w6, .int x] st t I L R Q = WP V 156 76 [w0, w1, w2, w3, w4, w5, w6, .int x] (.int x :: st) t I L R Q := wp_go rfl
theorem i156_76  : WP V 156 76 ls st t I L R Q = WP V 156 77 ls (.int (nI 16) :: st) t I L R Q := wp_go rfl
theorem i156_77 {x y : Int32} : WP V 156 77 ls (.int y :: .int x :: st) t I L R Q = if y ≤ x then WP V 156 96 ls st t I L R Q else WP V 156 78 ls st t I L R Q := wp_br (c := m_cc .ge x y) rfl rfl
theorem i156_78 {w1 w2 w3 w4 w5 w6 w7 : Value} {x : Nat} : WP V 156 78 [.ref x, w1, w2, w3, w4, w5, w6, w7] st t I L R Q = WP V 156 79 [.ref x, w1, w2, w3, w4, w5, w6, w7] (.ref x :: st) t I L R Q := wp_go rfl
theorem i156_79 {k : Nat} (h1 : k < t) (h2 : m_ob k 8 = true) : WP V 156 79 ls (.ref k :: st) t I L R Q = WP V 156 80 ls (m_rv (R k 0) :: st) t I L R Q := wp_getR rfl (by decide) h1 h2
theorem i156_80 {w0 w1 w2 w3 w4 w5 w7 : Value} {x : Int32} : WP V 156 80 [w0, w1, w2, w3, w4, w5, .int x, w7] st t I L R Q = WP V 156 81 [w0, w1, w2, w3, w4, w5, .int x, w7] (.int x :: st) t I L R Q := wp_go rfl
theorem i156_81  : WP V 156 81 ls st t I L R Q = WP V 156 82 ls (.int (nI 7) :: st) t I L R Q := wp_go rfl
theorem i156_82 {x y : Int32} : WP V 156 82 ls (.int y :: .int x :: st) t I L R Q = WP V 156 83 ls (.int (x + y) :: st) t I L R Q := wp_go rfl
theorem i156_83 {w0 w1 w2 w3 w4 w5 w6 : Value} {x : Int32} : WP V 156 83 [w0, w1, w2, w3, w4, w5, w6, .int x] st t I L R Q = WP V 156 84 [w0, w1, w2, w3, w4, w5, w6, .int x] (.int x :: st) t I L R Q := wp_go rfl
theorem i156_84 {x y : Int32} : WP V 156 84 ls (.int y :: .int x :: st) t I L R Q = WP V 156 85 ls (.int (x + y) :: st) t I L R Q := wp_go rfl
theorem i156_85 {w1 w2 w3 w4 w5 w6 w7 : Value} {x : Nat} : WP V 156 85 [.ref x, w1, w2, w3, w4, w5, w6, w7] st t I L R Q = WP V 156 86 [.ref x, w1, w2, w3, w4, w5, w6, w7] (.ref x :: st) t I L R Q := wp_go rfl
theorem i156_86 {k : Nat} (h1 : k < t) (h2 : m_ob k 8 = true) : WP V 156 86 ls (.ref k :: st) t I L R Q = WP V 156 87 ls (m_rv (R k 0) :: st) t I L R Q := wp_getR rfl (by decide) h1 h2
theorem i156_87 {w0 w1 w2 w3 w5 w6 w7 : Value} {x : Int32} : WP V 156 87 [w0, w1, w2, w3, .int x, w5, w6, w7] st t I L R Q = WP V 156 88 [w0, w1, w2, w3, .int x, w5, w6, w7] (.int x :: st) t I L R Q := wp_go rfl
theorem i156_88  : WP V 156 88 ls st t I L R Q = WP V 156 89 ls (.int (nI 135) :: st) t I L R Q := wp_go rfl
theorem i156_89 {x y : Int32} : WP V 156 89 ls (.int y :: .int x :: st) t I L R Q = WP V 156 90 ls (.int (x + y) :: st) t I L R Q := wp_go rfl
theorem i156_90 {w0 w1 w2 w3 w4 w5 w6 : Value} {x : Int32} : WP V 156 90 [w0, w1, w2, w3, w4, w5, w6, .int x] st t I L R Q = WP V 156 91 [w0, w1, w2, w3, w4, w5, w6, .int x] (.int x :: st) t I L R Q := wp_go rfl
theorem i156_91 {x y : Int32} : WP V 156 91 ls (.int y :: .int x :: st) t I L R Q = WP V 156 92 ls (.int (x + y) :: st) t I L R Q := wp_go rfl
theorem i156_92 {k j : Nat} (h2 : m_ar k 2 612 = true) (h1 : k < t) (h3 : j < 612) : WP V 156 92 ls (.int (nI j) :: .ref k :: st) t I L R Q = WP V 156 93 ls (.int (I k j) :: st) t I L R Q := wp_iaload rfl (by decide) h1 h2 h3
theorem i156_93 {k j : Nat} {x : Int32} (h2 : m_ar k 2 612 = true) (h1 : k < t) (h3 : j < 612) : WP V 156 93 ls (.int x :: .int (nI j) :: .ref k :: st) t I L R Q = WP V 156 94 ls st t (m_sc I k (m_sc (I k) j x)) L R Q := wp_iastore rfl (by decide) h1 h2 h3
theorem i156_94 {p : Int32} {w0 w1 w2 w3 w4 w5 : Value} {x : Int32} : WP V 156 94 [w0, w1, w2, w3, w4, w5, .int p, .int x] st t I L R Q = WP V 156 95 [w0, w1, w2, w3, w4, w5, .int p, .int (x + (nI 1))] st t I L R Q := wp_go rfl
theorem i156_95  : WP V 156 95 ls st t I L R Q = WP V 156 75 ls st t I L R Q := wp_go rfl
theorem i156_96 {w1 w2 w3 w4 w5 w6 w7 : Value} {x : Nat} : WP V 156 96 [.ref x, w1, w2, w3, w4, w5, w6, w7] st t I L R Q = WP V 156 97 [.ref x, w1, w2, w3, w4, w5, w6, w7] (.ref x :: st) t I L R Q := wp_go rfl
theorem i156_97 {k : Nat} (h1 : k < t) (h2 : m_ob k 8 = true) : WP V 156 97 ls (.ref k :: st) t I L R Q = WP V 156 98 ls (m_rv (R k 0) :: st) t I L R Q := wp_getR rfl (by decide) h1 h2
theorem i156_98 {w0 w1 w2 w3 w5 w6 w7 : Value} {x : Int32} : WP V 156 98 [w0, w1, w2, w3, .int x, w5, w6, w7] st t I L R Q = WP V 156 99 [w0, w1, w2, w3, .int x, w5, w6, w7] (.int x :: st) t I L R Q := wp_go rfl
theorem i156_99  : WP V 156 99 ls st t I L R Q = WP V 156 100 ls (.int (nI 8) :: st) t I L R Q := wp_go rfl
theorem i156_100 {x y : Int32} : WP V 156 100 ls (.int y :: .int x :: st) t I L R Q = WP V 156 101 ls (.int (x + y) :: st) t I L R Q := wp_go rfl
theorem i156_101 {w0 w1 w2 w3 w4 w6 w7 : Value} {x : Int32} : WP V 156 101 [w0, w1, w2, w3, w4, .int x, w6, w7] st t I L R Q = WP V 156 102 [w0, w1, w2, w3, w4, .int x, w6, w7] (.int x :: st) t I L R Q := wp_go rfl
theorem i156_102  : WP V 156 102 ls st t I L R Q = WP V 156 103 ls (.int (nI 1) :: st) t I L R Q := wp_go rfl
theorem i156_103 {x y : Int32} : WP V 156 103 ls (.int y :: .int x :: st) t I L R Q = WP V 156 104 ls (.int (x + y) :: st) t I L R Q := wp_go rfl
theorem i156_104 {k j : Nat} {x : Int32} (h2 : m_ar k 2 612 = true) (h1 : k < t) (h3 : j < 612) : WP V 156 104 ls (.int x :: .int (nI j) :: .ref k :: st) t I L R Q = WP V 156 105 ls st t (m_sc I k (m_sc (I k) j x)) L R Q := wp_iastore rfl (by decide) h1 h2 h3
theorem i156_105  : WP V 156 105 ls st t I L R Q = WP V 156 106 ls (.int (nI 1) :: st) t I L R Q := wp_go rfl
theorem i156_106 {x : Int32} (h : m_01 x = true) : WP V 156 106 ls [.int x] t I L R Q = Q (some (.int x)) t I L R := wp_rtz rfl rfl h
-- TransactionCellsModel.pops(II)Z
theorem i157_0 {w0 w2 w3 w4 w5 : Value} {x : Int32} : WP V 157 0 [w0, .int x, w2, w3, w4, w5] st t I L R Q = WP V 157 1 [w0, .int x, w2, w3, w4, w5] (.int x :: st) t I L R Q := wp_go rfl
theorem i157_1 {x0 : Int32}  : WP V 157 1 ls [.int x0] t I L R Q = WPC V 113 [.int x0] 157 2 ls [] t I L R Q := wp_cls (wp_ics rfl (by decide)) (by decide) (Nat.le_of_ble_eq_true rfl) rfl rfl (Nat.le_of_ble_eq_true rfl) (Nat.le_of_ble_eq_true rfl)
theorem i157_2 {p : Int32} {w0 w1 w3 w4 w5 : Value} {x : Int32} : WP V 157 2 [w0, w1, .int p, w3, w4, w5] (.int x :: st) t I L R Q = WP V 157 3 [w0, w1, .int p, .int x, w4, w5] st t I L R Q := wp_go rfl
theorem i157_3 {w1 w2 w3 w4 w5 : Value} {x : Nat} : WP V 157 3 [.ref x, w1, w2, w3, w4, w5] st t I L R Q = WP V 157 4 [.ref x, w1, w2, w3, w4, w5] (.ref x :: st) t I L R Q := wp_go rfl
theorem i157_4 {k : Nat} (h1 : k < t) (h2 : m_ob k 8 = true) : WP V 157 4 ls (.ref k :: st) t I L R Q = WP V 157 5 ls (m_rv (R k 0) :: st) t I L R Q := wp_getR rfl (by decide) h1 h2
theorem i157_5 {w0 w1 w2 w4 w5 : Value} {x : Int32} : WP V 157 5 [w0, w1, w2, .int x, w4, w5] st t I L R Q = WP V 157 6 [w0, w1, w2, .int x, w4, w5] (.int x :: st) t I L R Q := wp_go rfl
theorem i157_6  : WP V 157 6 ls st t I L R Q = WP V 157 7 ls (.int (nI 8) :: st) t I L R Q := wp_go rfl
theorem i157_7 {x y : Int32} : WP V 157 7 ls (.int y :: .int x :: st) t I L R Q = WP V 157 8 ls (.int (x + y) :: st) t I L R Q := wp_go rfl
theorem i157_8 {k j : Nat} (h2 : m_ar k 2 612 = true) (h1 : k < t) (h3 : j < 612) : WP V 157 8 ls (.int (nI j) :: .ref k :: st) t I L R Q = WP V 157 9 ls (.int (I k j) :: st) t I L R Q := wp_iaload rfl (by decide) h1 h2 h3
theorem i157_9  : WP V 157 9 ls st t I L R Q = WP V 157 10 ls (.int (nI 1) :: st) t I L R Q := wp_go rfl
theorem i157_10 {x y : Int32} : WP V 157 10 ls (.int y :: .int x :: st) t I L R Q = WP V 157 11 ls (.int (x - y) :: st) t I L R Q := wp_go rfl
theorem i157_11 {p : Int32} {w0 w1 w2 w4 w5 : Value} {x : Int32} : WP V 157 11 [w0, w1, w2, .int p, w4, w5] (.int x :: st) t I L R Q = WP V 157 12 [w0, w1, w2, .int p, .int x, w5] st t I L R Q := wp_go rfl
theorem i157_12 {w1 w2 w3 w4 w5 : Value} {x : Nat} : WP V 157 12 [.ref x, w1, w2, w3, w4, w5] st t I L R Q = WP V 157 13 [.ref x, w1, w2, w3, w4, w5] (.ref x :: st) t I L R Q := wp_go rfl
theorem i157_13 {k : Nat} (h1 : k < t) (h2 : m_ob k 8 = true) : WP V 157 13 ls (.ref k :: st) t I L R Q = WP V 157 14 ls (m_rv (R k 0) :: st) t I L R Q := wp_getR rfl (by decide) h1 h2
theorem i157_14 {w0 w1 w2 w4 w5 : Value} {x : Int32} : WP V 157 14 [w0, w1, w2, .int x, w4, w5] st t I L R Q = WP V 157 15 [w0, w1, w2, .int x, w4, w5] (.int x :: st) t I L R Q := wp_go rfl
theorem i157_15  : WP V 157 15 ls st t I L R Q = WP V 157 16 ls (.int (nI 101) :: st) t I L R Q := wp_go rfl
theorem i157_16 {x y : Int32} : WP V 157 16 ls (.int y :: .int x :: st) t I L R Q = WP V 157 17 ls (.int (x + y) :: st) t I L R Q := wp_go rfl
theorem i157_17 {k j : Nat} (h2 : m_ar k 2 612 = true) (h1 : k < t) (h3 : j < 612) : WP V 157 17 ls (.int (nI j) :: .ref k :: st) t I L R Q = WP V 157 18 ls (.int (I k j) :: st) t I L R Q := wp_iaload rfl (by decide) h1 h2 h3
theorem i157_18  : WP V 157 18 ls st t I L R Q = WP V 157 19 ls (.int (nI 1) :: st) t I L R Q := wp_go rfl
theorem i157_19 {x y : Int32} : WP V 157 19 ls (.int y :: .int x :: st) t I L R Q = if x = y then WP V 157 20 ls st t I L R Q else WP V 157 27 ls st t I L R Q := wp_brn (c := m_cc .ne x y) rfl rfl
theorem i157_20 {w1 w2 w3 w4 w5 : Value} {x : Nat} : WP V 157 20 [.ref x, w1, w2, w3, w4, w5] st t I L R Q = WP V 157 21 [.ref x, w1, w2, w3, w4, w5] (.ref x :: st) t I L R Q := wp_go rfl
theorem i157_21 {k : Nat} (h1 : k < t) (h2 : m_ob k 8 = true) : WP V 157 21 ls (.ref k :: st) t I L R Q = WP V 157 22 ls (m_rv (R k 0) :: st) t I L R Q := wp_getR rfl (by decide) h1 h2
theorem i157_22 {w0 w1 w2 w4 w5 : Value} {x : Int32} : WP V 157 22 [w0, w1, w2, .int x, w4, w5] st t I L R Q = WP V 157 23 [w0, w1, w2, .int x, w4, w5] (.int x :: st) t I L R Q := wp_go rfl
theorem i157_23  : WP V 157 23 ls st t I L R Q = WP V 157 24 ls (.int (nI 110) :: st) t I L R Q := wp_go rfl
theorem i157_24 {x y : Int32} : WP V 157 24 ls (.int y :: .int x :: st) t I L R Q = WP V 157 25 ls (.int (x + y) :: st) t I L R Q := wp_go rfl
theorem i157_25 {k j : Nat} (h2 : m_ar k 2 612 = true) (h1 : k < t) (h3 : j < 612) : WP V 157 25 ls (.int (nI j) :: .ref k :: st) t I L R Q = WP V 157 26 ls (.int (I k j) :: st) t I L R Q := wp_iaload rfl (by decide) h1 h2 h3
theorem i157_26  : WP V 157 26 ls st t I L R Q = WP V 157 28 ls st t I L R Q := wp_go rfl
theorem i157_27  : WP V 157 27 ls st t I L R Q = WP V 157 28 ls (.int (nI 0) :: st) t I L R Q := wp_go rfl
theorem i157_28 {p : Int32} {w0 w1 w2 w3 w5 : Value} {x : Int32} : WP V 157 28 [w0, w1, w2, w3, .int p, w5] (.int x :: st) t I L R Q = WP V 157 29 [w0, w1, w2, w3, .int p, .int x] st t I L R Q := wp_go rfl
theorem i157_29 {w0 w1 w2 w3 w5 : Value} {x : Int32} : WP V 157 29 [w0, w1, w2, w3, .int x, w5] st t I L R Q = WP V 157 30 [w0, w1, w2, w3, .int x, w5] (.int x :: st) t I L R Q := wp_go rfl
theorem i157_30 {w0 w1 w2 w3 w4 : Value} {x : Int32} : WP V 157 30 [w0, w1, w2, w3, w4, .int x] st t I L R Q = WP V 157 31 [w0, w1, w2, w3, w4, .int x] (.int x :: st) t I L R Q := wp_go rfl
theorem i157_31 {x y : Int32} : WP V 157 31 ls (.int y :: .int x :: st) t I L R Q = if x < y then WP V 157 44 ls st t I L R Q else WP V 157 32 ls st t I L R Q := wp_br (c := m_cc .lt x y) rfl rfl
theorem i157_32 {w1 w2 w3 w4 w5 : Value} {x : Nat} : WP V 157 32 [.ref x, w1, w2, w3, w4, w5] st t I L R Q = WP V 157 33 [.ref x, w1, w2, w3, w4, w5] (.ref x :: st) t I L R Q := wp_go rfl
theorem i157_33 {k : Nat} (h1 : k < t) (h2 : m_ob k 8 = true) : WP V 157 33 ls (.ref k :: st) t I L R Q = WP V 157 34 ls (m_rv (R k 0) :: st) t I L R Q := wp_getR rfl (by decide) h1 h2
theorem i157_34 {w0 w1 w2 w4 w5 : Value} {x : Int32} : WP V 157 34 [w0, w1, w2, .int x, w4, w5] st t I L R Q = WP V 157 35 [w0, w1, w2, .int x, w4, w5] (.int x :: st) t I L R Q := wp_go rfl
theorem i157_35  : WP V 157 35 ls st t I L R Q = WP V 157 36 ls (.int (nI 9) :: st) t I L R Q := wp_go rfl
theorem i157_36 {x y : Int32} : WP V 157 36 ls (.int y :: .int x :: st) t I L R Q = WP V 157 37 ls (.int (x + y) :: st) t I L R Q := wp_go rfl
theorem i157_37  : WP V 157 37 ls st t I L R Q = WP V 157 38 ls (.int (nI 23) :: st) t I L R Q := wp_go rfl
theorem i157_38 {w0 w1 w2 w3 w5 : Value} {x : Int32} : WP V 157 38 [w0, w1, w2, w3, .int x, w5] st t I L R Q = WP V 157 39 [w0, w1, w2, w3, .int x, w5] (.int x :: st) t I L R Q := wp_go rfl
theorem i157_39 {x y : Int32} : WP V 157 39 ls (.int y :: .int x :: st) t I L R Q = WP V 157 40 ls (.int (x * y) :: st) t I L R Q := wp_go rfl
theorem i157_40 {x y : Int32} : WP V 157 40 ls (.int y :: .int x :: st) t I L R Q = WP V 157 41 ls (.int (x + y) :: st) t I L R Q := wp_go rfl
theorem i157_41 {k j : Nat} (h2 : m_ar k 2 612 = true) (h1 : k < t) (h3 : j < 612) : WP V 157 41 ls (.int (nI j) :: .ref k :: st) t I L R Q = WP V 157 42 ls (.int (I k j) :: st) t I L R Q := wp_iaload rfl (by decide) h1 h2 h3
theorem i157_42 {w0 w1 w3 w4 w5 : Value} {x : Int32} : WP V 157 42 [w0, w1, .int x, w3, w4, w5] st t I L R Q = WP V 157 43 [w0, w1, .int x, w3, w4, w5] (.int x :: st) t I L R Q := wp_go rfl
theorem i157_43 {x y : Int32} : WP V 157 43 ls (.int y :: .int x :: st) t I L R Q = if x = y then WP V 157 46 ls st t I L R Q else WP V 157 44 ls st t I L R Q := wp_br (c := m_cc .eq x y) rfl rfl
theorem i157_44  : WP V 157 44 ls st t I L R Q = WP V 157 45 ls (.int (nI 0) :: st) t I L R Q := wp_go rfl
theorem i157_45 {x : Int32} (h : m_01 x = true) : WP V 157 45 ls [.int x] t I L R Q = Q (some (.int x)) t I L R := wp_rtz rfl rfl h
theorem i157_46 {w1 w2 w3 w4 w5 : Value} {x : Nat} : WP V 157 46 [.ref x, w1, w2, w3, w4, w5] st t I L R Q = WP V 157 47 [.ref x, w1, w2, w3, w4, w5] (.ref x :: st) t I L R Q := wp_go rfl
theorem i157_47 {w0 w2 w3 w4 w5 : Value} {x : Int32} : WP V 157 47 [w0, .int x, w2, w3, w4, w5] st t I L R Q = WP V 157 48 [w0, .int x, w2, w3, w4, w5] (.int x :: st) t I L R Q := wp_go rfl
theorem i157_48 {w0 w1 w2 w3 w5 : Value} {x : Int32} : WP V 157 48 [w0, w1, w2, w3, .int x, w5] st t I L R Q = WP V 157 49 [w0, w1, w2, w3, .int x, w5] (.int x :: st) t I L R Q := wp_go rfl
theorem i157_49 {x0 : Int32} {x1 : Int32} {x2 : Nat}  (h1 : x2 < t) (h2 : m_ob x2 8 = true) : WP V 157 49 ls [.int x0, .int x1, .ref x2] t I L R Q = WPC V 141 [.ref x2, .int x1, .int x0] 157 50 ls [] t I L R Q := wp_cls (wp_icv rfl rfl h1 h2) (by decide) (Nat.le_of_ble_eq_true rfl) rfl rfl (Nat.le_of_ble_eq_true rfl) (Nat.le_of_ble_eq_true rfl)
theorem i157_50  : WP V 157 50 ls st t I L R Q = WP V 157 51 ls (.int (nI 1) :: st) t I L R Q := wp_go rfl
theorem i157_51 {x : Int32} (h : m_01 x = true) : WP V 157 51 ls [.int x] t I L R Q = Q (some (.int x)) t I L R := wp_rtz rfl rfl h
-- TransactionCellsModel.begin(II)I
theorem i158_0 {w0 w2 w3 w4 : Value} {x : Int32} : WP V 158 0 [w0, .int x, w2, w3, w4] st t I L R Q = WP V 158 1 [w0, .int x, w2, w3, w4] (.int x :: st) t I L R Q := wp_go rfl
theorem i158_1 {x0 : Int32}  : WP V 158 1 ls [.int x0] t I L R Q = WPC V 113 [.int x0] 158 2 ls [] t I L R Q := wp_cls (wp_ics rfl (by decide)) (by decide) (Nat.le_of_ble_eq_true rfl) rfl rfl (Nat.le_of_ble_eq_true rfl) (Nat.le_of_ble_eq_true rfl)
theorem i158_2 {p : Int32} {w0 w1 w3 w4 : Value} {x : Int32} : WP V 158 2 [w0, w1, .int p, w3, w4] (.int x :: st) t I L R Q = WP V 158 3 [w0, w1, .int p, .int x, w4] st t I L R Q := wp_go rfl
theorem i158_3 {w1 w2 w3 w4 : Value} {x : Nat} : WP V 158 3 [.ref x, w1, w2, w3, w4] st t I L R Q = WP V 158 4 [.ref x, w1, w2, w3, w4] (.ref x :: st) t I L R Q := wp_go rfl
theorem i158_4 {k : Nat} (h1 : k < t) (h2 : m_ob k 8 = true) : WP V 158 4 ls (.ref k :: st) t I L R Q = WP V 158 5 ls (m_rv (R k 0) :: st) t I L R Q := wp_getR rfl (by decide) h1 h2
theorem i158_5 {w0 w1 w2 w4 : Value} {x : Int32} : WP V 158 5 [w0, w1, w2, .int x, w4] st t I L R Q = WP V 158 6 [w0, w1, w2, .int x, w4] (.int x :: st) t I L R Q := wp_go rfl
theorem i158_6  : WP V 158 6 ls st t I L R Q = WP V 158 7 ls (.int (nI 101) :: st) t I L R Q := wp_go rfl
theorem i158_7 {x y : Int32} : WP V 158 7 ls (.int y :: .int x :: st) t I L R Q = WP V 158 8 ls (.int (x + y) :: st) t I L R Q := wp_go rfl
theorem i158_8 {k j : Nat} (h2 : m_ar k 2 612 = true) (h1 : k < t) (h3 : j < 612) : WP V 158 8 ls (.int (nI j) :: .ref k :: st) t I L R Q = WP V 158 9 ls (.int (I k j) :: st) t I L R Q := wp_iaload rfl (by decide) h1 h2 h3
theorem i158_9  : WP V 158 9 ls st t I L R Q = WP V 158 10 ls (.int (nI 1) :: st) t I L R Q := wp_go rfl
theorem i158_10 {x y : Int32} : WP V 158 10 ls (.int y :: .int x :: st) t I L R Q = if x = y then WP V 158 11 ls st t I L R Q else WP V 158 16 ls st t I L R Q := wp_brn (c := m_cc .ne x y) rfl rfl
theorem i158_11 {w1 w2 w3 w4 : Value} {x : Nat} : WP V 158 11 [.ref x, w1, w2, w3, w4] st t I L R Q = WP V 158 12 [.ref x, w1, w2, w3, w4] (.ref x :: st) t I L R Q := wp_go rfl
theorem i158_12 {w0 w2 w3 w4 : Value} {x : Int32} : WP V 158 12 [w0, .int x, w2, w3, w4] st t I L R Q = WP V 158 13 [w0, .int x, w2, w3, w4] (.int x :: st) t I L R Q := wp_go rfl
theorem i158_13  : WP V 158 13 ls st t I L R Q = WP V 158 14 ls (.int (nI 5) :: st) t I L R Q := wp_go rfl
theorem i158_14 {x0 : Int32} {x1 : Int32} {x2 : Nat}  (h1 : x2 < t) (h2 : m_ob x2 8 = true) : WP V 158 14 ls [.int x0, .int x1, .ref x2] t I L R Q = WPC V 155 [.ref x2, .int x1, .int x0] 158 15 ls [] t I L R Q := wp_cls (wp_icv rfl rfl h1 h2) (by decide) (Nat.le_of_ble_eq_true rfl) rfl rfl (Nat.le_of_ble_eq_true rfl) (Nat.le_of_ble_eq_true rfl)
theorem i158_15 {x : Int32} : WP V 158 15 ls [.int x] t I L R Q = Q (some (.int x)) t I L R := wp_rti rfl rfl
theorem i158_16 {w1 w2 w3 w4 : Value} {x : Nat} : WP V 158 16 [.ref x, w1, w2, w3, w4] st t I L R Q = WP V 158 17 [.ref x, w1, w2, w3, w4] (.ref x :: st) t I L R Q := wp_go rfl
theorem i158_17 {k : Nat} (h1 : k < t) (h2 : m_ob k 8 = true) : WP V 158 17 ls (.ref k :: st) t I L R Q = WP V 158 18 ls (.int (I k 1) :: st) t I L R Q := wp_getI rfl (by decide) h1 h2
theorem i158_18  : WP V 158 18 ls st t I L R Q = WP V 158 19 ls (.int (nI 3) :: st) t I L R Q := wp_go rfl
theorem i158_19 {x y : Int32} : WP V 158 19 ls (.int y :: .int x :: st) t I L R Q = if x = y then WP V 158 20 ls st t I L R Q else WP V 158 24 ls st t I L R Q := wp_brn (c := m_cc .ne x y) rfl rfl
theorem i158_20 {w1 w2 w3 w4 : Value} {x : Nat} : WP V 158 20 [.ref x, w1, w2, w3, w4] st t I L R Q = WP V 158 21 [.ref x, w1, w2, w3, w4] (.ref x :: st) t I L R Q := wp_go rfl
theorem i158_21 {w0 w2 w3 w4 : Value} {x : Int32} : WP V 158 21 [w0, .int x, w2, w3, w4] st t I L R Q = WP V 158 22 [w0, .int x, w2, w3, w4] (.int x :: st) t I L R Q := wp_go rfl
theorem i158_22 {x0 : Int32} {x1 : Nat}  (h1 : x1 < t) (h2 : m_ob x1 8 = true) : WP V 158 22 ls [.int x0, .ref x1] t I L R Q = WPC V 148 [.ref x1, .int x0] 158 23 ls [] t I L R Q := wp_cls (wp_icv rfl rfl h1 h2) (by decide) (Nat.le_of_ble_eq_true rfl) rfl rfl (Nat.le_of_ble_eq_true rfl) (Nat.le_of_ble_eq_true rfl)
theorem i158_23 {x : Int32} : WP V 158 23 ls (.int x :: st) t I L R Q = if x = nI 0 then WP V 158 24 ls st t I L R Q else WP V 158 33 ls st t I L R Q := wp_brn (c := m_cc .ne x 0) rfl rfl
theorem i158_24 {w0 w1 w3 w4 : Value} {x : Int32} : WP V 158 24 [w0, w1, .int x, w3, w4] st t I L R Q = WP V 158 25 [w0, w1, .int x, w3, w4] (.int x :: st) t I L R Q := wp_go rfl
theorem i158_25  : WP V 158 25 ls st t I L R Q = WP V 158 26 ls (.int (nI 3) :: st) t I L R Q := wp_go rfl
theorem i158_26 {x y : Int32} : WP V 158 26 ls (.int y :: .int x :: st) t I L R Q = if x = y then WP V 158 27 ls st t I L R Q else WP V 158 35 ls st t I L R Q := wp_brn (c := m_cc .ne x y) rfl rfl
theorem i158_27 {w1 w2 w3 w4 : Value} {x : Nat} : WP V 158 27 [.ref x, w1, w2, w3, w4] st t I L R Q = WP V 158 28 [.ref x, w1, w2, w3, w4] (.ref x :: st) t I L R Q := wp_go rfl
theorem i158_28 {k : Nat} (h1 : k < t) (h2 : m_ob k 8 = true) : WP V 158 28 ls (.ref k :: st) t I L R Q = WP V 158 29 ls (m_rv (R k 0) :: st) t I L R Q := wp_getR rfl (by decide) h1 h2
theorem i158_29  : WP V 158 29 ls st t I L R Q = WP V 158 30 ls (.int (nI 146) :: st) t I L R Q := wp_go rfl
theorem i158_30 {k j : Nat} (h2 : m_ar k 2 612 = true) (h1 : k < t) (h3 : j < 612) : WP V 158 30 ls (.int (nI j) :: .ref k :: st) t I L R Q = WP V 158 31 ls (.int (I k j) :: st) t I L R Q := wp_iaload rfl (by decide) h1 h2 h3
theorem i158_31  : WP V 158 31 ls st t I L R Q = WP V 158 32 ls (.int (-1) :: st) t I L R Q := wp_go rfl
theorem i158_32 {x y : Int32} : WP V 158 32 ls (.int y :: .int x :: st) t I L R Q = if x = y then WP V 158 35 ls st t I L R Q else WP V 158 33 ls st t I L R Q := wp_br (c := m_cc .eq x y) rfl rfl
theorem i158_33  : WP V 158 33 ls st t I L R Q = WP V 158 34 ls (.int (nI 0) :: st) t I L R Q := wp_go rfl
theorem i158_34 {x : Int32} : WP V 158 34 ls [.int x] t I L R Q = Q (some (.int x)) t I L R := wp_rti rfl rfl
theorem i158_35 {w1 w2 w3 w4 : Value} {x : Nat} : WP V 158 35 [.ref x, w1, w2, w3, w4] st t I L R Q = WP V 158 36 [.ref x, w1, w2, w3, w4] (.ref x :: st) t I L R Q := wp_go rfl
theorem i158_36 {k : Nat} (h1 : k < t) (h2 : m_ob k 8 = true) : WP V 158 36 ls (.ref k :: st) t I L R Q = WP V 158 37 ls (.int (I k 1) :: st) t I L R Q := wp_getI rfl (by decide) h1 h2
theorem i158_37  : WP V 158 37 ls st t I L R Q = WP V 158 38 ls (.int (nI 3) :: st) t I L R Q := wp_go rfl
theorem i158_38 {x y : Int32} : WP V 158 38 ls (.int y :: .int x :: st) t I L R Q = if x = y then WP V 158 39 ls st t I L R Q else WP V 158 44 ls st t I L R Q := wp_brn (c := m_cc .ne x y) rfl rfl
theorem i158_39 {w1 w2 w3 w4 : Value} {x : Nat} : WP V 158 39 [.ref x, w1, w2, w3, w4] st t I L R Q = WP V 158 40 [.ref x, w1, w2, w3, w4] (.ref x :: st) t I L R Q := wp_go rfl
theorem i158_40 {k : Nat} (h1 : k < t) (h2 : m_ob k 8 = true) : WP V 158 40 ls (.ref k :: st) t I L R Q = WP V 158 41 ls (m_rv (R k 0) :: st) t I L R Q := wp_getR rfl (by decide) h1 h2
theorem i158_41  : WP V 158 41 ls st t I L R Q = WP V 158 42 ls (.int (nI 145) :: st) t I L R Q := wp_go rfl
theorem i158_42 {w0 w2 w3 w4 : Value} {x : Int32} : WP V 158 42 [w0, .int x, w2, w3, w4] st t I L R Q = WP V 158 43 [w0, .int x, w2, w3, w4] (.int x :: st) t I L R Q := wp_go rfl
theorem i158_43 {k j : Nat} {x : Int32} (h2 : m_ar k 2 612 = true) (h1 : k < t) (h3 : j < 612) : WP V 158 43 ls (.int x :: .int (nI j) :: .ref k :: st) t I L R Q = WP V 158 44 ls st t (m_sc I k (m_sc (I k) j x)) L R Q := wp_iastore rfl (by decide) h1 h2 h3
theorem i158_44 {w0 w1 w3 w4 : Value} {x : Int32} : WP V 158 44 [w0, w1, .int x, w3, w4] st t I L R Q = WP V 158 45 [w0, w1, .int x, w3, w4] (.int x :: st) t I L R Q := wp_go rfl
theorem i158_45  : WP V 158 45 ls st t I L R Q = WP V 158 46 ls (.int (nI 3) :: st) t I L R Q := wp_go rfl
theorem i158_46 {x y : Int32} : WP V 158 46 ls (.int y :: .int x :: st) t I L R Q = if x = y then WP V 158 47 ls st t I L R Q else WP V 158 52 ls st t I L R Q := wp_brn (c := m_cc .ne x y) rfl rfl
theorem i158_47 {w1 w2 w3 w4 : Value} {x : Nat} : WP V 158 47 [.ref x, w1, w2, w3, w4] st t I L R Q = WP V 158 48 [.ref x, w1, w2, w3, w4] (.ref x :: st) t I L R Q := wp_go rfl
theorem i158_48 {k : Nat} (h1 : k < t) (h2 : m_ob k 8 = true) : WP V 158 48 ls (.ref k :: st) t I L R Q = WP V 158 49 ls (m_rv (R k 0) :: st) t I L R Q := wp_getR rfl (by decide) h1 h2
theorem i158_49  : WP V 158 49 ls st t I L R Q = WP V 158 50 ls (.int (nI 146) :: st) t I L R Q := wp_go rfl
theorem i158_50 {w0 w2 w3 w4 : Value} {x : Int32} : WP V 158 50 [w0, .int x, w2, w3, w4] st t I L R Q = WP V 158 51 [w0, .int x, w2, w3, w4] (.int x :: st) t I L R Q := wp_go rfl
theorem i158_51 {k j : Nat} {x : Int32} (h2 : m_ar k 2 612 = true) (h1 : k < t) (h3 : j < 612) : WP V 158 51 ls (.int x :: .int (nI j) :: .ref k :: st) t I L R Q = WP V 158 52 ls st t (m_sc I k (m_sc (I k) j x)) L R Q := wp_iastore rfl (by decide) h1 h2 h3
theorem i158_52 {w1 w2 w3 w4 : Value} {x : Nat} : WP V 158 52 [.ref x, w1, w2, w3, w4] st t I L R Q = WP V 158 53 [.ref x, w1, w2, w3, w4] (.ref x :: st) t I L R Q := wp_go rfl
theorem i158_53 {w0 w2 w3 w4 : Value} {x : Int32} : WP V 158 53 [w0, .int x, w2, w3, w4] st t I L R Q = WP V 158 54 [w0, .int x, w2, w3, w4] (.int x :: st) t I L R Q := wp_go rfl
theorem i158_54 {x0 : Int32} {x1 : Nat}  (h1 : x1 < t) (h2 : m_ob x1 8 = true) : WP V 158 54 ls [.int x0, .ref x1] t I L R Q = WPC V 116 [.ref x1, .int x0] 158 55 ls [] t I L R Q := wp_cls (wp_icv rfl rfl h1 h2) (by decide) (Nat.le_of_ble_eq_true rfl) rfl rfl (Nat.le_of_ble_eq_true rfl) (Nat.le_of_ble_eq_true rfl)
theorem i158_55 {w1 w2 w3 w4 : Value} {x : Nat} : WP V 158 55 [.ref x, w1, w2, w3, w4] st t I L R Q = WP V 158 56 [.ref x, w1, w2, w3, w4] (.ref x :: st) t I L R Q := wp_go rfl
theorem i158_56 {k : Nat} (h1 : k < t) (h2 : m_ob k 8 = true) : WP V 158 56 ls (.ref k :: st) t I L R Q = WP V 158 57 ls (m_rv (R k 0) :: st) t I L R Q := wp_getR rfl (by decide) h1 h2
theorem i158_57 {w0 w1 w2 w4 : Value} {x : Int32} : WP V 158 57 [w0, w1, w2, .int x, w4] st t I L R Q = WP V 158 58 [w0, w1, w2, .int x, w4] (.int x :: st) t I L R Q := wp_go rfl
theorem i158_58  : WP V 158 58 ls st t I L R Q = WP V 158 59 ls (.int (nI 101) :: st) t I L R Q := wp_go rfl
theorem i158_59 {x y : Int32} : WP V 158 59 ls (.int y :: .int x :: st) t I L R Q = WP V 158 60 ls (.int (x + y) :: st) t I L R Q := wp_go rfl
theorem i158_60  : WP V 158 60 ls st t I L R Q = WP V 158 61 ls (.int (nI 1) :: st) t I L R Q := wp_go rfl
theorem i158_61 {k j : Nat} {x : Int32} (h2 : m_ar k 2 612 = true) (h1 : k < t) (h3 : j < 612) : WP V 158 61 ls (.int x :: .int (nI j) :: .ref k :: st) t I L R Q = WP V 158 62 ls st t (m_sc I k (m_sc (I k) j x)) L R Q := wp_iastore rfl (by decide) h1 h2 h3
theorem i158_62 {w1 w2 w3 w4 : Value} {x : Nat} : WP V 158 62 [.ref x, w1, w2, w3, w4] st t I L R Q = WP V 158 63 [.ref x, w1, w2, w3, w4] (.ref x :: st) t I L R Q := wp_go rfl
theorem i158_63 {k : Nat} (h1 : k < t) (h2 : m_ob k 8 = true) : WP V 158 63 ls (.ref k :: st) t I L R Q = WP V 158 64 ls (m_rv (R k 0) :: st) t I L R Q := wp_getR rfl (by decide) h1 h2
theorem i158_64 {w0 w1 w2 w4 : Value} {x : Int32} : WP V 158 64 [w0, w1, w2, .int x, w4] st t I L R Q = WP V 158 65 [w0, w1, w2, .int x, w4] (.int x :: st) t I L R Q := wp_go rfl
theorem i158_65  : WP V 158 65 ls st t I L R Q = WP V 158 66 ls (.int (nI 102) :: st) t I L R Q := wp_go rfl
theorem i158_66 {x y : Int32} : WP V 158 66 ls (.int y :: .int x :: st) t I L R Q = WP V 158 67 ls (.int (x + y) :: st) t I L R Q := wp_go rfl
theorem i158_67 {w0 w1 w3 w4 : Value} {x : Int32} : WP V 158 67 [w0, w1, .int x, w3, w4] st t I L R Q = WP V 158 68 [w0, w1, .int x, w3, w4] (.int x :: st) t I L R Q := wp_go rfl
theorem i158_68 {k j : Nat} {x : Int32} (h2 : m_ar k 2 612 = true) (h1 : k < t) (h3 : j < 612) : WP V 158 68 ls (.int x :: .int (nI j) :: .ref k :: st) t I L R Q = WP V 158 69 ls st t (m_sc I k (m_sc (I k) j x)) L R Q := wp_iastore rfl (by decide) h1 h2 h3
theorem i158_69 {w1 w2 w3 w4 : Value} {x : Nat} : WP V 158 69 [.ref x, w1, w2, w3, w4] st t I L R Q = WP V 158 70 [.ref x, w1, w2, w3, w4] (.ref x :: st) t I L R Q := wp_go rfl
theorem i158_70 {k : Nat} (h1 : k < t) (h2 : m_ob k 8 = true) : WP V 158 70 ls (.ref k :: st) t I L R Q = WP V 158 71 ls (m_rv (R k 0) :: st) t I L R Q := wp_getR rfl (by decide) h1 h2
theorem i158_71 {w0 w1 w2 w4 : Value} {x : Int32} : WP V 158 71 [w0, w1, w2, .int x, w4] st t I L R Q = WP V 158 72 [w0, w1, w2, .int x, w4] (.int x :: st) t I L R Q := wp_go rfl
theorem i158_72  : WP V 158 72 ls st t I L R Q = WP V 158 73 ls (.int (nI 103) :: st) t I L R Q := wp_go rfl
theorem i158_73 {x y : Int32} : WP V 158 73 ls (.int y :: .int x :: st) t I L R Q = WP V 158 74 ls (.int (x + y) :: st) t I L R Q := wp_go rfl
theorem i158_74 {w1 w2 w3 w4 : Value} {x : Nat} : WP V 158 74 [.ref x, w1, w2, w3, w4] st t I L R Q = WP V 158 75 [.ref x, w1, w2, w3, w4] (.ref x :: st) t I L R Q := wp_go rfl
theorem i158_75 {k : Nat} (h1 : k < t) (h2 : m_ob k 8 = true) : WP V 158 75 ls (.ref k :: st) t I L R Q = WP V 158 76 ls (m_rv (R k 0) :: st) t I L R Q := wp_getR rfl (by decide) h1 h2
theorem i158_76  : WP V 158 76 ls st t I L R Q = WP V 158 77 ls (.int (nI 144) :: st) t I L R Q := wp_go rfl
theorem i158_77 {k j : Nat} (h2 : m_ar k 2 612 = true) (h1 : k < t) (h3 : j < 612) : WP V 158 77 ls (.int (nI j) :: .ref k :: st) t I L R Q = WP V 158 78 ls (.int (I k j) :: st) t I L R Q := wp_iaload rfl (by decide) h1 h2 h3
theorem i158_78 {k j : Nat} {x : Int32} (h2 : m_ar k 2 612 = true) (h1 : k < t) (h3 : j < 612) : WP V 158 78 ls (.int x :: .int (nI j) :: .ref k :: st) t I L R Q = WP V 158 79 ls st t (m_sc I k (m_sc (I k) j x)) L R Q := wp_iastore rfl (by decide) h1 h2 h3
theorem i158_79 {w1 w2 w3 w4 : Value} {x : Nat} : WP V 158 79 [.ref x, w1, w2, w3, w4] st t I L R Q = WP V 158 80 [.ref x, w1, w2, w3, w4] (.ref x :: st) t I L R Q := wp_go rfl
theorem i158_80 {k : Nat} (h1 : k < t) (h2 : m_ob k 8 = true) : WP V 158 80 ls (.ref k :: st) t I L R Q = WP V 158 81 ls (m_rv (R k 0) :: st) t I L R Q := wp_getR rfl (by decide) h1 h2
theorem i158_81 {w0 w1 w2 w4 : Value} {x : Int32} : WP V 158 81 [w0, w1, w2, .int x, w4] st t I L R Q = WP V 158 82 [w0, w1, w2, .int x, w4] (.int x :: st) t I L R Q := wp_go rfl
theorem i158_82  : WP V 158 82 ls st t I L R Q = WP V 158 83 ls (.int (nI 104) :: st) t I L R Q := wp_go rfl
theorem i158_83 {x y : Int32} : WP V 158 83 ls (.int y :: .int x :: st) t I L R Q = WP V 158 84 ls (.int (x + y) :: st) t I L R Q := wp_go rfl
theorem i158_84 {w1 w2 w3 w4 : Value} {x : Nat} : WP V 158 84 [.ref x, w1, w2, w3, w4] st t I L R Q = WP V 158 85 [.ref x, w1, w2, w3, w4] (.ref x :: st) t I L R Q := wp_go rfl
theorem i158_85 {k : Nat} (h1 : k < t) (h2 : m_ob k 8 = true) : WP V 158 85 ls (.ref k :: st) t I L R Q = WP V 158 86 ls (.int (I k 2) :: st) t I L R Q := wp_getI rfl (by decide) h1 h2
theorem i158_86 {k j : Nat} {x : Int32} (h2 : m_ar k 2 612 = true) (h1 : k < t) (h3 : j < 612) : WP V 158 86 ls (.int x :: .int (nI j) :: .ref k :: st) t I L R Q = WP V 158 87 ls st t (m_sc I k (m_sc (I k) j x)) L R Q := wp_iastore rfl (by decide) h1 h2 h3
theorem i158_87 {w1 w2 w3 w4 : Value} {x : Nat} : WP V 158 87 [.ref x, w1, w2, w3, w4] st t I L R Q = WP V 158 88 [.ref x, w1, w2, w3, w4] (.ref x :: st) t I L R Q := wp_go rfl
theorem i158_88 {v0 : Nat} : WP V 158 88 ls (.ref v0 :: st) t I L R Q = WP V 158 89 ls (.ref v0 :: .ref v0 :: st) t I L R Q := wp_go rfl
theorem i158_89 {k : Nat} (h1 : k < t) (h2 : m_ob k 8 = true) : WP V 158 89 ls (.ref k :: st) t I L R Q = WP V 158 90 ls (.int (I k 2) :: st) t I L R Q := wp_getI rfl (by decide) h1 h2
theorem i158_90  : WP V 158 90 ls st t I L R Q = WP V 158 91 ls (.int (nI 1) :: st) t I L R Q := wp_go rfl
theorem i158_91 {x y : Int32} : WP V 158 91 ls (.int y :: .int x :: st) t I L R Q = WP V 158 92 ls (.int (x + y) :: st) t I L R Q := wp_go rfl
theorem i158_92 {k : Nat} {x : Int32} (h1 : k < t) (h2 : m_ob k 8 = true) : WP V 158 92 ls (.int x :: .ref k :: st) t I L R Q = WP V 158 93 ls st t (m_sc I k (m_sc (I k) 2 x)) L R Q := wp_putI rfl (by decide) h1 h2
theorem i158_93 {w1 w2 w3 w4 : Value} {x : Nat} : WP V 158 93 [.ref x, w1, w2, w3, w4] st t I L R Q = WP V 158 94 [.ref x, w1, w2, w3, w4] (.ref x :: st) t I L R Q := wp_go rfl
theorem i158_94 {k : Nat} (h1 : k < t) (h2 : m_ob k 8 = true) : WP V 158 94 ls (.ref k :: st) t I L R Q = WP V 158 95 ls (m_rv (R k 0) :: st) t I L R Q := wp_getR rfl (by decide) h1 h2
theorem i158_95 {w0 w1 w2 w4 : Value} {x : Int32} : WP V 158 95 [w0, w1, w2, .int x, w4] st t I L R Q = WP V 158 96 [w0, w1, w2, .int x, w4] (.int x :: st) t I L R Q := wp_go rfl
theorem i158_96  : WP V 158 96 ls st t I L R Q = WP V 158 97 ls (.int (nI 1) :: st) t I L R Q := wp_go rfl
theorem i158_97 {x y : Int32} : WP V 158 97 ls (.int y :: .int x :: st) t I L R Q = WP V 158 98 ls (.int (x + y) :: st) t I L R Q := wp_go rfl
theorem i158_98 {v0 : Int32} {v1 : Nat} : WP V 158 98 ls (.int v0 :: .ref v1 :: st) t I L R Q = WP V 158 99 ls (.int v0 :: .ref v1 :: .int v0 :: .ref v1 :: st) t I L R Q := wp_go rfl
theorem i158_99 {k j : Nat} (h2 : m_ar k 2 612 = true) (h1 : k < t) (h3 : j < 612) : WP V 158 99 ls (.int (nI j) :: .ref k :: st) t I L R Q = WP V 158 100 ls (.int (I k j) :: st) t I L R Q := wp_iaload rfl (by decide) h1 h2 h3
theorem i158_100  : WP V 158 100 ls st t I L R Q = WP V 158 101 ls (.int (nI 1) :: st) t I L R Q := wp_go rfl
theorem i158_101 {x y : Int32} : WP V 158 101 ls (.int y :: .int x :: st) t I L R Q = WP V 158 102 ls (.int (x + y) :: st) t I L R Q := wp_go rfl
theorem i158_102 {k j : Nat} {x : Int32} (h2 : m_ar k 2 612 = true) (h1 : k < t) (h3 : j < 612) : WP V 158 102 ls (.int x :: .int (nI j) :: .ref k :: st) t I L R Q = WP V 158 103 ls st t (m_sc I k (m_sc (I k) j x)) L R Q := wp_iastore rfl (by decide) h1 h2 h3
theorem i158_103 {w1 w2 w3 w4 : Value} {x : Nat} : WP V 158 103 [.ref x, w1, w2, w3, w4] st t I L R Q = WP V 158 104 [.ref x, w1, w2, w3, w4] (.ref x :: st) t I L R Q := wp_go rfl
theorem i158_104 {k : Nat} (h1 : k < t) (h2 : m_ob k 8 = true) : WP V 158 104 ls (.ref k :: st) t I L R Q = WP V 158 105 ls (m_rv (R k 0) :: st) t I L R Q := wp_getR rfl (by decide) h1 h2
theorem i158_105 {w0 w1 w2 w4 : Value} {x : Int32} : WP V 158 105 [w0, w1, w2, .int x, w4] st t I L R Q = WP V 158 106 [w0, w1, w2, .int x, w4] (.int x :: st) t I L R Q := wp_go rfl
theorem i158_106  : WP V 158 106 ls st t I L R Q = WP V 158 107 ls (.int (nI 105) :: st) t I L R Q := wp_go rfl
theorem i158_107 {x y : Int32} : WP V 158 107 ls (.int y :: .int x :: st) t I L R Q = WP V 158 108 ls (.int (x + y) :: st) t I L R Q := wp_go rfl
theorem i158_108 {w1 w2 w3 w4 : Value} {x : Nat} : WP V 158 108 [.ref x, w1, w2, w3, w4] st t I L R Q = WP V 158 109 [.ref x, w1, w2, w3, w4] (.ref x :: st) t I L R Q := wp_go rfl
theorem i158_109 {k : Nat} (h1 : k < t) (h2 : m_ob k 8 = true) : WP V 158 109 ls (.ref k :: st) t I L R Q = WP V 158 110 ls (m_rv (R k 0) :: st) t I L R Q := wp_getR rfl (by decide) h1 h2
theorem i158_110 {w0 w1 w2 w4 : Value} {x : Int32} : WP V 158 110 [w0, w1, w2, .int x, w4] st t I L R Q = WP V 158 111 [w0, w1, w2, .int x, w4] (.int x :: st) t I L R Q := wp_go rfl
theorem i158_111  : WP V 158 111 ls st t I L R Q = WP V 158 112 ls (.int (nI 1) :: st) t I L R Q := wp_go rfl
theorem i158_112 {x y : Int32} : WP V 158 112 ls (.int y :: .int x :: st) t I L R Q = WP V 158 113 ls (.int (x + y) :: st) t I L R Q := wp_go rfl
theorem i158_113 {k j : Nat} (h2 : m_ar k 2 612 = true) (h1 : k < t) (h3 : j < 612) : WP V 158 113 ls (.int (nI j) :: .ref k :: st) t I L R Q = WP V 158 114 ls (.int (I k j) :: st) t I L R Q := wp_iaload rfl (by decide) h1 h2 h3
theorem i158_114 {k j : Nat} {x : Int32} (h2 : m_ar k 2 612 = true) (h1 : k < t) (h3 : j < 612) : WP V 158 114 ls (.int x :: .int (nI j) :: .ref k :: st) t I L R Q = WP V 158 115 ls st t (m_sc I k (m_sc (I k) j x)) L R Q := wp_iastore rfl (by decide) h1 h2 h3
theorem i158_115  : WP V 158 115 ls st t I L R Q = WP V 158 116 ls (.int (nI 0) :: st) t I L R Q := wp_go rfl
theorem i158_116 {p : Int32} {w0 w1 w2 w4 : Value} {x : Int32} : WP V 158 116 [w0, w1, w2, .int p, w4] (.int x :: st) t I L R Q = WP V 158 117 [w0, w1, w2, .int p, .int x] st t I L R Q := wp_go rfl
theorem i158_117 {w0 w1 w2 w3 : Value} {x : Int32} : WP V 158 117 [w0, w1, w2, w3, .int x] st t I L R Q = WP V 158 118 [w0, w1, w2, w3, .int x] (.int x :: st) t I L R Q := wp_go rfl
theorem i158_118  : WP V 158 118 ls st t I L R Q = WP V 158 119 ls (.int (nI 4) :: st) t I L R Q := wp_go rfl
theorem i158_119 {x y : Int32} : WP V 158 119 ls (.int y :: .int x :: st) t I L R Q = if y ≤ x then WP V 158 138 ls st t I L R Q else WP V 158 120 ls st t I L R Q := wp_br (c := m_cc .ge x y) rfl rfl
theorem i158_120 {w1 w2 w3 w4 : Value} {x : Nat} : WP V 158 120 [.ref x, w1, w2, w3, w4] st t I L R Q = WP V 158 121 [.ref x, w1, w2, w3, w4] (.ref x :: st) t I L R Q := wp_go rfl
theorem i158_121 {k : Nat} (h1 : k < t) (h2 : m_ob k 8 = true) : WP V 158 121 ls (.ref k :: st) t I L R Q = WP V 158 122 ls (m_rv (R k 0) :: st) t I L R Q := wp_getR rfl (by decide) h1 h2
theorem i158_122 {w0 w1 w2 w4 : Value} {x : Int32} : WP V 158 122 [w0, w1, w2, .int x, w4] st t I L R Q = WP V 158 123 [w0, w1, w2, .int x, w4] (.int x :: st) t I L R Q := wp_go rfl
theorem i158_123  : WP V 158 123 ls st t I L R Q = WP V 158 124 ls (.int (nI 106) :: st) t I L R Q := wp_go rfl
theorem i158_124 {x y : Int32} : WP V 158 124 ls (.int y :: .int x :: st) t I L R Q = WP V 158 125 ls (.int (x + y) :: st) t I L R Q := wp_go rfl
theorem i158_125 {w0 w1 w2 w3 : Value} {x : Int32} : WP V 158 125 [w0, w1, w2, w3, .int x] st t I L R Q = WP V 158 126 [w0, w1, w2, w3, .int x] (.int x :: st) t I L R Q := wp_go rfl
theorem i158_126 {x y : Int32} : WP V 158 126 ls (.int y :: .int x :: st) t I L R Q = WP V 158 127 ls (.int (x + y) :: st) t I L R Q := wp_go rfl
theorem i158_127 {w1 w2 w3 w4 : Value} {x : Nat} : WP V 158 127 [.ref x, w1, w2, w3, w4] st t I L R Q = WP V 158 128 [.ref x, w1, w2, w3, w4] (.ref x :: st) t I L R Q := wp_go rfl
theorem i158_128 {k : Nat} (h1 : k < t) (h2 : m_ob k 8 = true) : WP V 158 128 ls (.ref k :: st) t I L R Q = WP V 158 129 ls (m_rv (R k 0) :: st) t I L R Q := wp_getR rfl (by decide) h1 h2
theorem i158_129 {w0 w1 w2 w4 : Value} {x : Int32} : WP V 158 129 [w0, w1, w2, .int x, w4] st t I L R Q = WP V 158 130 [w0, w1, w2, .int x, w4] (.int x :: st) t I L R Q := wp_go rfl
theorem i158_130  : WP V 158 130 ls st t I L R Q = WP V 158 131 ls (.int (nI 3) :: st) t I L R Q := wp_go rfl
theorem i158_131 {x y : Int32} : WP V 158 131 ls (.int y :: .int x :: st) t I L R Q = WP V 158 132 ls (.int (x + y) :: st) t I L R Q := wp_go rfl
theorem i158_132 {w0 w1 w2 w3 : Value} {x : Int32} : WP V 158 132 [w0, w1, w2, w3, .int x] st t I L R Q = WP V 158 133 [w0, w1, w2, w3, .int x] (.int x :: st) t I L R Q := wp_go rfl
theorem i158_133 {x y : Int32} : WP V 158 133 ls (.int y :: .int x :: st) t I L R Q = WP V 158 134 ls (.int (x + y) :: st) t I L R Q := wp_go rfl
theorem i158_134 {k j : Nat} (h2 : m_ar k 2 612 = true) (h1 : k < t) (h3 : j < 612) : WP V 158 134 ls (.int (nI j) :: .ref k :: st) t I L R Q = WP V 158 135 ls (.int (I k j) :: st) t I L R Q := wp_iaload rfl (by decide) h1 h2 h3
theorem i158_135 {k j : Nat} {x : Int32} (h2 : m_ar k 2 612 = true) (h1 : k < t) (h3 : j < 612) : WP V 158 135 ls (.int x :: .int (nI j) :: .ref k :: st) t I L R Q = WP V 158 136 ls st t (m_sc I k (m_sc (I k) j x)) L R Q := wp_iastore rfl (by decide) h1 h2 h3
theorem i158_136 {p : Int32} {w0 w1 w2 : Value} {x : Int32} : WP V 158 136 [w0, w1, w2, .int p, .int x] st t I L R Q = WP V 158 137 [w0, w1, w2, .int p, .int (x + (nI 1))] st t I L R Q := wp_go rfl
theorem i158_137  : WP V 158 137 ls st t I L R Q = WP V 158 117 ls st t I L R Q := wp_go rfl
theorem i158_138 {w1 w2 w3 w4 : Value} {x : Nat} : WP V 158 138 [.ref x, w1, w2, w3, w4] st t I L R Q = WP V 158 139 [.ref x, w1, w2, w3, w4] (.ref x :: st) t I L R Q := wp_go rfl
theorem i158_139 {k : Nat} (h1 : k < t) (h2 : m_ob k 8 = true) : WP V 158 139 ls (.ref k :: st) t I L R Q = WP V 158 140 ls (m_rv (R k 0) :: st) t I L R Q := wp_getR rfl (by decide) h1 h2
theorem i158_140 {w0 w1 w2 w4 : Value} {x : Int32} : WP V 158 140 [w0, w1, w2, .int x, w4] st t I L R Q = WP V 158 141 [w0, w1, w2, .int x, w4] (.int x :: st) t I L R Q := wp_go rfl
theorem i158_141  : WP V 158 141 ls st t I L R Q = WP V 158 142 ls (.int (nI 110) :: st) t I L R Q := wp_go rfl
theorem i158_142 {x y : Int32} : WP V 158 142 ls (.int y :: .int x :: st) t I L R Q = WP V 158 143 ls (.int (x + y) :: st) t I L R Q := wp_go rfl
theorem i158_143 {w1 w2 w3 w4 : Value} {x : Nat} : WP V 158 143 [.ref x, w1, w2, w3, w4] st t I L R Q = WP V 158 144 [.ref x, w1, w2, w3, w4] (.ref x :: st) t I L R Q := wp_go rfl
theorem i158_144 {k : Nat} (h1 : k < t) (h2 : m_ob k 8 = true) : WP V 158 144 ls (.ref k :: st) t I L R Q = WP V 158 145 ls (m_rv (R k 0) :: st) t I L R Q := wp_getR rfl (by decide) h1 h2
theorem i158_145 {w0 w1 w2 w4 : Value} {x : Int32} : WP V 158 145 [w0, w1, w2, .int x, w4] st t I L R Q = WP V 158 146 [w0, w1, w2, .int x, w4] (.int x :: st) t I L R Q := wp_go rfl
theorem i158_146  : WP V 158 146 ls st t I L R Q = WP V 158 147 ls (.int (nI 8) :: st) t I L R Q := wp_go rfl
theorem i158_147 {x y : Int32} : WP V 158 147 ls (.int y :: .int x :: st) t I L R Q = WP V 158 148 ls (.int (x + y) :: st) t I L R Q := wp_go rfl
theorem i158_148 {k j : Nat} (h2 : m_ar k 2 612 = true) (h1 : k < t) (h3 : j < 612) : WP V 158 148 ls (.int (nI j) :: .ref k :: st) t I L R Q = WP V 158 149 ls (.int (I k j) :: st) t I L R Q := wp_iaload rfl (by decide) h1 h2 h3
theorem i158_149 {k j : Nat} {x : Int32} (h2 : m_ar k 2 612 = true) (h1 : k < t) (h3 : j < 612) : WP V 158 149 ls (.int x :: .int (nI j) :: .ref k :: st) t I L R Q = WP V 158 150 ls st t (m_sc I k (m_sc (I k) j x)) L R Q := wp_iastore rfl (by decide) h1 h2 h3
theorem i158_150  : WP V 158 150 ls st t I L R Q = WP V 158 151 ls (.int (nI 1) :: st) t I L R Q := wp_go rfl
theorem i158_151 {x : Int32} : WP V 158 151 ls [.int x] t I L R Q = Q (some (.int x)) t I L R := wp_rti rfl rfl
-- TransactionCellsModel.endAct(I)I
theorem i159_0 {w0 w2 w3 : Value} {x : Int32} : WP V 159 0 [w0, .int x, w2, w3] st t I L R Q = WP V 159 1 [w0, .int x, w2, w3] (.int x :: st) t I L R Q := wp_go rfl
theorem i159_1 {x0 : Int32}  : WP V 159 1 ls [.int x0] t I L R Q = WPC V 113 [.int x0] 159 2 ls [] t I L R Q := wp_cls (wp_ics rfl (by decide)) (by decide) (Nat.le_of_ble_eq_true rfl) rfl rfl (Nat.le_of_ble_eq_true rfl) (Nat.le_of_ble_eq_true rfl)
theorem i159_2 {p : Int32} {w0 w2 w3 : Value} {x : Int32} : WP V 159 2 [w0, .int p, w2, w3] (.int x :: st) t I L R Q = WP V 159 3 [w0, .int p, .int x, w3] st t I L R Q := wp_go rfl
theorem i159_3 {w1 w2 w3 : Value} {x : Nat} : WP V 159 3 [.ref x, w1, w2, w3] st t I L R Q = WP V 159 4 [.ref x, w1, w2, w3] (.ref x :: st) t I L R Q := wp_go rfl
theorem i159_4 {k : Nat} (h1 : k < t) (h2 : m_ob k 8 = true) : WP V 159 4 ls (.ref k :: st) t I L R Q = WP V 159 5 ls (m_rv (R k 0) :: st) t I L R Q := wp_getR rfl (by decide) h1 h2
theorem i159_5 {w0 w1 w3 : Value} {x : Int32} : WP V 159 5 [w0, w1, .int x, w3] st t I L R Q = WP V 159 6 [w0, w1, .int x, w3] (.int x :: st) t I L R Q := wp_go rfl
theorem i159_6  : WP V 159 6 ls st t I L R Q = WP V 159 7 ls (.int (nI 101) :: st) t I L R Q := wp_go rfl
theorem i159_7 {x y : Int32} : WP V 159 7 ls (.int y :: .int x :: st) t I L R Q = WP V 159 8 ls (.int (x + y) :: st) t I L R Q := wp_go rfl
theorem i159_8 {k j : Nat} (h2 : m_ar k 2 612 = true) (h1 : k < t) (h3 : j < 612) : WP V 159 8 ls (.int (nI j) :: .ref k :: st) t I L R Q = WP V 159 9 ls (.int (I k j) :: st) t I L R Q := wp_iaload rfl (by decide) h1 h2 h3
theorem i159_9 {x : Int32} : WP V 159 9 ls (.int x :: st) t I L R Q = if x = nI 0 then WP V 159 23 ls st t I L R Q else WP V 159 10 ls st t I L R Q := wp_br (c := m_cc .eq x 0) rfl rfl
theorem i159_10 {w1 w2 w3 : Value} {x : Nat} : WP V 159 10 [.ref x, w1, w2, w3] st t I L R Q = WP V 159 11 [.ref x, w1, w2, w3] (.ref x :: st) t I L R Q := wp_go rfl
theorem i159_11 {k : Nat} (h1 : k < t) (h2 : m_ob k 8 = true) : WP V 159 11 ls (.ref k :: st) t I L R Q = WP V 159 12 ls (m_rv (R k 0) :: st) t I L R Q := wp_getR rfl (by decide) h1 h2
theorem i159_12 {w0 w1 w3 : Value} {x : Int32} : WP V 159 12 [w0, w1, .int x, w3] st t I L R Q = WP V 159 13 [w0, w1, .int x, w3] (.int x :: st) t I L R Q := wp_go rfl
theorem i159_13  : WP V 159 13 ls st t I L R Q = WP V 159 14 ls (.int (nI 8) :: st) t I L R Q := wp_go rfl
theorem i159_14 {x y : Int32} : WP V 159 14 ls (.int y :: .int x :: st) t I L R Q = WP V 159 15 ls (.int (x + y) :: st) t I L R Q := wp_go rfl
theorem i159_15 {k j : Nat} (h2 : m_ar k 2 612 = true) (h1 : k < t) (h3 : j < 612) : WP V 159 15 ls (.int (nI j) :: .ref k :: st) t I L R Q = WP V 159 16 ls (.int (I k j) :: st) t I L R Q := wp_iaload rfl (by decide) h1 h2 h3
theorem i159_16 {w1 w2 w3 : Value} {x : Nat} : WP V 159 16 [.ref x, w1, w2, w3] st t I L R Q = WP V 159 17 [.ref x, w1, w2, w3] (.ref x :: st) t I L R Q := wp_go rfl
theorem i159_17 {k : Nat} (h1 : k < t) (h2 : m_ob k 8 = true) : WP V 159 17 ls (.ref k :: st) t I L R Q = WP V 159 18 ls (m_rv (R k 0) :: st) t I L R Q := wp_getR rfl (by decide) h1 h2
theorem i159_18 {w0 w1 w3 : Value} {x : Int32} : WP V 159 18 [w0, w1, .int x, w3] st t I L R Q = WP V 159 19 [w0, w1, .int x, w3] (.int x :: st) t I L R Q := wp_go rfl
theorem i159_19  : WP V 159 19 ls st t I L R Q = WP V 159 20 ls (.int (nI 110) :: st) t I L R Q := wp_go rfl
theorem i159_20 {x y : Int32} : WP V 159 20 ls (.int y :: .int x :: st) t I L R Q = WP V 159 21 ls (.int (x + y) :: st) t I L R Q := wp_go rfl
theorem i159_21 {k j : Nat} (h2 : m_ar k 2 612 = true) (h1 : k < t) (h3 : j < 612) : WP V 159 21 ls (.int (nI j) :: .ref k :: st) t I L R Q = WP V 159 22 ls (.int (I k j) :: st) t I L R Q := wp_iaload rfl (by decide) h1 h2 h3
theorem i159_22 {x y : Int32} : WP V 159 22 ls (.int y :: .int x :: st) t I L R Q = if x ≤ y then WP V 159 28 ls st t I L R Q else WP V 159 23 ls st t I L R Q := wp_br (c := m_cc .le x y) rfl rfl
theorem i159_23 {w1 w2 w3 : Value} {x : Nat} : WP V 159 23 [.ref x, w1, w2, w3] st t I L R Q = WP V 159 24 [.ref x, w1, w2, w3] (.ref x :: st) t I L R Q := wp_go rfl
theorem i159_24 {w0 w2 w3 : Value} {x : Int32} : WP V 159 24 [w0, .int x, w2, w3] st t I L R Q = WP V 159 25 [w0, .int x, w2, w3] (.int x :: st) t I L R Q := wp_go rfl
theorem i159_25  : WP V 159 25 ls st t I L R Q = WP V 159 26 ls (.int (nI 5) :: st) t I L R Q := wp_go rfl
theorem i159_26 {x0 : Int32} {x1 : Int32} {x2 : Nat}  (h1 : x2 < t) (h2 : m_ob x2 8 = true) : WP V 159 26 ls [.int x0, .int x1, .ref x2] t I L R Q = WPC V 155 [.ref x2, .int x1, .int x0] 159 27 ls [] t I L R Q := wp_cls (wp_icv rfl rfl h1 h2) (by decide) (Nat.le_of_ble_eq_true rfl) rfl rfl (Nat.le_of_ble_eq_true rfl) (Nat.le_of_ble_eq_true rfl)
theorem i159_27 {x : Int32} : WP V 159 27 ls [.int x] t I L R Q = Q (some (.int x)) t I L R := wp_rti rfl rfl
theorem i159_28 {w1 w2 w3 : Value} {x : Nat} : WP V 159 28 [.ref x, w1, w2, w3] st t I L R Q = WP V 159 29 [.ref x, w1, w2, w3] (.ref x :: st) t I L R Q := wp_go rfl
theorem i159_29 {k : Nat} (h1 : k < t) (h2 : m_ob k 8 = true) : WP V 159 29 ls (.ref k :: st) t I L R Q = WP V 159 30 ls (.int (I k 1) :: st) t I L R Q := wp_getI rfl (by decide) h1 h2
theorem i159_30  : WP V 159 30 ls st t I L R Q = WP V 159 31 ls (.int (nI 3) :: st) t I L R Q := wp_go rfl
theorem i159_31 {x y : Int32} : WP V 159 31 ls (.int y :: .int x :: st) t I L R Q = if x = y then WP V 159 85 ls st t I L R Q else WP V 159 32 ls st t I L R Q := wp_br (c := m_cc .eq x y) rfl rfl
theorem i159_32 {w1 w2 w3 : Value} {x : Nat} : WP V 159 32 [.ref x, w1, w2, w3] st t I L R Q = WP V 159 33 [.ref x, w1, w2, w3] (.ref x :: st) t I L R Q := wp_go rfl
theorem i159_33 {k : Nat} (h1 : k < t) (h2 : m_ob k 8 = true) : WP V 159 33 ls (.ref k :: st) t I L R Q = WP V 159 34 ls (m_rv (R k 0) :: st) t I L R Q := wp_getR rfl (by decide) h1 h2
theorem i159_34 {w0 w1 w3 : Value} {x : Int32} : WP V 159 34 [w0, w1, .int x, w3] st t I L R Q = WP V 159 35 [w0, w1, .int x, w3] (.int x :: st) t I L R Q := wp_go rfl
theorem i159_35  : WP V 159 35 ls st t I L R Q = WP V 159 36 ls (.int (nI 102) :: st) t I L R Q := wp_go rfl
theorem i159_36 {x y : Int32} : WP V 159 36 ls (.int y :: .int x :: st) t I L R Q = WP V 159 37 ls (.int (x + y) :: st) t I L R Q := wp_go rfl
theorem i159_37 {k j : Nat} (h2 : m_ar k 2 612 = true) (h1 : k < t) (h3 : j < 612) : WP V 159 37 ls (.int (nI j) :: .ref k :: st) t I L R Q = WP V 159 38 ls (.int (I k j) :: st) t I L R Q := wp_iaload rfl (by decide) h1 h2 h3
theorem i159_38  : WP V 159 38 ls st t I L R Q = WP V 159 39 ls (.int (nI 3) :: st) t I L R Q := wp_go rfl
theorem i159_39 {x y : Int32} : WP V 159 39 ls (.int y :: .int x :: st) t I L R Q = if x = y then WP V 159 85 ls st t I L R Q else WP V 159 40 ls st t I L R Q := wp_br (c := m_cc .eq x y) rfl rfl
theorem i159_40  : WP V 159 40 ls st t I L R Q = WP V 159 41 ls (.int (nI 0) :: st) t I L R Q := wp_go rfl
theorem i159_41 {p : Int32} {w0 w1 w3 : Value} {x : Int32} : WP V 159 41 [w0, w1, .int p, w3] (.int x :: st) t I L R Q = WP V 159 42 [w0, w1, .int p, .int x] st t I L R Q := wp_go rfl
theorem i159_42 {w0 w1 w2 : Value} {x : Int32} : WP V 159 42 [w0, w1, w2, .int x] st t I L R Q = WP V 159 43 [w0, w1, w2, .int x] (.int x :: st) t I L R Q := wp_go rfl
theorem i159_43  : WP V 159 43 ls st t I L R Q = WP V 159 44 ls (.int (nI 8) :: st) t I L R Q := wp_go rfl
theorem i159_44 {x y : Int32} : WP V 159 44 ls (.int y :: .int x :: st) t I L R Q = if y ≤ x then WP V 159 76 ls st t I L R Q else WP V 159 45 ls st t I L R Q := wp_br (c := m_cc .ge x y) rfl rfl
theorem i159_45 {w1 w2 w3 : Value} {x : Nat} : WP V 159 45 [.ref x, w1, w2, w3] st t I L R Q = WP V 159 46 [.ref x, w1, w2, w3] (.ref x :: st) t I L R Q := wp_go rfl
theorem i159_46 {k : Nat} (h1 : k < t) (h2 : m_ob k 8 = true) : WP V 159 46 ls (.ref k :: st) t I L R Q = WP V 159 47 ls (m_rv (R k 0) :: st) t I L R Q := wp_getR rfl (by decide) h1 h2
theorem i159_47 {w0 w1 w3 : Value} {x : Int32} : WP V 159 47 [w0, w1, .int x, w3] st t I L R Q = WP V 159 48 [w0, w1, .int x, w3] (.int x :: st) t I L R Q := wp_go rfl
theorem i159_48  : WP V 159 48 ls st t I L R Q = WP V 159 49 ls (.int (nI 111) :: st) t I L R Q := wp_go rfl
theorem i159_49 {x y : Int32} : WP V 159 49 ls (.int y :: .int x :: st) t I L R Q = WP V 159 50 ls (.int (x + y) :: st) t I L R Q := wp_go rfl
theorem i159_50 {w0 w1 w2 : Value} {x : Int32} : WP V 159 50 [w0, w1, w2, .int x] st t I L R Q = WP V 159 51 [w0, w1, w2, .int x] (.int x :: st) t I L R Q := wp_go rfl
theorem i159_51 {x y : Int32} : WP V 159 51 ls (.int y :: .int x :: st) t I L R Q = WP V 159 52 ls (.int (x + y) :: st) t I L R Q := wp_go rfl
theorem i159_52 {k j : Nat} (h2 : m_ar k 2 612 = true) (h1 : k < t) (h3 : j < 612) : WP V 159 52 ls (.int (nI j) :: .ref k :: st) t I L R Q = WP V 159 53 ls (.int (I k j) :: st) t I L R Q := wp_iaload rfl (by decide) h1 h2 h3
theorem i159_53  : WP V 159 53 ls st t I L R Q = WP V 159 54 ls (.int (-1) :: st) t I L R Q := wp_go rfl
theorem i159_54 {x y : Int32} : WP V 159 54 ls (.int y :: .int x :: st) t I L R Q = if x = y then WP V 159 55 ls st t I L R Q else WP V 159 67 ls st t I L R Q := wp_brn (c := m_cc .ne x y) rfl rfl
theorem i159_55 {w1 w2 w3 : Value} {x : Nat} : WP V 159 55 [.ref x, w1, w2, w3] st t I L R Q = WP V 159 56 [.ref x, w1, w2, w3] (.ref x :: st) t I L R Q := wp_go rfl
theorem i159_56 {k : Nat} (h1 : k < t) (h2 : m_ob k 8 = true) : WP V 159 56 ls (.ref k :: st) t I L R Q = WP V 159 57 ls (m_rv (R k 0) :: st) t I L R Q := wp_getR rfl (by decide) h1 h2
theorem i159_57 {w0 w1 w3 : Value} {x : Int32} : WP V 159 57 [w0, w1, .int x, w3] st t I L R Q = WP V 159 58 [w0, w1, .int x, w3] (.int x :: st) t I L R Q := wp_go rfl
theorem i159_58  : WP V 159 58 ls st t I L R Q = WP V 159 59 ls (.int (nI 135) :: st) t I L R Q := wp_go rfl
theorem i159_59 {x y : Int32} : WP V 159 59 ls (.int y :: .int x :: st) t I L R Q = WP V 159 60 ls (.int (x + y) :: st) t I L R Q := wp_go rfl
theorem i159_60  : WP V 159 60 ls st t I L R Q = WP V 159 61 ls (.int (nI 2) :: st) t I L R Q := wp_go rfl
theorem i159_61 {w0 w1 w2 : Value} {x : Int32} : WP V 159 61 [w0, w1, w2, .int x] st t I L R Q = WP V 159 62 [w0, w1, w2, .int x] (.int x :: st) t I L R Q := wp_go rfl
theorem i159_62 {x y : Int32} : WP V 159 62 ls (.int y :: .int x :: st) t I L R Q = WP V 159 63 ls (.int (x * y) :: st) t I L R Q := wp_go rfl
theorem i159_63 {x y : Int32} : WP V 159 63 ls (.int y :: .int x :: st) t I L R Q = WP V 159 64 ls (.int (x + y) :: st) t I L R Q := wp_go rfl
theorem i159_64 {k j : Nat} (h2 : m_ar k 2 612 = true) (h1 : k < t) (h3 : j < 612) : WP V 159 64 ls (.int (nI j) :: .ref k :: st) t I L R Q = WP V 159 65 ls (.int (I k j) :: st) t I L R Q := wp_iaload rfl (by decide) h1 h2 h3
theorem i159_65  : WP V 159 65 ls st t I L R Q = WP V 159 66 ls (.int (-1) :: st) t I L R Q := wp_go rfl
theorem i159_66 {x y : Int32} : WP V 159 66 ls (.int y :: .int x :: st) t I L R Q = if x = y then WP V 159 74 ls st t I L R Q else WP V 159 67 ls st t I L R Q := wp_br (c := m_cc .eq x y) rfl rfl
theorem i159_67 {w1 w2 w3 : Value} {x : Nat} : WP V 159 67 [.ref x, w1, w2, w3] st t I L R Q = WP V 159 68 [.ref x, w1, w2, w3] (.ref x :: st) t I L R Q := wp_go rfl
theorem i159_68 {w0 w2 w3 : Value} {x : Int32} : WP V 159 68 [w0, .int x, w2, w3] st t I L R Q = WP V 159 69 [w0, .int x, w2, w3] (.int x :: st) t I L R Q := wp_go rfl
theorem i159_69 {w0 w1 w2 : Value} {x : Int32} : WP V 159 69 [w0, w1, w2, .int x] st t I L R Q = WP V 159 70 [w0, w1, w2, .int x] (.int x :: st) t I L R Q := wp_go rfl
theorem i159_70 {x0 : Int32} {x1 : Int32} {x2 : Nat}  (h1 : x2 < t) (h2 : m_ob x2 8 = true) : WP V 159 70 ls [.int x0, .int x1, .ref x2] t I L R Q = WPC V 147 [.ref x2, .int x1, .int x0] 159 71 ls [] t I L R Q := wp_cls (wp_icv rfl rfl h1 h2) (by decide) (Nat.le_of_ble_eq_true rfl) rfl rfl (Nat.le_of_ble_eq_true rfl) (Nat.le_of_ble_eq_true rfl)
theorem i159_71 {x : Int32} : WP V 159 71 ls (.int x :: st) t I L R Q = if x = nI 0 then WP V 159 74 ls st t I L R Q else WP V 159 72 ls st t I L R Q := wp_br (c := m_cc .eq x 0) rfl rfl
theorem i159_72  : WP V 159 72 ls st t I L R Q = WP V 159 73 ls (.int (nI 0) :: st) t I L R Q := wp_go rfl
theorem i159_73 {x : Int32} : WP V 159 73 ls [.int x] t I L R Q = Q (some (.int x)) t I L R := wp_rti rfl rfl
theorem i159_74 {p : Int32} {w0 w1 : Value} {x : Int32} : WP V 159 74 [w0, w1, .int p, .int x] st t I L R Q = WP V 159 75 [w0, w1, .int p, .int (x + (nI 1))] st t I L R Q := wp_go rfl
theorem i159_75  : WP V 159 75 ls st t I L R Q = WP V 159 42 ls st t I L R Q := wp_go rfl
theorem i159_76 {w1 w2 w3 : Value} {x : Nat} : WP V 159 76 [.ref x, w1, w2, w3] st t I L R Q = WP V 159 77 [.ref x, w1, w2, w3] (.ref x :: st) t I L R Q := wp_go rfl
theorem i159_77 {w0 w2 w3 : Value} {x : Int32} : WP V 159 77 [w0, .int x, w2, w3] st t I L R Q = WP V 159 78 [w0, .int x, w2, w3] (.int x :: st) t I L R Q := wp_go rfl
theorem i159_78 {x0 : Int32} {x1 : Nat}  (h1 : x1 < t) (h2 : m_ob x1 8 = true) : WP V 159 78 ls [.int x0, .ref x1] t I L R Q = WPC V 140 [.ref x1, .int x0] 159 79 ls [] t I L R Q := wp_cls (wp_icv rfl rfl h1 h2) (by decide) (Nat.le_of_ble_eq_true rfl) rfl rfl (Nat.le_of_ble_eq_true rfl) (Nat.le_of_ble_eq_true rfl)
theorem i159_79 {x : Int32} : WP V 159 79 ls (.int x :: st) t I L R Q = if x = nI 0 then WP V 159 85 ls st t I L R Q else WP V 159 80 ls st t I L R Q := wp_br (c := m_cc .eq x 0) rfl rfl
theorem i159_80 {w1 w2 w3 : Value} {x : Nat} : WP V 159 80 [.ref x, w1, w2, w3] st t I L R Q = WP V 159 81 [.ref x, w1, w2, w3] (.ref x :: st) t I L R Q := wp_go rfl
theorem i159_81 {w0 w2 w3 : Value} {x : Int32} : WP V 159 81 [w0, .int x, w2, w3] st t I L R Q = WP V 159 82 [w0, .int x, w2, w3] (.int x :: st) t I L R Q := wp_go rfl
theorem i159_82 {x0 : Int32} {x1 : Nat}  (h1 : x1 < t) (h2 : m_ob x1 8 = true) : WP V 159 82 ls [.int x0, .ref x1] t I L R Q = WPC V 142 [.ref x1, .int x0] 159 83 ls [] t I L R Q := wp_cls (wp_icv rfl rfl h1 h2) (by decide) (Nat.le_of_ble_eq_true rfl) rfl rfl (Nat.le_of_ble_eq_true rfl) (Nat.le_of_ble_eq_true rfl)
theorem i159_83  : WP V 159 83 ls st t I L R Q = WP V 159 84 ls (.int (nI 2) :: st) t I L R Q := wp_go rfl
theorem i159_84 {x : Int32} : WP V 159 84 ls [.int x] t I L R Q = Q (some (.int x)) t I L R := wp_rti rfl rfl
theorem i159_85 {w1 w2 w3 : Value} {x : Nat} : WP V 159 85 [.ref x, w1, w2, w3] st t I L R Q = WP V 159 86 [.ref x, w1, w2, w3] (.ref x :: st) t I L R Q := wp_go rfl
theorem i159_86 {w0 w2 w3 : Value} {x : Int32} : WP V 159 86 [w0, .int x, w2, w3] st t I L R Q = WP V 159 87 [w0, .int x, w2, w3] (.int x :: st) t I L R Q := wp_go rfl
theorem i159_87 {x0 : Int32} {x1 : Nat}  (h1 : x1 < t) (h2 : m_ob x1 8 = true) : WP V 159 87 ls [.int x0, .ref x1] t I L R Q = WPC V 143 [.ref x1, .int x0] 159 88 ls [] t I L R Q := wp_cls (wp_icv rfl rfl h1 h2) (by decide) (Nat.le_of_ble_eq_true rfl) rfl rfl (Nat.le_of_ble_eq_true rfl) (Nat.le_of_ble_eq_true rfl)
theorem i159_88 {w1 w2 w3 : Value} {x : Nat} : WP V 159 88 [.ref x, w1, w2, w3] st t I L R Q = WP V 159 89 [.ref x, w1, w2, w3] (.ref x :: st) t I L R Q := wp_go rfl
theorem i159_89 {k : Nat} (h1 : k < t) (h2 : m_ob k 8 = true) : WP V 159 89 ls (.ref k :: st) t I L R Q = WP V 159 90 ls (m_rv (R k 0) :: st) t I L R Q := wp_getR rfl (by decide) h1 h2
theorem i159_90 {w0 w1 w3 : Value} {x : Int32} : WP V 159 90 [w0, w1, .int x, w3] st t I L R Q = WP V 159 91 [w0, w1, .int x, w3] (.int x :: st) t I L R Q := wp_go rfl
theorem i159_91  : WP V 159 91 ls st t I L R Q = WP V 159 92 ls (.int (nI 1) :: st) t I L R Q := wp_go rfl
theorem i159_92 {x y : Int32} : WP V 159 92 ls (.int y :: .int x :: st) t I L R Q = WP V 159 93 ls (.int (x + y) :: st) t I L R Q := wp_go rfl
theorem i159_93 {v0 : Int32} {v1 : Nat} : WP V 159 93 ls (.int v0 :: .ref v1 :: st) t I L R Q = WP V 159 94 ls (.int v0 :: .ref v1 :: .int v0 :: .ref v1 :: st) t I L R Q := wp_go rfl
theorem i159_94 {k j : Nat} (h2 : m_ar k 2 612 = true) (h1 : k < t) (h3 : j < 612) : WP V 159 94 ls (.int (nI j) :: .ref k :: st) t I L R Q = WP V 159 95 ls (.int (I k j) :: st) t I L R Q := wp_iaload rfl (by decide) h1 h2 h3
theorem i159_95  : WP V 159 95 ls st t I L R Q = WP V 159 96 ls (.int (nI 1) :: st) t I L R Q := wp_go rfl
theorem i159_96 {x y : Int32} : WP V 159 96 ls (.int y :: .int x :: st) t I L R Q = WP V 159 97 ls (.int (x + y) :: st) t I L R Q := wp_go rfl
theorem i159_97 {k j : Nat} {x : Int32} (h2 : m_ar k 2 612 = true) (h1 : k < t) (h3 : j < 612) : WP V 159 97 ls (.int x :: .int (nI j) :: .ref k :: st) t I L R Q = WP V 159 98 ls st t (m_sc I k (m_sc (I k) j x)) L R Q := wp_iastore rfl (by decide) h1 h2 h3
theorem i159_98  : WP V 159 98 ls st t I L R Q = WP V 159 99 ls (.int (nI 1) :: st) t I L R Q := wp_go rfl
theorem i159_99 {x : Int32} : WP V 159 99 ls [.int x] t I L R Q = Q (some (.int x)) t I L R := wp_rti rfl rfl
-- TransactionCellsModel.retry(I)I
theorem i160_0 {w0 w2 w3 : Value} {x : Int32} : WP V 160 0 [w0, .int x, w2, w3] st t I L R Q = WP V 160 1 [w0, .int x, w2, w3] (.int x :: st) t I L R Q := wp_go rfl
theorem i160_1 {x0 : Int32}  : WP V 160 1 ls [.int x0] t I L R Q = WPC V 113 [.int x0] 160 2 ls [] t I L R Q := wp_cls (wp_ics rfl (by decide)) (by decide) (Nat.le_of_ble_eq_true rfl) rfl rfl (Nat.le_of_ble_eq_true rfl) (Nat.le_of_ble_eq_true rfl)
theorem i160_2 {p : Int32} {w0 w2 w3 : Value} {x : Int32} : WP V 160 2 [w0, .int p, w2, w3] (.int x :: st) t I L R Q = WP V 160 3 [w0, .int p, .int x, w3] st t I L R Q := wp_go rfl
theorem i160_3 {w1 w2 w3 : Value} {x : Nat} : WP V 160 3 [.ref x, w1, w2, w3] st t I L R Q = WP V 160 4 [.ref x, w1, w2, w3] (.ref x :: st) t I L R Q := wp_go rfl
theorem i160_4 {k : Nat} (h1 : k < t) (h2 : m_ob k 8 = true) : WP V 160 4 ls (.ref k :: st) t I L R Q = WP V 160 5 ls (m_rv (R k 0) :: st) t I L R Q := wp_getR rfl (by decide) h1 h2
theorem i160_5 {w0 w1 w3 : Value} {x : Int32} : WP V 160 5 [w0, w1, .int x, w3] st t I L R Q = WP V 160 6 [w0, w1, .int x, w3] (.int x :: st) t I L R Q := wp_go rfl
theorem i160_6  : WP V 160 6 ls st t I L R Q = WP V 160 7 ls (.int (nI 101) :: st) t I L R Q := wp_go rfl
theorem i160_7 {x y : Int32} : WP V 160 7 ls (.int y :: .int x :: st) t I L R Q = WP V 160 8 ls (.int (x + y) :: st) t I L R Q := wp_go rfl
theorem i160_8 {k j : Nat} (h2 : m_ar k 2 612 = true) (h1 : k < t) (h3 : j < 612) : WP V 160 8 ls (.int (nI j) :: .ref k :: st) t I L R Q = WP V 160 9 ls (.int (I k j) :: st) t I L R Q := wp_iaload rfl (by decide) h1 h2 h3
theorem i160_9 {x : Int32} : WP V 160 9 ls (.int x :: st) t I L R Q = if x = nI 0 then WP V 160 18 ls st t I L R Q else WP V 160 10 ls st t I L R Q := wp_br (c := m_cc .eq x 0) rfl rfl
theorem i160_10 {w1 w2 w3 : Value} {x : Nat} : WP V 160 10 [.ref x, w1, w2, w3] st t I L R Q = WP V 160 11 [.ref x, w1, w2, w3] (.ref x :: st) t I L R Q := wp_go rfl
theorem i160_11 {k : Nat} (h1 : k < t) (h2 : m_ob k 8 = true) : WP V 160 11 ls (.ref k :: st) t I L R Q = WP V 160 12 ls (m_rv (R k 0) :: st) t I L R Q := wp_getR rfl (by decide) h1 h2
theorem i160_12 {w0 w1 w3 : Value} {x : Int32} : WP V 160 12 [w0, w1, .int x, w3] st t I L R Q = WP V 160 13 [w0, w1, .int x, w3] (.int x :: st) t I L R Q := wp_go rfl
theorem i160_13  : WP V 160 13 ls st t I L R Q = WP V 160 14 ls (.int (nI 102) :: st) t I L R Q := wp_go rfl
theorem i160_14 {x y : Int32} : WP V 160 14 ls (.int y :: .int x :: st) t I L R Q = WP V 160 15 ls (.int (x + y) :: st) t I L R Q := wp_go rfl
theorem i160_15 {k j : Nat} (h2 : m_ar k 2 612 = true) (h1 : k < t) (h3 : j < 612) : WP V 160 15 ls (.int (nI j) :: .ref k :: st) t I L R Q = WP V 160 16 ls (.int (I k j) :: st) t I L R Q := wp_iaload rfl (by decide) h1 h2 h3
theorem i160_16  : WP V 160 16 ls st t I L R Q = WP V 160 17 ls (.int (nI 2) :: st) t I L R Q := wp_go rfl
theorem i160_17 {x y : Int32} : WP V 160 17 ls (.int y :: .int x :: st) t I L R Q = if x = y then WP V 160 23 ls st t I L R Q else WP V 160 18 ls st t I L R Q := wp_br (c := m_cc .eq x y) rfl rfl
theorem i160_18 {w1 w2 w3 : Value} {x : Nat} : WP V 160 18 [.ref x, w1, w2, w3] st t I L R Q = WP V 160 19 [.ref x, w1, w2, w3] (.ref x :: st) t I L R Q := wp_go rfl
theorem i160_19 {w0 w2 w3 : Value} {x : Int32} : WP V 160 19 [w0, .int x, w2, w3] st t I L R Q = WP V 160 20 [w0, .int x, w2, w3] (.int x :: st) t I L R Q := wp_go rfl
theorem i160_20  : WP V 160 20 ls st t I L R Q = WP V 160 21 ls (.int (nI 5) :: st) t I L R Q := wp_go rfl
theorem i160_21 {x0 : Int32} {x1 : Int32} {x2 : Nat}  (h1 : x2 < t) (h2 : m_ob x2 8 = true) : WP V 160 21 ls [.int x0, .int x1, .ref x2] t I L R Q = WPC V 155 [.ref x2, .int x1, .int x0] 160 22 ls [] t I L R Q := wp_cls (wp_icv rfl rfl h1 h2) (by decide) (Nat.le_of_ble_eq_true rfl) rfl rfl (Nat.le_of_ble_eq_true rfl) (Nat.le_of_ble_eq_true rfl)
theorem i160_22 {x : Int32} : WP V 160 22 ls [.int x] t I L R Q = Q (some (.int x)) t I L R := wp_rti rfl rfl
theorem i160_23 {w1 w2 w3 : Value} {x : Nat} : WP V 160 23 [.ref x, w1, w2, w3] st t I L R Q = WP V 160 24 [.ref x, w1, w2, w3] (.ref x :: st) t I L R Q := wp_go rfl
theorem i160_24 {k : Nat} (h1 : k < t) (h2 : m_ob k 8 = true) : WP V 160 24 ls (.ref k :: st) t I L R Q = WP V 160 25 ls (m_rv (R k 0) :: st) t I L R Q := wp_getR rfl (by decide) h1 h2
theorem i160_25 {w0 w1 w3 : Value} {x : Int32} : WP V 160 25 [w0, w1, .int x, w3] st t I L R Q = WP V 160 26 [w0, w1, .int x, w3] (.int x :: st) t I L R Q := wp_go rfl
theorem i160_26  : WP V 160 26 ls st t I L R Q = WP V 160 27 ls (.int (nI 8) :: st) t I L R Q := wp_go rfl
theorem i160_27 {x y : Int32} : WP V 160 27 ls (.int y :: .int x :: st) t I L R Q = WP V 160 28 ls (.int (x + y) :: st) t I L R Q := wp_go rfl
theorem i160_28 {k j : Nat} (h2 : m_ar k 2 612 = true) (h1 : k < t) (h3 : j < 612) : WP V 160 28 ls (.int (nI j) :: .ref k :: st) t I L R Q = WP V 160 29 ls (.int (I k j) :: st) t I L R Q := wp_iaload rfl (by decide) h1 h2 h3
theorem i160_29  : WP V 160 29 ls st t I L R Q = WP V 160 30 ls (.int (nI 1) :: st) t I L R Q := wp_go rfl
theorem i160_30 {x y : Int32} : WP V 160 30 ls (.int y :: .int x :: st) t I L R Q = WP V 160 31 ls (.int (x - y) :: st) t I L R Q := wp_go rfl
theorem i160_31 {p : Int32} {w0 w1 w3 : Value} {x : Int32} : WP V 160 31 [w0, w1, .int p, w3] (.int x :: st) t I L R Q = WP V 160 32 [w0, w1, .int p, .int x] st t I L R Q := wp_go rfl
theorem i160_32 {w0 w1 w2 : Value} {x : Int32} : WP V 160 32 [w0, w1, w2, .int x] st t I L R Q = WP V 160 33 [w0, w1, w2, .int x] (.int x :: st) t I L R Q := wp_go rfl
theorem i160_33 {w1 w2 w3 : Value} {x : Nat} : WP V 160 33 [.ref x, w1, w2, w3] st t I L R Q = WP V 160 34 [.ref x, w1, w2, w3] (.ref x :: st) t I L R Q := wp_go rfl
theorem i160_34 {k : Nat} (h1 : k < t) (h2 : m_ob k 8 = true) : WP V 160 34 ls (.ref k :: st) t I L R Q = WP V 160 35 ls (m_rv (R k 0) :: st) t I L R Q := wp_getR rfl (by decide) h1 h2
theorem i160_35 {w0 w1 w3 : Value} {x : Int32} : WP V 160 35 [w0, w1, .int x, w3] st t I L R Q = WP V 160 36 [w0, w1, .int x, w3] (.int x :: st) t I L R Q := wp_go rfl
theorem i160_36  : WP V 160 36 ls st t I L R Q = WP V 160 37 ls (.int (nI 110) :: st) t I L R Q := wp_go rfl
theorem i160_37 {x y : Int32} : WP V 160 37 ls (.int y :: .int x :: st) t I L R Q = WP V 160 38 ls (.int (x + y) :: st) t I L R Q := wp_go rfl
theorem i160_38 {k j : Nat} (h2 : m_ar k 2 612 = true) (h1 : k < t) (h3 : j < 612) : WP V 160 38 ls (.int (nI j) :: .ref k :: st) t I L R Q = WP V 160 39 ls (.int (I k j) :: st) t I L R Q := wp_iaload rfl (by decide) h1 h2 h3
theorem i160_39 {x y : Int32} : WP V 160 39 ls (.int y :: .int x :: st) t I L R Q = if x < y then WP V 160 53 ls st t I L R Q else WP V 160 40 ls st t I L R Q := wp_br (c := m_cc .lt x y) rfl rfl
theorem i160_40 {w1 w2 w3 : Value} {x : Nat} : WP V 160 40 [.ref x, w1, w2, w3] st t I L R Q = WP V 160 41 [.ref x, w1, w2, w3] (.ref x :: st) t I L R Q := wp_go rfl
theorem i160_41 {k : Nat} (h1 : k < t) (h2 : m_ob k 8 = true) : WP V 160 41 ls (.ref k :: st) t I L R Q = WP V 160 42 ls (m_rv (R k 0) :: st) t I L R Q := wp_getR rfl (by decide) h1 h2
theorem i160_42 {w0 w1 w3 : Value} {x : Int32} : WP V 160 42 [w0, w1, .int x, w3] st t I L R Q = WP V 160 43 [w0, w1, .int x, w3] (.int x :: st) t I L R Q := wp_go rfl
theorem i160_43  : WP V 160 43 ls st t I L R Q = WP V 160 44 ls (.int (nI 9) :: st) t I L R Q := wp_go rfl
theorem i160_44 {x y : Int32} : WP V 160 44 ls (.int y :: .int x :: st) t I L R Q = WP V 160 45 ls (.int (x + y) :: st) t I L R Q := wp_go rfl
theorem i160_45  : WP V 160 45 ls st t I L R Q = WP V 160 46 ls (.int (nI 23) :: st) t I L R Q := wp_go rfl
theorem i160_46 {w0 w1 w2 : Value} {x : Int32} : WP V 160 46 [w0, w1, w2, .int x] st t I L R Q = WP V 160 47 [w0, w1, w2, .int x] (.int x :: st) t I L R Q := wp_go rfl
theorem i160_47 {x y : Int32} : WP V 160 47 ls (.int y :: .int x :: st) t I L R Q = WP V 160 48 ls (.int (x * y) :: st) t I L R Q := wp_go rfl
theorem i160_48 {x y : Int32} : WP V 160 48 ls (.int y :: .int x :: st) t I L R Q = WP V 160 49 ls (.int (x + y) :: st) t I L R Q := wp_go rfl
theorem i160_49 {k j : Nat} (h2 : m_ar k 2 612 = true) (h1 : k < t) (h3 : j < 612) : WP V 160 49 ls (.int (nI j) :: .ref k :: st) t I L R Q = WP V 160 50 ls (.int (I k j) :: st) t I L R Q := wp_iaload rfl (by decide) h1 h2 h3
theorem i160_50 {x : Int32} : WP V 160 50 ls (.int x :: st) t I L R Q = if x = nI 0 then WP V 160 53 ls st t I L R Q else WP V 160 51 ls st t I L R Q := wp_br (c := m_cc .eq x 0) rfl rfl
theorem i160_51 {p : Int32} {w0 w1 : Value} {x : Int32} : WP V 160 51 [w0, w1, .int p, .int x] st t I L R Q = WP V 160 52 [w0, w1, .int p, .int (x + (-1))] st t I L R Q := wp_go rfl
theorem i160_52  : WP V 160 52 ls st t I L R Q = WP V 160 32 ls st t I L R Q := wp_go rfl
theorem i160_53 {w0 w1 w2 : Value} {x : Int32} : WP V 160 53 [w0, w1, w2, .int x] st t I L R Q = WP V 160 54 [w0, w1, w2, .int x] (.int x :: st) t I L R Q := wp_go rfl
theorem i160_54 {w1 w2 w3 : Value} {x : Nat} : WP V 160 54 [.ref x, w1, w2, w3] st t I L R Q = WP V 160 55 [.ref x, w1, w2, w3] (.ref x :: st) t I L R Q := wp_go rfl
theorem i160_55 {k : Nat} (h1 : k < t) (h2 : m_ob k 8 = true) : WP V 160 55 ls (.ref k :: st) t I L R Q = WP V 160 56 ls (m_rv (R k 0) :: st) t I L R Q := wp_getR rfl (by decide) h1 h2
theorem i160_56 {w0 w1 w3 : Value} {x : Int32} : WP V 160 56 [w0, w1, .int x, w3] st t I L R Q = WP V 160 57 [w0, w1, .int x, w3] (.int x :: st) t I L R Q := wp_go rfl
theorem i160_57  : WP V 160 57 ls st t I L R Q = WP V 160 58 ls (.int (nI 110) :: st) t I L R Q := wp_go rfl
theorem i160_58 {x y : Int32} : WP V 160 58 ls (.int y :: .int x :: st) t I L R Q = WP V 160 59 ls (.int (x + y) :: st) t I L R Q := wp_go rfl
theorem i160_59 {k j : Nat} (h2 : m_ar k 2 612 = true) (h1 : k < t) (h3 : j < 612) : WP V 160 59 ls (.int (nI j) :: .ref k :: st) t I L R Q = WP V 160 60 ls (.int (I k j) :: st) t I L R Q := wp_iaload rfl (by decide) h1 h2 h3
theorem i160_60 {x y : Int32} : WP V 160 60 ls (.int y :: .int x :: st) t I L R Q = if x < y then WP V 160 89 ls st t I L R Q else WP V 160 61 ls st t I L R Q := wp_br (c := m_cc .lt x y) rfl rfl
theorem i160_61 {w1 w2 w3 : Value} {x : Nat} : WP V 160 61 [.ref x, w1, w2, w3] st t I L R Q = WP V 160 62 [.ref x, w1, w2, w3] (.ref x :: st) t I L R Q := wp_go rfl
theorem i160_62 {w0 w2 w3 : Value} {x : Int32} : WP V 160 62 [w0, .int x, w2, w3] st t I L R Q = WP V 160 63 [w0, .int x, w2, w3] (.int x :: st) t I L R Q := wp_go rfl
theorem i160_63 {w0 w1 w2 : Value} {x : Int32} : WP V 160 63 [w0, w1, w2, .int x] st t I L R Q = WP V 160 64 [w0, w1, w2, .int x] (.int x :: st) t I L R Q := wp_go rfl
theorem i160_64 {x0 : Int32} {x1 : Int32} {x2 : Nat}  (h1 : x2 < t) (h2 : m_ob x2 8 = true) : WP V 160 64 ls [.int x0, .int x1, .ref x2] t I L R Q = WPC V 154 [.ref x2, .int x1, .int x0] 160 65 ls [] t I L R Q := wp_cls (wp_icv rfl rfl h1 h2) (by decide) (Nat.le_of_ble_eq_true rfl) rfl rfl (Nat.le_of_ble_eq_true rfl) (Nat.le_of_ble_eq_true rfl)
theorem i160_65 {w1 w2 w3 : Value} {x : Nat} : WP V 160 65 [.ref x, w1, w2, w3] st t I L R Q = WP V 160 66 [.ref x, w1, w2, w3] (.ref x :: st) t I L R Q := wp_go rfl
theorem i160_66 {k : Nat} (h1 : k < t) (h2 : m_ob k 8 = true) : WP V 160 66 ls (.ref k :: st) t I L R Q = WP V 160 67 ls (m_rv (R k 0) :: st) t I L R Q := wp_getR rfl (by decide) h1 h2
theorem i160_67 {w0 w1 w3 : Value} {x : Int32} : WP V 160 67 [w0, w1, .int x, w3] st t I L R Q = WP V 160 68 [w0, w1, .int x, w3] (.int x :: st) t I L R Q := wp_go rfl
theorem i160_68  : WP V 160 68 ls st t I L R Q = WP V 160 69 ls (.int (nI 1) :: st) t I L R Q := wp_go rfl
theorem i160_69 {x y : Int32} : WP V 160 69 ls (.int y :: .int x :: st) t I L R Q = WP V 160 70 ls (.int (x + y) :: st) t I L R Q := wp_go rfl
theorem i160_70 {w1 w2 w3 : Value} {x : Nat} : WP V 160 70 [.ref x, w1, w2, w3] st t I L R Q = WP V 160 71 [.ref x, w1, w2, w3] (.ref x :: st) t I L R Q := wp_go rfl
theorem i160_71 {k : Nat} (h1 : k < t) (h2 : m_ob k 8 = true) : WP V 160 71 ls (.ref k :: st) t I L R Q = WP V 160 72 ls (m_rv (R k 0) :: st) t I L R Q := wp_getR rfl (by decide) h1 h2
theorem i160_72 {w0 w1 w3 : Value} {x : Int32} : WP V 160 72 [w0, w1, .int x, w3] st t I L R Q = WP V 160 73 [w0, w1, .int x, w3] (.int x :: st) t I L R Q := wp_go rfl
theorem i160_73  : WP V 160 73 ls st t I L R Q = WP V 160 74 ls (.int (nI 9) :: st) t I L R Q := wp_go rfl
theorem i160_74 {x y : Int32} : WP V 160 74 ls (.int y :: .int x :: st) t I L R Q = WP V 160 75 ls (.int (x + y) :: st) t I L R Q := wp_go rfl
theorem i160_75  : WP V 160 75 ls st t I L R Q = WP V 160 76 ls (.int (nI 23) :: st) t I L R Q := wp_go rfl
theorem i160_76 {w0 w1 w2 : Value} {x : Int32} : WP V 160 76 [w0, w1, w2, .int x] st t I L R Q = WP V 160 77 [w0, w1, w2, .int x] (.int x :: st) t I L R Q := wp_go rfl
theorem i160_77 {x y : Int32} : WP V 160 77 ls (.int y :: .int x :: st) t I L R Q = WP V 160 78 ls (.int (x * y) :: st) t I L R Q := wp_go rfl
theorem i160_78 {x y : Int32} : WP V 160 78 ls (.int y :: .int x :: st) t I L R Q = WP V 160 79 ls (.int (x + y) :: st) t I L R Q := wp_go rfl
theorem i160_79  : WP V 160 79 ls st t I L R Q = WP V 160 80 ls (.int (nI 1) :: st) t I L R Q := wp_go rfl
theorem i160_80 {x y : Int32} : WP V 160 80 ls (.int y :: .int x :: st) t I L R Q = WP V 160 81 ls (.int (x + y) :: st) t I L R Q := wp_go rfl
theorem i160_81 {k j : Nat} (h2 : m_ar k 2 612 = true) (h1 : k < t) (h3 : j < 612) : WP V 160 81 ls (.int (nI j) :: .ref k :: st) t I L R Q = WP V 160 82 ls (.int (I k j) :: st) t I L R Q := wp_iaload rfl (by decide) h1 h2 h3
theorem i160_82 {k j : Nat} {x : Int32} (h2 : m_ar k 2 612 = true) (h1 : k < t) (h3 : j < 612) : WP V 160 82 ls (.int x :: .int (nI j) :: .ref k :: st) t I L R Q = WP V 160 83 ls st t (m_sc I k (m_sc (I k) j x)) L R Q := wp_iastore rfl (by decide) h1 h2 h3
theorem i160_83 {w1 w2 w3 : Value} {x : Nat} : WP V 160 83 [.ref x, w1, w2, w3] st t I L R Q = WP V 160 84 [.ref x, w1, w2, w3] (.ref x :: st) t I L R Q := wp_go rfl
theorem i160_84 {w0 w2 w3 : Value} {x : Int32} : WP V 160 84 [w0, .int x, w2, w3] st t I L R Q = WP V 160 85 [w0, .int x, w2, w3] (.int x :: st) t I L R Q := wp_go rfl
theorem i160_85 {w0 w1 w2 : Value} {x : Int32} : WP V 160 85 [w0, w1, w2, .int x] st t I L R Q = WP V 160 86 [w0, w1, w2, .int x] (.int x :: st) t I L R Q := wp_go rfl
theorem i160_86 {x0 : Int32} {x1 : Int32} {x2 : Nat}  (h1 : x2 < t) (h2 : m_ob x2 8 = true) : WP V 160 86 ls [.int x0, .int x1, .ref x2] t I L R Q = WPC V 141 [.ref x2, .int x1, .int x0] 160 87 ls [] t I L R Q := wp_cls (wp_icv rfl rfl h1 h2) (by decide) (Nat.le_of_ble_eq_true rfl) rfl rfl (Nat.le_of_ble_eq_true rfl) (Nat.le_of_ble_eq_true rfl)
theorem i160_87  : WP V 160 87 ls st t I L R Q = WP V 160 88 ls (.int (nI 1) :: st) t I L R Q := wp_go rfl
theorem i160_88 {x : Int32} : WP V 160 88 ls [.int x] t I L R Q = Q (some (.int x)) t I L R := wp_rti rfl rfl
theorem i160_89 {w1 w2 w3 : Value} {x : Nat} : WP V 160 89 [.ref x, w1, w2, w3] st t I L R Q = WP V 160 90 [.ref x, w1, w2, w3] (.ref x :: st) t I L R Q := wp_go rfl
theorem i160_90 {w0 w2 w3 : Value} {x : Int32} : WP V 160 90 [w0, .int x, w2, w3] st t I L R Q = WP V 160 91 [w0, .int x, w2, w3] (.int x :: st) t I L R Q := wp_go rfl
theorem i160_91 {x0 : Int32} {x1 : Nat}  (h1 : x1 < t) (h2 : m_ob x1 8 = true) : WP V 160 91 ls [.int x0, .ref x1] t I L R Q = WPC V 140 [.ref x1, .int x0] 160 92 ls [] t I L R Q := wp_cls (wp_icv rfl rfl h1 h2) (by decide) (Nat.le_of_ble_eq_true rfl) rfl rfl (Nat.le_of_ble_eq_true rfl) (Nat.le_of_ble_eq_true rfl)
theorem i160_92 {x : Int32} : WP V 160 92 ls (.int x :: st) t I L R Q = if x = nI 0 then WP V 160 98 ls st t I L R Q else WP V 160 93 ls st t I L R Q := wp_br (c := m_cc .eq x 0) rfl rfl
theorem i160_93 {w1 w2 w3 : Value} {x : Nat} : WP V 160 93 [.ref x, w1, w2, w3] st t I L R Q = WP V 160 94 [.ref x, w1, w2, w3] (.ref x :: st) t I L R Q := wp_go rfl
theorem i160_94 {w0 w2 w3 : Value} {x : Int32} : WP V 160 94 [w0, .int x, w2, w3] st t I L R Q = WP V 160 95 [w0, .int x, w2, w3] (.int x :: st) t I L R Q := wp_go rfl
theorem i160_95 {x0 : Int32} {x1 : Nat}  (h1 : x1 < t) (h2 : m_ob x1 8 = true) : WP V 160 95 ls [.int x0, .ref x1] t I L R Q = WPC V 142 [.ref x1, .int x0] 160 96 ls [] t I L R Q := wp_cls (wp_icv rfl rfl h1 h2) (by decide) (Nat.le_of_ble_eq_true rfl) rfl rfl (Nat.le_of_ble_eq_true rfl) (Nat.le_of_ble_eq_true rfl)
theorem i160_96  : WP V 160 96 ls st t I L R Q = WP V 160 97 ls (.int (nI 2) :: st) t I L R Q := wp_go rfl
theorem i160_97 {x : Int32} : WP V 160 97 ls [.int x] t I L R Q = Q (some (.int x)) t I L R := wp_rti rfl rfl
theorem i160_98 {w1 w2 w3 : Value} {x : Nat} : WP V 160 98 [.ref x, w1, w2, w3] st t I L R Q = WP V 160 99 [.ref x, w1, w2, w3] (.ref x :: st) t I L R Q := wp_go rfl
theorem i160_99 {w0 w2 w3 : Value} {x : Int32} : WP V 160 99 [w0, .int x, w2, w3] st t I L R Q = WP V 160 100 [w0, .int x, w2, w3] (.int x :: st) t I L R Q := wp_go rfl
theorem i160_100 {x0 : Int32} {x1 : Nat}  (h1 : x1 < t) (h2 : m_ob x1 8 = true) : WP V 160 100 ls [.int x0, .ref x1] t I L R Q = WPC V 118 [.ref x1, .int x0] 160 101 ls [] t I L R Q := wp_cls (wp_icv rfl rfl h1 h2) (by decide) (Nat.le_of_ble_eq_true rfl) rfl rfl (Nat.le_of_ble_eq_true rfl) (Nat.le_of_ble_eq_true rfl)
theorem i160_101 {w1 w2 w3 : Value} {x : Nat} : WP V 160 101 [.ref x, w1, w2, w3] st t I L R Q = WP V 160 102 [.ref x, w1, w2, w3] (.ref x :: st) t I L R Q := wp_go rfl
theorem i160_102 {w0 w2 w3 : Value} {x : Int32} : WP V 160 102 [w0, .int x, w2, w3] st t I L R Q = WP V 160 103 [w0, .int x, w2, w3] (.int x :: st) t I L R Q := wp_go rfl
theorem i160_103 {x0 : Int32} {x1 : Nat}  (h1 : x1 < t) (h2 : m_ob x1 8 = true) : WP V 160 103 ls [.int x0, .ref x1] t I L R Q = WPC V 138 [.ref x1, .int x0] 160 104 ls [] t I L R Q := wp_cls (wp_icv rfl rfl h1 h2) (by decide) (Nat.le_of_ble_eq_true rfl) rfl rfl (Nat.le_of_ble_eq_true rfl) (Nat.le_of_ble_eq_true rfl)
theorem i160_104 {w1 w2 w3 : Value} {x : Nat} : WP V 160 104 [.ref x, w1, w2, w3] st t I L R Q = WP V 160 105 [.ref x, w1, w2, w3] (.ref x :: st) t I L R Q := wp_go rfl
theorem i160_105 {w0 w2 w3 : Value} {x : Int32} : WP V 160 105 [w0, .int x, w2, w3] st t I L R Q = WP V 160 106 [w0, .int x, w2, w3] (.int x :: st) t I L R Q := wp_go rfl
theorem i160_106 {x0 : Int32} {x1 : Nat}  (h1 : x1 < t) (h2 : m_ob x1 8 = true) : WP V 160 106 ls [.int x0, .ref x1] t I L R Q = WPC V 139 [.ref x1, .int x0] 160 107 ls [] t I L R Q := wp_cls (wp_icv rfl rfl h1 h2) (by decide) (Nat.le_of_ble_eq_true rfl) rfl rfl (Nat.le_of_ble_eq_true rfl) (Nat.le_of_ble_eq_true rfl)
theorem i160_107 {w1 w2 w3 : Value} {x : Nat} : WP V 160 107 [.ref x, w1, w2, w3] st t I L R Q = WP V 160 108 [.ref x, w1, w2, w3] (.ref x :: st) t I L R Q := wp_go rfl
theorem i160_108 {k : Nat} (h1 : k < t) (h2 : m_ob k 8 = true) : WP V 160 108 ls (.ref k :: st) t I L R Q = WP V 160 109 ls (m_rv (R k 0) :: st) t I L R Q := wp_getR rfl (by decide) h1 h2
theorem i160_109 {w0 w1 w3 : Value} {x : Int32} : WP V 160 109 [w0, w1, .int x, w3] st t I L R Q = WP V 160 110 [w0, w1, .int x, w3] (.int x :: st) t I L R Q := wp_go rfl
theorem i160_110  : WP V 160 110 ls st t I L R Q = WP V 160 111 ls (.int (nI 0) :: st) t I L R Q := wp_go rfl
theorem i160_111 {x y : Int32} : WP V 160 111 ls (.int y :: .int x :: st) t I L R Q = WP V 160 112 ls (.int (x + y) :: st) t I L R Q := wp_go rfl
theorem i160_112  : WP V 160 112 ls st t I L R Q = WP V 160 113 ls (.int (nI 4) :: st) t I L R Q := wp_go rfl
theorem i160_113 {k j : Nat} {x : Int32} (h2 : m_ar k 2 612 = true) (h1 : k < t) (h3 : j < 612) : WP V 160 113 ls (.int x :: .int (nI j) :: .ref k :: st) t I L R Q = WP V 160 114 ls st t (m_sc I k (m_sc (I k) j x)) L R Q := wp_iastore rfl (by decide) h1 h2 h3
theorem i160_114  : WP V 160 114 ls st t I L R Q = WP V 160 115 ls (.int (nI 5) :: st) t I L R Q := wp_go rfl
theorem i160_115 {x : Int32} : WP V 160 115 ls [.int x] t I L R Q = Q (some (.int x)) t I L R := wp_rti rfl rfl
-- TransactionCellsModel.wakes(I)I
theorem i161_0 {w1 : Value} {x : Nat} : WP V 161 0 [.ref x, w1] st t I L R Q = WP V 161 1 [.ref x, w1] (.ref x :: st) t I L R Q := wp_go rfl
theorem i161_1 {w0 : Value} {x : Int32} : WP V 161 1 [w0, .int x] st t I L R Q = WP V 161 2 [w0, .int x] (.int x :: st) t I L R Q := wp_go rfl
theorem i161_2 {x0 : Int32} {x1 : Nat}  (h1 : x1 < t) (h2 : m_ob x1 8 = true) : WP V 161 2 ls [.int x0, .ref x1] t I L R Q = WPC V 140 [.ref x1, .int x0] 161 3 ls [] t I L R Q := wp_cls (wp_icv rfl rfl h1 h2) (by decide) (Nat.le_of_ble_eq_true rfl) rfl rfl (Nat.le_of_ble_eq_true rfl) (Nat.le_of_ble_eq_true rfl)
theorem i161_3 {x : Int32} : WP V 161 3 ls (.int x :: st) t I L R Q = if x = nI 0 then WP V 161 12 ls st t I L R Q else WP V 161 4 ls st t I L R Q := wp_br (c := m_cc .eq x 0) rfl rfl
theorem i161_4 {w1 : Value} {x : Nat} : WP V 161 4 [.ref x, w1] st t I L R Q = WP V 161 5 [.ref x, w1] (.ref x :: st) t I L R Q := wp_go rfl
theorem i161_5 {k : Nat} (h1 : k < t) (h2 : m_ob k 8 = true) : WP V 161 5 ls (.ref k :: st) t I L R Q = WP V 161 6 ls (.int (I k 1) :: st) t I L R Q := wp_getI rfl (by decide) h1 h2
theorem i161_6  : WP V 161 6 ls st t I L R Q = WP V 161 7 ls (.int (nI 3) :: st) t I L R Q := wp_go rfl
theorem i161_7 {x y : Int32} : WP V 161 7 ls (.int y :: .int x :: st) t I L R Q = if x = y then WP V 161 8 ls st t I L R Q else WP V 161 14 ls st t I L R Q := wp_brn (c := m_cc .ne x y) rfl rfl
theorem i161_8 {w1 : Value} {x : Nat} : WP V 161 8 [.ref x, w1] st t I L R Q = WP V 161 9 [.ref x, w1] (.ref x :: st) t I L R Q := wp_go rfl
theorem i161_9 {w0 : Value} {x : Int32} : WP V 161 9 [w0, .int x] st t I L R Q = WP V 161 10 [w0, .int x] (.int x :: st) t I L R Q := wp_go rfl
theorem i161_10 {x0 : Int32} {x1 : Nat}  (h1 : x1 < t) (h2 : m_ob x1 8 = true) : WP V 161 10 ls [.int x0, .ref x1] t I L R Q = WPC V 148 [.ref x1, .int x0] 161 11 ls [] t I L R Q := wp_cls (wp_icv rfl rfl h1 h2) (by decide) (Nat.le_of_ble_eq_true rfl) rfl rfl (Nat.le_of_ble_eq_true rfl) (Nat.le_of_ble_eq_true rfl)
theorem i161_11 {x : Int32} : WP V 161 11 ls (.int x :: st) t I L R Q = if x = nI 0 then WP V 161 14 ls st t I L R Q else WP V 161 12 ls st t I L R Q := wp_br (c := m_cc .eq x 0) rfl rfl
theorem i161_12  : WP V 161 12 ls st t I L R Q = WP V 161 13 ls (.int (nI 0) :: st) t I L R Q := wp_go rfl
theorem i161_13 {x : Int32} : WP V 161 13 ls [.int x] t I L R Q = Q (some (.int x)) t I L R := wp_rti rfl rfl
theorem i161_14 {w1 : Value} {x : Nat} : WP V 161 14 [.ref x, w1] st t I L R Q = WP V 161 15 [.ref x, w1] (.ref x :: st) t I L R Q := wp_go rfl
theorem i161_15 {k : Nat} (h1 : k < t) (h2 : m_ob k 8 = true) : WP V 161 15 ls (.ref k :: st) t I L R Q = WP V 161 16 ls (.int (I k 1) :: st) t I L R Q := wp_getI rfl (by decide) h1 h2
theorem i161_16  : WP V 161 16 ls st t I L R Q = WP V 161 17 ls (.int (nI 3) :: st) t I L R Q := wp_go rfl
theorem i161_17 {x y : Int32} : WP V 161 17 ls (.int y :: .int x :: st) t I L R Q = if x = y then WP V 161 18 ls st t I L R Q else WP V 161 23 ls st t I L R Q := wp_brn (c := m_cc .ne x y) rfl rfl
theorem i161_18 {w1 : Value} {x : Nat} : WP V 161 18 [.ref x, w1] st t I L R Q = WP V 161 19 [.ref x, w1] (.ref x :: st) t I L R Q := wp_go rfl
theorem i161_19 {k : Nat} (h1 : k < t) (h2 : m_ob k 8 = true) : WP V 161 19 ls (.ref k :: st) t I L R Q = WP V 161 20 ls (m_rv (R k 0) :: st) t I L R Q := wp_getR rfl (by decide) h1 h2
theorem i161_20  : WP V 161 20 ls st t I L R Q = WP V 161 21 ls (.int (nI 145) :: st) t I L R Q := wp_go rfl
theorem i161_21 {w0 : Value} {x : Int32} : WP V 161 21 [w0, .int x] st t I L R Q = WP V 161 22 [w0, .int x] (.int x :: st) t I L R Q := wp_go rfl
theorem i161_22 {k j : Nat} {x : Int32} (h2 : m_ar k 2 612 = true) (h1 : k < t) (h3 : j < 612) : WP V 161 22 ls (.int x :: .int (nI j) :: .ref k :: st) t I L R Q = WP V 161 23 ls st t (m_sc I k (m_sc (I k) j x)) L R Q := wp_iastore rfl (by decide) h1 h2 h3
theorem i161_23 {w1 : Value} {x : Nat} : WP V 161 23 [.ref x, w1] st t I L R Q = WP V 161 24 [.ref x, w1] (.ref x :: st) t I L R Q := wp_go rfl
theorem i161_24 {k : Nat} (h1 : k < t) (h2 : m_ob k 8 = true) : WP V 161 24 ls (.ref k :: st) t I L R Q = WP V 161 25 ls (m_rv (R k 0) :: st) t I L R Q := wp_getR rfl (by decide) h1 h2
theorem i161_25 {w0 : Value} {x : Int32} : WP V 161 25 [w0, .int x] st t I L R Q = WP V 161 26 [w0, .int x] (.int x :: st) t I L R Q := wp_go rfl
theorem i161_26 {x0 : Int32} {r0 : Nat} : WP V 161 26 ls [.int x0, .ref r0] t I L R Q = WPC V 113 [.int x0] 161 27 ls [.ref r0] t I L R Q := wp_cls (wp_ics rfl (by decide)) (by decide) (Nat.le_of_ble_eq_true rfl) rfl rfl (Nat.le_of_ble_eq_true rfl) (Nat.le_of_ble_eq_true rfl)
theorem i161_27  : WP V 161 27 ls st t I L R Q = WP V 161 28 ls (.int (nI 0) :: st) t I L R Q := wp_go rfl
theorem i161_28 {x y : Int32} : WP V 161 28 ls (.int y :: .int x :: st) t I L R Q = WP V 161 29 ls (.int (x + y) :: st) t I L R Q := wp_go rfl
theorem i161_29  : WP V 161 29 ls st t I L R Q = WP V 161 30 ls (.int (nI 1) :: st) t I L R Q := wp_go rfl
theorem i161_30 {k j : Nat} {x : Int32} (h2 : m_ar k 2 612 = true) (h1 : k < t) (h3 : j < 612) : WP V 161 30 ls (.int x :: .int (nI j) :: .ref k :: st) t I L R Q = WP V 161 31 ls st t (m_sc I k (m_sc (I k) j x)) L R Q := wp_iastore rfl (by decide) h1 h2 h3
theorem i161_31 {w1 : Value} {x : Nat} : WP V 161 31 [.ref x, w1] st t I L R Q = WP V 161 32 [.ref x, w1] (.ref x :: st) t I L R Q := wp_go rfl
theorem i161_32 {w0 : Value} {x : Int32} : WP V 161 32 [w0, .int x] st t I L R Q = WP V 161 33 [w0, .int x] (.int x :: st) t I L R Q := wp_go rfl
theorem i161_33 {x0 : Int32} {x1 : Nat}  (h1 : x1 < t) (h2 : m_ob x1 8 = true) : WP V 161 33 ls [.int x0, .ref x1] t I L R Q = WPC V 142 [.ref x1, .int x0] 161 34 ls [] t I L R Q := wp_cls (wp_icv rfl rfl h1 h2) (by decide) (Nat.le_of_ble_eq_true rfl) rfl rfl (Nat.le_of_ble_eq_true rfl) (Nat.le_of_ble_eq_true rfl)
theorem i161_34  : WP V 161 34 ls st t I L R Q = WP V 161 35 ls (.int (nI 2) :: st) t I L R Q := wp_go rfl
theorem i161_35 {x : Int32} : WP V 161 35 ls [.int x] t I L R Q = Q (some (.int x)) t I L R := wp_rti rfl rfl
-- TransactionCellsModel.next(I)I
theorem i162_0 {w1 : Value} {x : Nat} : WP V 162 0 [.ref x, w1] st t I L R Q = WP V 162 1 [.ref x, w1] (.ref x :: st) t I L R Q := wp_go rfl
theorem i162_1 {k : Nat} (h1 : k < t) (h2 : m_ob k 8 = true) : WP V 162 1 ls (.ref k :: st) t I L R Q = WP V 162 2 ls (m_rv (R k 0) :: st) t I L R Q := wp_getR rfl (by decide) h1 h2
theorem i162_2 {w0 : Value} {x : Int32} : WP V 162 2 [w0, .int x] st t I L R Q = WP V 162 3 [w0, .int x] (.int x :: st) t I L R Q := wp_go rfl
theorem i162_3 {x0 : Int32} {r0 : Nat} : WP V 162 3 ls [.int x0, .ref r0] t I L R Q = WPC V 113 [.int x0] 162 4 ls [.ref r0] t I L R Q := wp_cls (wp_ics rfl (by decide)) (by decide) (Nat.le_of_ble_eq_true rfl) rfl rfl (Nat.le_of_ble_eq_true rfl) (Nat.le_of_ble_eq_true rfl)
theorem i162_4  : WP V 162 4 ls st t I L R Q = WP V 162 5 ls (.int (nI 1) :: st) t I L R Q := wp_go rfl
theorem i162_5 {x y : Int32} : WP V 162 5 ls (.int y :: .int x :: st) t I L R Q = WP V 162 6 ls (.int (x + y) :: st) t I L R Q := wp_go rfl
theorem i162_6 {v0 : Int32} {v1 : Nat} : WP V 162 6 ls (.int v0 :: .ref v1 :: st) t I L R Q = WP V 162 7 ls (.int v0 :: .ref v1 :: .int v0 :: .ref v1 :: st) t I L R Q := wp_go rfl
theorem i162_7 {k j : Nat} (h2 : m_ar k 2 612 = true) (h1 : k < t) (h3 : j < 612) : WP V 162 7 ls (.int (nI j) :: .ref k :: st) t I L R Q = WP V 162 8 ls (.int (I k j) :: st) t I L R Q := wp_iaload rfl (by decide) h1 h2 h3
theorem i162_8  : WP V 162 8 ls st t I L R Q = WP V 162 9 ls (.int (nI 1) :: st) t I L R Q := wp_go rfl
theorem i162_9 {x y : Int32} : WP V 162 9 ls (.int y :: .int x :: st) t I L R Q = WP V 162 10 ls (.int (x + y) :: st) t I L R Q := wp_go rfl
theorem i162_10 {k j : Nat} {x : Int32} (h2 : m_ar k 2 612 = true) (h1 : k < t) (h3 : j < 612) : WP V 162 10 ls (.int x :: .int (nI j) :: .ref k :: st) t I L R Q = WP V 162 11 ls st t (m_sc I k (m_sc (I k) j x)) L R Q := wp_iastore rfl (by decide) h1 h2 h3
theorem i162_11  : WP V 162 11 ls st t I L R Q = WP V 162 12 ls (.int (nI 1) :: st) t I L R Q := wp_go rfl
theorem i162_12 {x : Int32} : WP V 162 12 ls [.int x] t I L R Q = Q (some (.int x)) t I L R := wp_rti rfl rfl
-- TransactionCellsModel.goes(II)I
theorem i163_0 {w1 w2 : Value} {x : Nat} : WP V 163 0 [.ref x, w1, w2] st t I L R Q = WP V 163 1 [.ref x, w1, w2] (.ref x :: st) t I L R Q := wp_go rfl
theorem i163_1 {k : Nat} (h1 : k < t) (h2 : m_ob k 8 = true) : WP V 163 1 ls (.ref k :: st) t I L R Q = WP V 163 2 ls (m_rv (R k 0) :: st) t I L R Q := wp_getR rfl (by decide) h1 h2
theorem i163_2 {w0 w2 : Value} {x : Int32} : WP V 163 2 [w0, .int x, w2] st t I L R Q = WP V 163 3 [w0, .int x, w2] (.int x :: st) t I L R Q := wp_go rfl
theorem i163_3 {x0 : Int32} {r0 : Nat} : WP V 163 3 ls [.int x0, .ref r0] t I L R Q = WPC V 113 [.int x0] 163 4 ls [.ref r0] t I L R Q := wp_cls (wp_ics rfl (by decide)) (by decide) (Nat.le_of_ble_eq_true rfl) rfl rfl (Nat.le_of_ble_eq_true rfl) (Nat.le_of_ble_eq_true rfl)
theorem i163_4  : WP V 163 4 ls st t I L R Q = WP V 163 5 ls (.int (nI 1) :: st) t I L R Q := wp_go rfl
theorem i163_5 {x y : Int32} : WP V 163 5 ls (.int y :: .int x :: st) t I L R Q = WP V 163 6 ls (.int (x + y) :: st) t I L R Q := wp_go rfl
theorem i163_6 {w0 w1 : Value} {x : Int32} : WP V 163 6 [w0, w1, .int x] st t I L R Q = WP V 163 7 [w0, w1, .int x] (.int x :: st) t I L R Q := wp_go rfl
theorem i163_7 {k j : Nat} {x : Int32} (h2 : m_ar k 2 612 = true) (h1 : k < t) (h3 : j < 612) : WP V 163 7 ls (.int x :: .int (nI j) :: .ref k :: st) t I L R Q = WP V 163 8 ls st t (m_sc I k (m_sc (I k) j x)) L R Q := wp_iastore rfl (by decide) h1 h2 h3
theorem i163_8  : WP V 163 8 ls st t I L R Q = WP V 163 9 ls (.int (nI 1) :: st) t I L R Q := wp_go rfl
theorem i163_9 {x : Int32} : WP V 163 9 ls [.int x] t I L R Q = Q (some (.int x)) t I L R := wp_rti rfl rfl
-- TransactionCellsModel.steps(I)I
theorem i164_0 {w0 w2 w3 w4 w5 w6 w7 w8 w9 : Value} {x : Int32} : WP V 164 0 [w0, .int x, w2, w3, w4, w5, w6, w7, w8, w9] st t I L R Q = WP V 164 1 [w0, .int x, w2, w3, w4, w5, w6, w7, w8, w9] (.int x :: st) t I L R Q := wp_go rfl
theorem i164_1 {x0 : Int32}  : WP V 164 1 ls [.int x0] t I L R Q = WPC V 113 [.int x0] 164 2 ls [] t I L R Q := wp_cls (wp_ics rfl (by decide)) (by decide) (Nat.le_of_ble_eq_true rfl) rfl rfl (Nat.le_of_ble_eq_true rfl) (Nat.le_of_ble_eq_true rfl)
theorem i164_2 {p : Int32} {w0 w2 w3 w4 w5 w6 w7 w8 w9 : Value} {x : Int32} : WP V 164 2 [w0, .int p, w2, w3, w4, w5, w6, w7, w8, w9] (.int x :: st) t I L R Q = WP V 164 3 [w0, .int p, .int x, w3, w4, w5, w6, w7, w8, w9] st t I L R Q := wp_go rfl
theorem i164_3 {w1 w2 w3 w4 w5 w6 w7 w8 w9 : Value} {x : Nat} : WP V 164 3 [.ref x, w1, w2, w3, w4, w5, w6, w7, w8, w9] st t I L R Q = WP V 164 4 [.ref x, w1, w2, w3, w4, w5, w6, w7, w8, w9] (.ref x :: st) t I L R Q := wp_go rfl
theorem i164_4 {k : Nat} (h1 : k < t) (h2 : m_ob k 8 = true) : WP V 164 4 ls (.ref k :: st) t I L R Q = WP V 164 5 ls (m_rv (R k 0) :: st) t I L R Q := wp_getR rfl (by decide) h1 h2
theorem i164_5 {w0 w1 w3 w4 w5 w6 w7 w8 w9 : Value} {x : Int32} : WP V 164 5 [w0, w1, .int x, w3, w4, w5, w6, w7, w8, w9] st t I L R Q = WP V 164 6 [w0, w1, .int x, w3, w4, w5, w6, w7, w8, w9] (.int x :: st) t I L R Q := wp_go rfl
theorem i164_6  : WP V 164 6 ls st t I L R Q = WP V 164 7 ls (.int (nI 0) :: st) t I L R Q := wp_go rfl
theorem i164_7 {x y : Int32} : WP V 164 7 ls (.int y :: .int x :: st) t I L R Q = WP V 164 8 ls (.int (x + y) :: st) t I L R Q := wp_go rfl
theorem i164_8 {k j : Nat} (h2 : m_ar k 2 612 = true) (h1 : k < t) (h3 : j < 612) : WP V 164 8 ls (.int (nI j) :: .ref k :: st) t I L R Q = WP V 164 9 ls (.int (I k j) :: st) t I L R Q := wp_iaload rfl (by decide) h1 h2 h3
theorem i164_9  : WP V 164 9 ls st t I L R Q = WP V 164 10 ls (.int (nI 4) :: st) t I L R Q := wp_go rfl
theorem i164_10 {x y : Int32} : WP V 164 10 ls (.int y :: .int x :: st) t I L R Q = if x = y then WP V 164 11 ls st t I L R Q else WP V 164 15 ls st t I L R Q := wp_brn (c := m_cc .ne x y) rfl rfl
theorem i164_11 {w1 w2 w3 w4 w5 w6 w7 w8 w9 : Value} {x : Nat} : WP V 164 11 [.ref x, w1, w2, w3, w4, w5, w6, w7, w8, w9] st t I L R Q = WP V 164 12 [.ref x, w1, w2, w3, w4, w5, w6, w7, w8, w9] (.ref x :: st) t I L R Q := wp_go rfl
theorem i164_12 {w0 w2 w3 w4 w5 w6 w7 w8 w9 : Value} {x : Int32} : WP V 164 12 [w0, .int x, w2, w3, w4, w5, w6, w7, w8, w9] st t I L R Q = WP V 164 13 [w0, .int x, w2, w3, w4, w5, w6, w7, w8, w9] (.int x :: st) t I L R Q := wp_go rfl
theorem i164_13 {x0 : Int32} {x1 : Nat}  (h1 : x1 < t) (h2 : m_ob x1 8 = true) : WP V 164 13 ls [.int x0, .ref x1] t I L R Q = WPC V 161 [.ref x1, .int x0] 164 14 ls [] t I L R Q := wp_cls (wp_icv rfl rfl h1 h2) (by decide) (Nat.le_of_ble_eq_true rfl) rfl rfl (Nat.le_of_ble_eq_true rfl) (Nat.le_of_ble_eq_true rfl)
theorem i164_14 {x : Int32} : WP V 164 14 ls [.int x] t I L R Q = Q (some (.int x)) t I L R := wp_rti rfl rfl
theorem i164_15 {w1 w2 w3 w4 w5 w6 w7 w8 w9 : Value} {x : Nat} : WP V 164 15 [.ref x, w1, w2, w3, w4, w5, w6, w7, w8, w9] st t I L R Q = WP V 164 16 [.ref x, w1, w2, w3, w4, w5, w6, w7, w8, w9] (.ref x :: st) t I L R Q := wp_go rfl
theorem i164_16 {k : Nat} (h1 : k < t) (h2 : m_ob k 8 = true) : WP V 164 16 ls (.ref k :: st) t I L R Q = WP V 164 17 ls (m_rv (R k 0) :: st) t I L R Q := wp_getR rfl (by decide) h1 h2
theorem i164_17 {w0 w1 w3 w4 w5 w6 w7 w8 w9 : Value} {x : Int32} : WP V 164 17 [w0, w1, .int x, w3, w4, w5, w6, w7, w8, w9] st t I L R Q = WP V 164 18 [w0, w1, .int x, w3, w4, w5, w6, w7, w8, w9] (.int x :: st) t I L R Q := wp_go rfl
theorem i164_18  : WP V 164 18 ls st t I L R Q = WP V 164 19 ls (.int (nI 7) :: st) t I L R Q := wp_go rfl
theorem i164_19 {x y : Int32} : WP V 164 19 ls (.int y :: .int x :: st) t I L R Q = WP V 164 20 ls (.int (x + y) :: st) t I L R Q := wp_go rfl
theorem i164_20 {k j : Nat} (h2 : m_ar k 2 612 = true) (h1 : k < t) (h3 : j < 612) : WP V 164 20 ls (.int (nI j) :: .ref k :: st) t I L R Q = WP V 164 21 ls (.int (I k j) :: st) t I L R Q := wp_iaload rfl (by decide) h1 h2 h3
theorem i164_21 {p : Int32} {w0 w1 w3 w4 w5 w6 w7 w8 w9 : Value} {x : Int32} : WP V 164 21 [w0, w1, .int p, w3, w4, w5, w6, w7, w8, w9] (.int x :: st) t I L R Q = WP V 164 22 [w0, w1, .int p, .int x, w4, w5, w6, w7, w8, w9] st t I L R Q := wp_go rfl
theorem i164_22 {w1 w2 w3 w4 w5 w6 w7 w8 w9 : Value} {x : Nat} : WP V 164 22 [.ref x, w1, w2, w3, w4, w5, w6, w7, w8, w9] st t I L R Q = WP V 164 23 [.ref x, w1, w2, w3, w4, w5, w6, w7, w8, w9] (.ref x :: st) t I L R Q := wp_go rfl
theorem i164_23 {k : Nat} (h1 : k < t) (h2 : m_ob k 8 = true) : WP V 164 23 ls (.ref k :: st) t I L R Q = WP V 164 24 ls (m_rv (R k 0) :: st) t I L R Q := wp_getR rfl (by decide) h1 h2
theorem i164_24 {w0 w1 w3 w4 w5 w6 w7 w8 w9 : Value} {x : Int32} : WP V 164 24 [w0, w1, .int x, w3, w4, w5, w6, w7, w8, w9] st t I L R Q = WP V 164 25 [w0, w1, .int x, w3, w4, w5, w6, w7, w8, w9] (.int x :: st) t I L R Q := wp_go rfl
theorem i164_25  : WP V 164 25 ls st t I L R Q = WP V 164 26 ls (.int (nI 1) :: st) t I L R Q := wp_go rfl
theorem i164_26 {x y : Int32} : WP V 164 26 ls (.int y :: .int x :: st) t I L R Q = WP V 164 27 ls (.int (x + y) :: st) t I L R Q := wp_go rfl
theorem i164_27 {k j : Nat} (h2 : m_ar k 2 612 = true) (h1 : k < t) (h3 : j < 612) : WP V 164 27 ls (.int (nI j) :: .ref k :: st) t I L R Q = WP V 164 28 ls (.int (I k j) :: st) t I L R Q := wp_iaload rfl (by decide) h1 h2 h3
theorem i164_28 {p : Int32} {w0 w1 w2 w4 w5 w6 w7 w8 w9 : Value} {x : Int32} : WP V 164 28 [w0, w1, w2, .int p, w4, w5, w6, w7, w8, w9] (.int x :: st) t I L R Q = WP V 164 29 [w0, w1, w2, .int p, .int x, w5, w6, w7, w8, w9] st t I L R Q := wp_go rfl
theorem i164_29 {w0 w1 w2 w3 w5 w6 w7 w8 w9 : Value} {x : Int32} : WP V 164 29 [w0, w1, w2, w3, .int x, w5, w6, w7, w8, w9] st t I L R Q = WP V 164 30 [w0, w1, w2, w3, .int x, w5, w6, w7, w8, w9] (.int x :: st) t I L R Q := wp_go rfl
theorem i164_30 {w1 w2 w3 w4 w5 w6 w7 w8 w9 : Value} {x : Nat} : WP V 164 30 [.ref x, w1, w2, w3, w4, w5, w6, w7, w8, w9] st t I L R Q = WP V 164 31 [.ref x, w1, w2, w3, w4, w5, w6, w7, w8, w9] (.ref x :: st) t I L R Q := wp_go rfl
theorem i164_31 {k : Nat} (h1 : k < t) (h2 : m_ob k 8 = true) : WP V 164 31 ls (.ref k :: st) t I L R Q = WP V 164 32 ls (m_rv (R k 6) :: st) t I L R Q := wp_getR rfl (by decide) h1 h2
theorem i164_32 {w0 w1 w2 w4 w5 w6 w7 w8 w9 : Value} {x : Int32} : WP V 164 32 [w0, w1, w2, .int x, w4, w5, w6, w7, w8, w9] st t I L R Q = WP V 164 33 [w0, w1, w2, .int x, w4, w5, w6, w7, w8, w9] (.int x :: st) t I L R Q := wp_go rfl
theorem i164_33 {k j : Nat} (h2 : m_ar k 2 6 = true) (h1 : k < t) (h3 : j < 6) : WP V 164 33 ls (.int (nI j) :: .ref k :: st) t I L R Q = WP V 164 34 ls (.int (I k j) :: st) t I L R Q := wp_iaload rfl (by decide) h1 h2 h3
theorem i164_34 {x y : Int32} : WP V 164 34 ls (.int y :: .int x :: st) t I L R Q = if x < y then WP V 164 64 ls st t I L R Q else WP V 164 35 ls st t I L R Q := wp_br (c := m_cc .lt x y) rfl rfl
theorem i164_35 {w1 w2 w3 w4 w5 w6 w7 w8 w9 : Value} {x : Nat} : WP V 164 35 [.ref x, w1, w2, w3, w4, w5, w6, w7, w8, w9] st t I L R Q = WP V 164 36 [.ref x, w1, w2, w3, w4, w5, w6, w7, w8, w9] (.ref x :: st) t I L R Q := wp_go rfl
theorem i164_36 {k : Nat} (h1 : k < t) (h2 : m_ob k 8 = true) : WP V 164 36 ls (.ref k :: st) t I L R Q = WP V 164 37 ls (m_rv (R k 0) :: st) t I L R Q := wp_getR rfl (by decide) h1 h2
theorem i164_37 {w0 w1 w3 w4 w5 w6 w7 w8 w9 : Value} {x : Int32} : WP V 164 37 [w0, w1, .int x, w3, w4, w5, w6, w7, w8, w9] st t I L R Q = WP V 164 38 [w0, w1, .int x, w3, w4, w5, w6, w7, w8, w9] (.int x :: st) t I L R Q := wp_go rfl
theorem i164_38  : WP V 164 38 ls st t I L R Q = WP V 164 39 ls (.int (nI 101) :: st) t I L R Q := wp_go rfl
theorem i164_39 {x y : Int32} : WP V 164 39 ls (.int y :: .int x :: st) t I L R Q = WP V 164 40 ls (.int (x + y) :: st) t I L R Q := wp_go rfl
theorem i164_40 {k j : Nat} (h2 : m_ar k 2 612 = true) (h1 : k < t) (h3 : j < 612) : WP V 164 40 ls (.int (nI j) :: .ref k :: st) t I L R Q = WP V 164 41 ls (.int (I k j) :: st) t I L R Q := wp_iaload rfl (by decide) h1 h2 h3
theorem i164_41  : WP V 164 41 ls st t I L R Q = WP V 164 42 ls (.int (nI 1) :: st) t I L R Q := wp_go rfl
theorem i164_42 {x y : Int32} : WP V 164 42 ls (.int y :: .int x :: st) t I L R Q = if x = y then WP V 164 50 ls st t I L R Q else WP V 164 43 ls st t I L R Q := wp_br (c := m_cc .eq x y) rfl rfl
theorem i164_43 {w1 w2 w3 w4 w5 w6 w7 w8 w9 : Value} {x : Nat} : WP V 164 43 [.ref x, w1, w2, w3, w4, w5, w6, w7, w8, w9] st t I L R Q = WP V 164 44 [.ref x, w1, w2, w3, w4, w5, w6, w7, w8, w9] (.ref x :: st) t I L R Q := wp_go rfl
theorem i164_44 {k : Nat} (h1 : k < t) (h2 : m_ob k 8 = true) : WP V 164 44 ls (.ref k :: st) t I L R Q = WP V 164 45 ls (m_rv (R k 0) :: st) t I L R Q := wp_getR rfl (by decide) h1 h2
theorem i164_45 {w0 w1 w3 w4 w5 w6 w7 w8 w9 : Value} {x : Int32} : WP V 164 45 [w0, w1, .int x, w3, w4, w5, w6, w7, w8, w9] st t I L R Q = WP V 164 46 [w0, w1, .int x, w3, w4, w5, w6, w7, w8, w9] (.int x :: st) t I L R Q := wp_go rfl
theorem i164_46  : WP V 164 46 ls st t I L R Q = WP V 164 47 ls (.int (nI 8) :: st) t I L R Q := wp_go rfl
theorem i164_47 {x y : Int32} : WP V 164 47 ls (.int y :: .int x :: st) t I L R Q = WP V 164 48 ls (.int (x + y) :: st) t I L R Q := wp_go rfl
theorem i164_48 {k j : Nat} (h2 : m_ar k 2 612 = true) (h1 : k < t) (h3 : j < 612) : WP V 164 48 ls (.int (nI j) :: .ref k :: st) t I L R Q = WP V 164 49 ls (.int (I k j) :: st) t I L R Q := wp_iaload rfl (by decide) h1 h2 h3
theorem i164_49 {x : Int32} : WP V 164 49 ls (.int x :: st) t I L R Q = if x ≤ nI 0 then WP V 164 55 ls st t I L R Q else WP V 164 50 ls st t I L R Q := wp_br (c := m_cc .le x 0) rfl rfl
theorem i164_50 {w1 w2 w3 w4 w5 w6 w7 w8 w9 : Value} {x : Nat} : WP V 164 50 [.ref x, w1, w2, w3, w4, w5, w6, w7, w8, w9] st t I L R Q = WP V 164 51 [.ref x, w1, w2, w3, w4, w5, w6, w7, w8, w9] (.ref x :: st) t I L R Q := wp_go rfl
theorem i164_51 {w0 w2 w3 w4 w5 w6 w7 w8 w9 : Value} {x : Int32} : WP V 164 51 [w0, .int x, w2, w3, w4, w5, w6, w7, w8, w9] st t I L R Q = WP V 164 52 [w0, .int x, w2, w3, w4, w5, w6, w7, w8, w9] (.int x :: st) t I L R Q := wp_go rfl
theorem i164_52  : WP V 164 52 ls st t I L R Q = WP V 164 53 ls (.int (nI 2) :: st) t I L R Q := wp_go rfl
theorem i164_53 {x0 : Int32} {x1 : Int32} {x2 : Nat}  (h1 : x2 < t) (h2 : m_ob x2 8 = true) : WP V 164 53 ls [.int x0, .int x1, .ref x2] t I L R Q = WPC V 155 [.ref x2, .int x1, .int x0] 164 54 ls [] t I L R Q := wp_cls (wp_icv rfl rfl h1 h2) (by decide) (Nat.le_of_ble_eq_true rfl) rfl rfl (Nat.le_of_ble_eq_true rfl) (Nat.le_of_ble_eq_true rfl)
theorem i164_54 {x : Int32} : WP V 164 54 ls [.int x] t I L R Q = Q (some (.int x)) t I L R := wp_rti rfl rfl
theorem i164_55 {w1 w2 w3 w4 w5 w6 w7 w8 w9 : Value} {x : Nat} : WP V 164 55 [.ref x, w1, w2, w3, w4, w5, w6, w7, w8, w9] st t I L R Q = WP V 164 56 [.ref x, w1, w2, w3, w4, w5, w6, w7, w8, w9] (.ref x :: st) t I L R Q := wp_go rfl
theorem i164_56 {k : Nat} (h1 : k < t) (h2 : m_ob k 8 = true) : WP V 164 56 ls (.ref k :: st) t I L R Q = WP V 164 57 ls (m_rv (R k 0) :: st) t I L R Q := wp_getR rfl (by decide) h1 h2
theorem i164_57 {w0 w1 w3 w4 w5 w6 w7 w8 w9 : Value} {x : Int32} : WP V 164 57 [w0, w1, .int x, w3, w4, w5, w6, w7, w8, w9] st t I L R Q = WP V 164 58 [w0, w1, .int x, w3, w4, w5, w6, w7, w8, w9] (.int x :: st) t I L R Q := wp_go rfl
theorem i164_58  : WP V 164 58 ls st t I L R Q = WP V 164 59 ls (.int (nI 0) :: st) t I L R Q := wp_go rfl
theorem i164_59 {x y : Int32} : WP V 164 59 ls (.int y :: .int x :: st) t I L R Q = WP V 164 60 ls (.int (x + y) :: st) t I L R Q := wp_go rfl
theorem i164_60  : WP V 164 60 ls st t I L R Q = WP V 164 61 ls (.int (nI 2) :: st) t I L R Q := wp_go rfl
theorem i164_61 {k j : Nat} {x : Int32} (h2 : m_ar k 2 612 = true) (h1 : k < t) (h3 : j < 612) : WP V 164 61 ls (.int x :: .int (nI j) :: .ref k :: st) t I L R Q = WP V 164 62 ls st t (m_sc I k (m_sc (I k) j x)) L R Q := wp_iastore rfl (by decide) h1 h2 h3
theorem i164_62  : WP V 164 62 ls st t I L R Q = WP V 164 63 ls (.int (nI 4) :: st) t I L R Q := wp_go rfl
theorem i164_63 {x : Int32} : WP V 164 63 ls [.int x] t I L R Q = Q (some (.int x)) t I L R := wp_rti rfl rfl
theorem i164_64  : WP V 164 64 ls st t I L R Q = WP V 164 65 ls (.int (nI 40) :: st) t I L R Q := wp_go rfl
theorem i164_65 {w0 w1 w2 w4 w5 w6 w7 w8 w9 : Value} {x : Int32} : WP V 164 65 [w0, w1, w2, .int x, w4, w5, w6, w7, w8, w9] st t I L R Q = WP V 164 66 [w0, w1, w2, .int x, w4, w5, w6, w7, w8, w9] (.int x :: st) t I L R Q := wp_go rfl
theorem i164_66 {x y : Int32} : WP V 164 66 ls (.int y :: .int x :: st) t I L R Q = WP V 164 67 ls (.int (x * y) :: st) t I L R Q := wp_go rfl
theorem i164_67 {w0 w1 w2 w3 w5 w6 w7 w8 w9 : Value} {x : Int32} : WP V 164 67 [w0, w1, w2, w3, .int x, w5, w6, w7, w8, w9] st t I L R Q = WP V 164 68 [w0, w1, w2, w3, .int x, w5, w6, w7, w8, w9] (.int x :: st) t I L R Q := wp_go rfl
theorem i164_68 {x y : Int32} : WP V 164 68 ls (.int y :: .int x :: st) t I L R Q = WP V 164 69 ls (.int (x + y) :: st) t I L R Q := wp_go rfl
theorem i164_69 {p : Int32} {w0 w1 w2 w3 w5 w6 w7 w8 w9 : Value} {x : Int32} : WP V 164 69 [w0, w1, w2, w3, .int p, w5, w6, w7, w8, w9] (.int x :: st) t I L R Q = WP V 164 70 [w0, w1, w2, w3, .int p, .int x, w6, w7, w8, w9] st t I L R Q := wp_go rfl
theorem i164_70 {w1 w2 w3 w4 w5 w6 w7 w8 w9 : Value} {x : Nat} : WP V 164 70 [.ref x, w1, w2, w3, w4, w5, w6, w7, w8, w9] st t I L R Q = WP V 164 71 [.ref x, w1, w2, w3, w4, w5, w6, w7, w8, w9] (.ref x :: st) t I L R Q := wp_go rfl
theorem i164_71 {k : Nat} (h1 : k < t) (h2 : m_ob k 8 = true) : WP V 164 71 ls (.ref k :: st) t I L R Q = WP V 164 72 ls (m_rv (R k 8) :: st) t I L R Q := wp_getR rfl (by decide) h1 h2
theorem i164_72 {w0 w1 w2 w3 w4 w6 w7 w8 w9 : Value} {x : Int32} : WP V 164 72 [w0, w1, w2, w3, w4, .int x, w6, w7, w8, w9] st t I L R Q = WP V 164 73 [w0, w1, w2, w3, w4, .int x, w6, w7, w8, w9] (.int x :: st) t I L R Q := wp_go rfl
theorem i164_73 {k j : Nat} (h2 : m_ar k 2 240 = true) (h1 : k < t) (h3 : j < 240) : WP V 164 73 ls (.int (nI j) :: .ref k :: st) t I L R Q = WP V 164 74 ls (.int (I k j) :: st) t I L R Q := wp_iaload rfl (by decide) h1 h2 h3
theorem i164_74 {p : Int32} {w0 w1 w2 w3 w4 w6 w7 w8 w9 : Value} {x : Int32} : WP V 164 74 [w0, w1, w2, w3, w4, .int p, w6, w7, w8, w9] (.int x :: st) t I L R Q = WP V 164 75 [w0, w1, w2, w3, w4, .int p, .int x, w7, w8, w9] st t I L R Q := wp_go rfl
theorem i164_75 {w1 w2 w3 w4 w5 w6 w7 w8 w9 : Value} {x : Nat} : WP V 164 75 [.ref x, w1, w2, w3, w4, w5, w6, w7, w8, w9] st t I L R Q = WP V 164 76 [.ref x, w1, w2, w3, w4, w5, w6, w7, w8, w9] (.ref x :: st) t I L R Q := wp_go rfl
theorem i164_76 {k : Nat} (h1 : k < t) (h2 : m_ob k 8 = true) : WP V 164 76 ls (.ref k :: st) t I L R Q = WP V 164 77 ls (m_rv (R k 9) :: st) t I L R Q := wp_getR rfl (by decide) h1 h2
theorem i164_77 {w0 w1 w2 w3 w4 w6 w7 w8 w9 : Value} {x : Int32} : WP V 164 77 [w0, w1, w2, w3, w4, .int x, w6, w7, w8, w9] st t I L R Q = WP V 164 78 [w0, w1, w2, w3, w4, .int x, w6, w7, w8, w9] (.int x :: st) t I L R Q := wp_go rfl
theorem i164_78 {k j : Nat} (h2 : m_ar k 2 240 = true) (h1 : k < t) (h3 : j < 240) : WP V 164 78 ls (.int (nI j) :: .ref k :: st) t I L R Q = WP V 164 79 ls (.int (I k j) :: st) t I L R Q := wp_iaload rfl (by decide) h1 h2 h3
theorem i164_79 {p : Int32} {w0 w1 w2 w3 w4 w5 w7 w8 w9 : Value} {x : Int32} : WP V 164 79 [w0, w1, w2, w3, w4, w5, .int p, w7, w8, w9] (.int x :: st) t I L R Q = WP V 164 80 [w0, w1, w2, w3, w4, w5, .int p, .int x, w8, w9] st t I L R Q := wp_go rfl
theorem i164_80 {w0 w1 w3 w4 w5 w6 w7 w8 w9 : Value} {x : Int32} : WP V 164 80 [w0, w1, .int x, w3, w4, w5, w6, w7, w8, w9] st t I L R Q = WP V 164 81 [w0, w1, .int x, w3, w4, w5, w6, w7, w8, w9] (.int x :: st) t I L R Q := wp_go rfl
theorem i164_81  : WP V 164 81 ls st t I L R Q = WP V 164 82 ls (.int (nI 3) :: st) t I L R Q := wp_go rfl
theorem i164_82 {x y : Int32} : WP V 164 82 ls (.int y :: .int x :: st) t I L R Q = WP V 164 83 ls (.int (x + y) :: st) t I L R Q := wp_go rfl
theorem i164_83 {p : Int32} {w0 w1 w2 w3 w4 w5 w6 w8 w9 : Value} {x : Int32} : WP V 164 83 [w0, w1, w2, w3, w4, w5, w6, .int p, w8, w9] (.int x :: st) t I L R Q = WP V 164 84 [w0, w1, w2, w3, w4, w5, w6, .int p, .int x, w9] st t I L R Q := wp_go rfl
theorem i164_84 {w1 w2 w3 w4 w5 w6 w7 w8 w9 : Value} {x : Nat} : WP V 164 84 [.ref x, w1, w2, w3, w4, w5, w6, w7, w8, w9] st t I L R Q = WP V 164 85 [.ref x, w1, w2, w3, w4, w5, w6, w7, w8, w9] (.ref x :: st) t I L R Q := wp_go rfl
theorem i164_85 {k : Nat} (h1 : k < t) (h2 : m_ob k 8 = true) : WP V 164 85 ls (.ref k :: st) t I L R Q = WP V 164 86 ls (m_rv (R k 0) :: st) t I L R Q := wp_getR rfl (by decide) h1 h2
theorem i164_86 {w0 w1 w3 w4 w5 w6 w7 w8 w9 : Value} {x : Int32} : WP V 164 86 [w0, w1, .int x, w3, w4, w5, w6, w7, w8, w9] st t I L R Q = WP V 164 87 [w0, w1, .int x, w3, w4, w5, w6, w7, w8, w9] (.int x :: st) t I L R Q := wp_go rfl
theorem i164_87  : WP V 164 87 ls st t I L R Q = WP V 164 88 ls (.int (nI 101) :: st) t I L R Q := wp_go rfl
theorem i164_88 {x y : Int32} : WP V 164 88 ls (.int y :: .int x :: st) t I L R Q = WP V 164 89 ls (.int (x + y) :: st) t I L R Q := wp_go rfl
theorem i164_89 {k j : Nat} (h2 : m_ar k 2 612 = true) (h1 : k < t) (h3 : j < 612) : WP V 164 89 ls (.int (nI j) :: .ref k :: st) t I L R Q = WP V 164 90 ls (.int (I k j) :: st) t I L R Q := wp_iaload rfl (by decide) h1 h2 h3
theorem i164_90  : WP V 164 90 ls st t I L R Q = WP V 164 91 ls (.int (nI 1) :: st) t I L R Q := wp_go rfl
theorem i164_91 {x y : Int32} : WP V 164 91 ls (.int y :: .int x :: st) t I L R Q = if x = y then WP V 164 92 ls st t I L R Q else WP V 164 94 ls st t I L R Q := wp_brn (c := m_cc .ne x y) rfl rfl
theorem i164_92  : WP V 164 92 ls st t I L R Q = WP V 164 93 ls (.int (nI 1) :: st) t I L R Q := wp_go rfl
theorem i164_93  : WP V 164 93 ls st t I L R Q = WP V 164 95 ls st t I L R Q := wp_go rfl
theorem i164_94  : WP V 164 94 ls st t I L R Q = WP V 164 95 ls (.int (nI 0) :: st) t I L R Q := wp_go rfl
theorem i164_95 {p : Int32} {w0 w1 w2 w3 w4 w5 w6 w7 w9 : Value} {x : Int32} : WP V 164 95 [w0, w1, w2, w3, w4, w5, w6, w7, .int p, w9] (.int x :: st) t I L R Q = WP V 164 96 [w0, w1, w2, w3, w4, w5, w6, w7, .int p, .int x] st t I L R Q := wp_go rfl
theorem i164_96 {w1 w2 w3 w4 w5 w6 w7 w8 w9 : Value} {x : Nat} : WP V 164 96 [.ref x, w1, w2, w3, w4, w5, w6, w7, w8, w9] st t I L R Q = WP V 164 97 [.ref x, w1, w2, w3, w4, w5, w6, w7, w8, w9] (.ref x :: st) t I L R Q := wp_go rfl
theorem i164_97 {k : Nat} (h1 : k < t) (h2 : m_ob k 8 = true) : WP V 164 97 ls (.ref k :: st) t I L R Q = WP V 164 98 ls (m_rv (R k 7) :: st) t I L R Q := wp_getR rfl (by decide) h1 h2
theorem i164_98 {w0 w1 w2 w3 w4 w6 w7 w8 w9 : Value} {x : Int32} : WP V 164 98 [w0, w1, w2, w3, w4, .int x, w6, w7, w8, w9] st t I L R Q = WP V 164 99 [w0, w1, w2, w3, w4, .int x, w6, w7, w8, w9] (.int x :: st) t I L R Q := wp_go rfl
theorem i164_99 {k j : Nat} (h2 : m_ar k 2 240 = true) (h1 : k < t) (h3 : j < 240) : WP V 164 99 ls (.int (nI j) :: .ref k :: st) t I L R Q = WP V 164 100 ls (.int (I k j) :: st) t I L R Q := wp_iaload rfl (by decide) h1 h2 h3
theorem i164_100s0  : WP V 164 100 ls (.int (nI 0) :: st) t I L R Q = WP V 164 101 ls st t I L R Q := wp_sw rfl (by decide) (by decide) (by decide) rfl
theorem i164_100s1  : WP V 164 100 ls (.int (nI 1) :: st) t I L R Q = WP V 164 112 ls st t I L R Q := wp_sw rfl (by decide) (by decide) (by decide) rfl
theorem i164_100s2  : WP V 164 100 ls (.int (nI 2) :: st) t I L R Q = WP V 164 131 ls st t I L R Q := wp_sw rfl (by decide) (by decide) (by decide) rfl
theorem i164_100s3  : WP V 164 100 ls (.int (nI 3) :: st) t I L R Q = WP V 164 150 ls st t I L R Q := wp_sw rfl (by decide) (by decide) (by decide) rfl
theorem i164_100s4  : WP V 164 100 ls (.int (nI 4) :: st) t I L R Q = WP V 164 181 ls st t I L R Q := wp_sw rfl (by decide) (by decide) (by decide) rfl
theorem i164_100s5  : WP V 164 100 ls (.int (nI 5) :: st) t I L R Q = WP V 164 187 ls st t I L R Q := wp_sw rfl (by decide) (by decide) (by decide) rfl
theorem i164_100s6  : WP V 164 100 ls (.int (nI 6) :: st) t I L R Q = WP V 164 199 ls st t I L R Q := wp_sw rfl (by decide) (by decide) (by decide) rfl
theorem i164_100s7  : WP V 164 100 ls (.int (nI 7) :: st) t I L R Q = WP V 164 206 ls st t I L R Q := wp_sw rfl (by decide) (by decide) (by decide) rfl
theorem i164_100s8  : WP V 164 100 ls (.int (nI 8) :: st) t I L R Q = WP V 164 213 ls st t I L R Q := wp_sw rfl (by decide) (by decide) (by decide) rfl
theorem i164_100s9  : WP V 164 100 ls (.int (nI 9) :: st) t I L R Q = WP V 164 223 ls st t I L R Q := wp_sw rfl (by decide) (by decide) (by decide) rfl
theorem i164_100s10  : WP V 164 100 ls (.int (nI 10) :: st) t I L R Q = WP V 164 228 ls st t I L R Q := wp_sw rfl (by decide) (by decide) (by decide) rfl
theorem i164_100s11  : WP V 164 100 ls (.int (nI 11) :: st) t I L R Q = WP V 164 244 ls st t I L R Q := wp_sw rfl (by decide) (by decide) (by decide) rfl
theorem i164_100s12  : WP V 164 100 ls (.int (nI 12) :: st) t I L R Q = WP V 164 249 ls st t I L R Q := wp_sw rfl (by decide) (by decide) (by decide) rfl
theorem i164_100s13  : WP V 164 100 ls (.int (nI 13) :: st) t I L R Q = WP V 164 253 ls st t I L R Q := wp_sw rfl (by decide) (by decide) (by decide) rfl
theorem i164_100s14  : WP V 164 100 ls (.int (nI 14) :: st) t I L R Q = WP V 164 257 ls st t I L R Q := wp_sw rfl (by decide) (by decide) (by decide) rfl
theorem i164_100s15  : WP V 164 100 ls (.int (nI 15) :: st) t I L R Q = WP V 164 282 ls st t I L R Q := wp_sw rfl (by decide) (by decide) (by decide) rfl
theorem i164_100s16  : WP V 164 100 ls (.int (nI 16) :: st) t I L R Q = WP V 164 299 ls st t I L R Q := wp_sw rfl (by decide) (by decide) (by decide) rfl
theorem i164_100s17  : WP V 164 100 ls (.int (nI 17) :: st) t I L R Q = WP V 164 324 ls st t I L R Q := wp_sw rfl (by decide) (by decide) (by decide) rfl
theorem i164_100s18  : WP V 164 100 ls (.int (nI 18) :: st) t I L R Q = WP V 164 340 ls st t I L R Q := wp_sw rfl (by decide) (by decide) (by decide) rfl
theorem i164_100s19  : WP V 164 100 ls (.int (nI 19) :: st) t I L R Q = WP V 164 355 ls st t I L R Q := wp_sw rfl (by decide) (by decide) (by decide) rfl
theorem i164_100s20  : WP V 164 100 ls (.int (nI 20) :: st) t I L R Q = WP V 164 369 ls st t I L R Q := wp_sw rfl (by decide) (by decide) (by decide) rfl
theorem i164_100sd {x : Int32} (h : x.toInt < 0 ∨ 20 < x.toInt) : WP V 164 100 ls (.int x :: st) t I L R Q = WP V 164 383 ls st t I L R Q := wp_swd rfl h
theorem i164_101 {w1 w2 w3 w4 w5 w6 w7 w8 w9 : Value} {x : Nat} : WP V 164 101 [.ref x, w1, w2, w3, w4, w5, w6, w7, w8, w9] st t I L R Q = WP V 164 102 [.ref x, w1, w2, w3, w4, w5, w6, w7, w8, w9] (.ref x :: st) t I L R Q := wp_go rfl
theorem i164_102 {k : Nat} (h1 : k < t) (h2 : m_ob k 8 = true) : WP V 164 102 ls (.ref k :: st) t I L R Q = WP V 164 103 ls (m_rv (R k 0) :: st) t I L R Q := wp_getR rfl (by decide) h1 h2
theorem i164_103 {w0 w1 w2 w3 w4 w5 w6 w7 w9 : Value} {x : Int32} : WP V 164 103 [w0, w1, w2, w3, w4, w5, w6, w7, .int x, w9] st t I L R Q = WP V 164 104 [w0, w1, w2, w3, w4, w5, w6, w7, .int x, w9] (.int x :: st) t I L R Q := wp_go rfl
theorem i164_104 {w0 w1 w2 w3 w4 w5 w7 w8 w9 : Value} {x : Int32} : WP V 164 104 [w0, w1, w2, w3, w4, w5, .int x, w7, w8, w9] st t I L R Q = WP V 164 105 [w0, w1, w2, w3, w4, w5, .int x, w7, w8, w9] (.int x :: st) t I L R Q := wp_go rfl
theorem i164_105 {x y : Int32} : WP V 164 105 ls (.int y :: .int x :: st) t I L R Q = WP V 164 106 ls (.int (x + y) :: st) t I L R Q := wp_go rfl
theorem i164_106 {w0 w1 w2 w3 w4 w5 w6 w8 w9 : Value} {x : Int32} : WP V 164 106 [w0, w1, w2, w3, w4, w5, w6, .int x, w8, w9] st t I L R Q = WP V 164 107 [w0, w1, w2, w3, w4, w5, w6, .int x, w8, w9] (.int x :: st) t I L R Q := wp_go rfl
theorem i164_107 {k j : Nat} {x : Int32} (h2 : m_ar k 2 612 = true) (h1 : k < t) (h3 : j < 612) : WP V 164 107 ls (.int x :: .int (nI j) :: .ref k :: st) t I L R Q = WP V 164 108 ls st t (m_sc I k (m_sc (I k) j x)) L R Q := wp_iastore rfl (by decide) h1 h2 h3
theorem i164_108 {w1 w2 w3 w4 w5 w6 w7 w8 w9 : Value} {x : Nat} : WP V 164 108 [.ref x, w1, w2, w3, w4, w5, w6, w7, w8, w9] st t I L R Q = WP V 164 109 [.ref x, w1, w2, w3, w4, w5, w6, w7, w8, w9] (.ref x :: st) t I L R Q := wp_go rfl
theorem i164_109 {w0 w2 w3 w4 w5 w6 w7 w8 w9 : Value} {x : Int32} : WP V 164 109 [w0, .int x, w2, w3, w4, w5, w6, w7, w8, w9] st t I L R Q = WP V 164 110 [w0, .int x, w2, w3, w4, w5, w6, w7, w8, w9] (.int x :: st) t I L R Q := wp_go rfl
theorem i164_110 {x0 : Int32} {x1 : Nat}  (h1 : x1 < t) (h2 : m_ob x1 8 = true) : WP V 164 110 ls [.int x0, .ref x1] t I L R Q = WPC V 162 [.ref x1, .int x0] 164 111 ls [] t I L R Q := wp_cls (wp_icv rfl rfl h1 h2) (by decide) (Nat.le_of_ble_eq_true rfl) rfl rfl (Nat.le_of_ble_eq_true rfl) (Nat.le_of_ble_eq_true rfl)
theorem i164_111 {x : Int32} : WP V 164 111 ls [.int x] t I L R Q = Q (some (.int x)) t I L R := wp_rti rfl rfl
theorem i164_112 {w1 w2 w3 w4 w5 w6 w7 w8 w9 : Value} {x : Nat} : WP V 164 112 [.ref x, w1, w2, w3, w4, w5, w6, w7, w8, w9] st t I L R Q = WP V 164 113 [.ref x, w1, w2, w3, w4, w5, w6, w7, w8, w9] (.ref x :: st) t I L R Q := wp_go rfl
theorem i164_113 {k : Nat} (h1 : k < t) (h2 : m_ob k 8 = true) : WP V 164 113 ls (.ref k :: st) t I L R Q = WP V 164 114 ls (m_rv (R k 0) :: st) t I L R Q := wp_getR rfl (by decide) h1 h2
theorem i164_114 {w0 w1 w2 w3 w4 w5 w6 w7 w9 : Value} {x : Int32} : WP V 164 114 [w0, w1, w2, w3, w4, w5, w6, w7, .int x, w9] st t I L R Q = WP V 164 115 [w0, w1, w2, w3, w4, w5, w6, w7, .int x, w9] (.int x :: st) t I L R Q := wp_go rfl
theorem i164_115 {w0 w1 w2 w3 w4 w5 w7 w8 w9 : Value} {x : Int32} : WP V 164 115 [w0, w1, w2, w3, w4, w5, .int x, w7, w8, w9] st t I L R Q = WP V 164 116 [w0, w1, w2, w3, w4, w5, .int x, w7, w8, w9] (.int x :: st) t I L R Q := wp_go rfl
theorem i164_116 {x y : Int32} : WP V 164 116 ls (.int y :: .int x :: st) t I L R Q = WP V 164 117 ls (.int (x + y) :: st) t I L R Q := wp_go rfl
theorem i164_117 {v0 : Int32} {v1 : Nat} : WP V 164 117 ls (.int v0 :: .ref v1 :: st) t I L R Q = WP V 164 118 ls (.int v0 :: .ref v1 :: .int v0 :: .ref v1 :: st) t I L R Q := wp_go rfl
theorem i164_118 {k j : Nat} (h2 : m_ar k 2 612 = true) (h1 : k < t) (h3 : j < 612) : WP V 164 118 ls (.int (nI j) :: .ref k :: st) t I L R Q = WP V 164 119 ls (.int (I k j) :: st) t I L R Q := wp_iaload rfl (by decide) h1 h2 h3
theorem i164_119 {w1 w2 w3 w4 w5 w6 w7 w8 w9 : Value} {x : Nat} : WP V 164 119 [.ref x, w1, w2, w3, w4, w5, w6, w7, w8, w9] st t I L R Q = WP V 164 120 [.ref x, w1, w2, w3, w4, w5, w6, w7, w8, w9] (.ref x :: st) t I L R Q := wp_go rfl
theorem i164_120 {k : Nat} (h1 : k < t) (h2 : m_ob k 8 = true) : WP V 164 120 ls (.ref k :: st) t I L R Q = WP V 164 121 ls (m_rv (R k 0) :: st) t I L R Q := wp_getR rfl (by decide) h1 h2
theorem i164_121 {w0 w1 w2 w3 w4 w5 w6 w7 w9 : Value} {x : Int32} : WP V 164 121 [w0, w1, w2, w3, w4, w5, w6, w7, .int x, w9] st t I L R Q = WP V 164 122 [w0, w1, w2, w3, w4, w5, w6, w7, .int x, w9] (.int x :: st) t I L R Q := wp_go rfl
theorem i164_122 {w0 w1 w2 w3 w4 w5 w6 w8 w9 : Value} {x : Int32} : WP V 164 122 [w0, w1, w2, w3, w4, w5, w6, .int x, w8, w9] st t I L R Q = WP V 164 123 [w0, w1, w2, w3, w4, w5, w6, .int x, w8, w9] (.int x :: st) t I L R Q := wp_go rfl
theorem i164_123 {x y : Int32} : WP V 164 123 ls (.int y :: .int x :: st) t I L R Q = WP V 164 124 ls (.int (x + y) :: st) t I L R Q := wp_go rfl
theorem i164_124 {k j : Nat} (h2 : m_ar k 2 612 = true) (h1 : k < t) (h3 : j < 612) : WP V 164 124 ls (.int (nI j) :: .ref k :: st) t I L R Q = WP V 164 125 ls (.int (I k j) :: st) t I L R Q := wp_iaload rfl (by decide) h1 h2 h3
theorem i164_125 {x y : Int32} : WP V 164 125 ls (.int y :: .int x :: st) t I L R Q = WP V 164 126 ls (.int (x + y) :: st) t I L R Q := wp_go rfl
theorem i164_126 {k j : Nat} {x : Int32} (h2 : m_ar k 2 612 = true) (h1 : k < t) (h3 : j < 612) : WP V 164 126 ls (.int x :: .int (nI j) :: .ref k :: st) t I L R Q = WP V 164 127 ls st t (m_sc I k (m_sc (I k) j x)) L R Q := wp_iastore rfl (by decide) h1 h2 h3
theorem i164_127 {w1 w2 w3 w4 w5 w6 w7 w8 w9 : Value} {x : Nat} : WP V 164 127 [.ref x, w1, w2, w3, w4, w5, w6, w7, w8, w9] st t I L R Q = WP V 164 128 [.ref x, w1, w2, w3, w4, w5, w6, w7, w8, w9] (.ref x :: st) t I L R Q := wp_go rfl
theorem i164_128 {w0 w2 w3 w4 w5 w6 w7 w8 w9 : Value} {x : Int32} : WP V 164 128 [w0, .int x, w2, w3, w4, w5, w6, w7, w8, w9] st t I L R Q = WP V 164 129 [w0, .int x, w2, w3, w4, w5, w6, w7, w8, w9] (.int x :: st) t I L R Q := wp_go rfl
theorem i164_129 {x0 : Int32} {x1 : Nat}  (h1 : x1 < t) (h2 : m_ob x1 8 = true) : WP V 164 129 ls [.int x0, .ref x1] t I L R Q = WPC V 162 [.ref x1, .int x0] 164 130 ls [] t I L R Q := wp_cls (wp_icv rfl rfl h1 h2) (by decide) (Nat.le_of_ble_eq_true rfl) rfl rfl (Nat.le_of_ble_eq_true rfl) (Nat.le_of_ble_eq_true rfl)
theorem i164_130 {x : Int32} : WP V 164 130 ls [.int x] t I L R Q = Q (some (.int x)) t I L R := wp_rti rfl rfl
theorem i164_131 {w1 w2 w3 w4 w5 w6 w7 w8 w9 : Value} {x : Nat} : WP V 164 131 [.ref x, w1, w2, w3, w4, w5, w6, w7, w8, w9] st t I L R Q = WP V 164 132 [.ref x, w1, w2, w3, w4, w5, w6, w7, w8, w9] (.ref x :: st) t I L R Q := wp_go rfl
theorem i164_132 {k : Nat} (h1 : k < t) (h2 : m_ob k 8 = true) : WP V 164 132 ls (.ref k :: st) t I L R Q = WP V 164 133 ls (m_rv (R k 0) :: st) t I L R Q := wp_getR rfl (by decide) h1 h2
theorem i164_133 {w0 w1 w2 w3 w4 w5 w6 w7 w9 : Value} {x : Int32} : WP V 164 133 [w0, w1, w2, w3, w4, w5, w6, w7, .int x, w9] st t I L R Q = WP V 164 134 [w0, w1, w2, w3, w4, w5, w6, w7, .int x, w9] (.int x :: st) t I L R Q := wp_go rfl
theorem i164_134 {w0 w1 w2 w3 w4 w5 w7 w8 w9 : Value} {x : Int32} : WP V 164 134 [w0, w1, w2, w3, w4, w5, .int x, w7, w8, w9] st t I L R Q = WP V 164 135 [w0, w1, w2, w3, w4, w5, .int x, w7, w8, w9] (.int x :: st) t I L R Q := wp_go rfl
theorem i164_135 {x y : Int32} : WP V 164 135 ls (.int y :: .int x :: st) t I L R Q = WP V 164 136 ls (.int (x + y) :: st) t I L R Q := wp_go rfl
theorem i164_136 {v0 : Int32} {v1 : Nat} : WP V 164 136 ls (.int v0 :: .ref v1 :: st) t I L R Q = WP V 164 137 ls (.int v0 :: .ref v1 :: .int v0 :: .ref v1 :: st) t I L R Q := wp_go rfl
theorem i164_137 {k j : Nat} (h2 : m_ar k 2 612 = true) (h1 : k < t) (h3 : j < 612) : WP V 164 137 ls (.int (nI j) :: .ref k :: st) t I L R Q = WP V 164 138 ls (.int (I k j) :: st) t I L R Q := wp_iaload rfl (by decide) h1 h2 h3
theorem i164_138 {w1 w2 w3 w4 w5 w6 w7 w8 w9 : Value} {x : Nat} : WP V 164 138 [.ref x, w1, w2, w3, w4, w5, w6, w7, w8, w9] st t I L R Q = WP V 164 139 [.ref x, w1, w2, w3, w4, w5, w6, w7, w8, w9] (.ref x :: st) t I L R Q := wp_go rfl
theorem i164_139 {k : Nat} (h1 : k < t) (h2 : m_ob k 8 = true) : WP V 164 139 ls (.ref k :: st) t I L R Q = WP V 164 140 ls (m_rv (R k 0) :: st) t I L R Q := wp_getR rfl (by decide) h1 h2
theorem i164_140 {w0 w1 w2 w3 w4 w5 w6 w7 w9 : Value} {x : Int32} : WP V 164 140 [w0, w1, w2, w3, w4, w5, w6, w7, .int x, w9] st t I L R Q = WP V 164 141 [w0, w1, w2, w3, w4, w5, w6, w7, .int x, w9] (.int x :: st) t I L R Q := wp_go rfl
theorem i164_141 {w0 w1 w2 w3 w4 w5 w6 w8 w9 : Value} {x : Int32} : WP V 164 141 [w0, w1, w2, w3, w4, w5, w6, .int x, w8, w9] st t I L R Q = WP V 164 142 [w0, w1, w2, w3, w4, w5, w6, .int x, w8, w9] (.int x :: st) t I L R Q := wp_go rfl
theorem i164_142 {x y : Int32} : WP V 164 142 ls (.int y :: .int x :: st) t I L R Q = WP V 164 143 ls (.int (x + y) :: st) t I L R Q := wp_go rfl
theorem i164_143 {k j : Nat} (h2 : m_ar k 2 612 = true) (h1 : k < t) (h3 : j < 612) : WP V 164 143 ls (.int (nI j) :: .ref k :: st) t I L R Q = WP V 164 144 ls (.int (I k j) :: st) t I L R Q := wp_iaload rfl (by decide) h1 h2 h3
theorem i164_144 {x y : Int32} : WP V 164 144 ls (.int y :: .int x :: st) t I L R Q = WP V 164 145 ls (.int (x - y) :: st) t I L R Q := wp_go rfl
theorem i164_145 {k j : Nat} {x : Int32} (h2 : m_ar k 2 612 = true) (h1 : k < t) (h3 : j < 612) : WP V 164 145 ls (.int x :: .int (nI j) :: .ref k :: st) t I L R Q = WP V 164 146 ls st t (m_sc I k (m_sc (I k) j x)) L R Q := wp_iastore rfl (by decide) h1 h2 h3
theorem i164_146 {w1 w2 w3 w4 w5 w6 w7 w8 w9 : Value} {x : Nat} : WP V 164 146 [.ref x, w1, w2, w3, w4, w5, w6, w7, w8, w9] st t I L R Q = WP V 164 147 [.ref x, w1, w2, w3, w4, w5, w6, w7, w8, w9] (.ref x :: st) t I L R Q := wp_go rfl
theorem i164_147 {w0 w2 w3 w4 w5 w6 w7 w8 w9 : Value} {x : Int32} : WP V 164 147 [w0, .int x, w2, w3, w4, w5, w6, w7, w8, w9] st t I L R Q = WP V 164 148 [w0, .int x, w2, w3, w4, w5, w6, w7, w8, w9] (.int x :: st) t I L R Q := wp_go rfl
theorem i164_148 {x0 : Int32} {x1 : Nat}  (h1 : x1 < t) (h2 : m_ob x1 8 = true) : WP V 164 148 ls [.int x0, .ref x1] t I L R Q = WPC V 162 [.ref x1, .int x0] 164 149 ls [] t I L R Q := wp_cls (wp_icv rfl rfl h1 h2) (by decide) (Nat.le_of_ble_eq_true rfl) rfl rfl (Nat.le_of_ble_eq_true rfl) (Nat.le_of_ble_eq_true rfl)
theorem i164_149 {x : Int32} : WP V 164 149 ls [.int x] t I L R Q = Q (some (.int x)) t I L R := wp_rti rfl rfl
theorem i164_150 {w1 w2 w3 w4 w5 w6 w7 w8 w9 : Value} {x : Nat} : WP V 164 150 [.ref x, w1, w2, w3, w4, w5, w6, w7, w8, w9] st t I L R Q = WP V 164 151 [.ref x, w1, w2, w3, w4, w5, w6, w7, w8, w9] (.ref x :: st) t I L R Q := wp_go rfl
theorem i164_151 {k : Nat} (h1 : k < t) (h2 : m_ob k 8 = true) : WP V 164 151 ls (.ref k :: st) t I L R Q = WP V 164 152 ls (m_rv (R k 0) :: st) t I L R Q := wp_getR rfl (by decide) h1 h2
theorem i164_152 {w0 w1 w2 w3 w4 w5 w6 w7 w9 : Value} {x : Int32} : WP V 164 152 [w0, w1, w2, w3, w4, w5, w6, w7, .int x, w9] st t I L R Q = WP V 164 153 [w0, w1, w2, w3, w4, w5, w6, w7, .int x, w9] (.int x :: st) t I L R Q := wp_go rfl
theorem i164_153 {w0 w1 w2 w3 w4 w5 w6 w8 w9 : Value} {x : Int32} : WP V 164 153 [w0, w1, w2, w3, w4, w5, w6, .int x, w8, w9] st t I L R Q = WP V 164 154 [w0, w1, w2, w3, w4, w5, w6, .int x, w8, w9] (.int x :: st) t I L R Q := wp_go rfl
theorem i164_154 {x y : Int32} : WP V 164 154 ls (.int y :: .int x :: st) t I L R Q = WP V 164 155 ls (.int (x + y) :: st) t I L R Q := wp_go rfl
theorem i164_155 {k j : Nat} (h2 : m_ar k 2 612 = true) (h1 : k < t) (h3 : j < 612) : WP V 164 155 ls (.int (nI j) :: .ref k :: st) t I L R Q = WP V 164 156 ls (.int (I k j) :: st) t I L R Q := wp_iaload rfl (by decide) h1 h2 h3
theorem i164_156 {x : Int32} : WP V 164 156 ls (.int x :: st) t I L R Q = if x = nI 0 then WP V 164 157 ls st t I L R Q else WP V 164 162 ls st t I L R Q := wp_brn (c := m_cc .ne x 0) rfl rfl
theorem i164_157 {w1 w2 w3 w4 w5 w6 w7 w8 w9 : Value} {x : Nat} : WP V 164 157 [.ref x, w1, w2, w3, w4, w5, w6, w7, w8, w9] st t I L R Q = WP V 164 158 [.ref x, w1, w2, w3, w4, w5, w6, w7, w8, w9] (.ref x :: st) t I L R Q := wp_go rfl
theorem i164_158 {w0 w2 w3 w4 w5 w6 w7 w8 w9 : Value} {x : Int32} : WP V 164 158 [w0, .int x, w2, w3, w4, w5, w6, w7, w8, w9] st t I L R Q = WP V 164 159 [w0, .int x, w2, w3, w4, w5, w6, w7, w8, w9] (.int x :: st) t I L R Q := wp_go rfl
theorem i164_159  : WP V 164 159 ls st t I L R Q = WP V 164 160 ls (.int (nI 4) :: st) t I L R Q := wp_go rfl
theorem i164_160 {x0 : Int32} {x1 : Int32} {x2 : Nat}  (h1 : x2 < t) (h2 : m_ob x2 8 = true) : WP V 164 160 ls [.int x0, .int x1, .ref x2] t I L R Q = WPC V 155 [.ref x2, .int x1, .int x0] 164 161 ls [] t I L R Q := wp_cls (wp_icv rfl rfl h1 h2) (by decide) (Nat.le_of_ble_eq_true rfl) rfl rfl (Nat.le_of_ble_eq_true rfl) (Nat.le_of_ble_eq_true rfl)
theorem i164_161 {x : Int32} : WP V 164 161 ls [.int x] t I L R Q = Q (some (.int x)) t I L R := wp_rti rfl rfl
theorem i164_162 {w1 w2 w3 w4 w5 w6 w7 w8 w9 : Value} {x : Nat} : WP V 164 162 [.ref x, w1, w2, w3, w4, w5, w6, w7, w8, w9] st t I L R Q = WP V 164 163 [.ref x, w1, w2, w3, w4, w5, w6, w7, w8, w9] (.ref x :: st) t I L R Q := wp_go rfl
theorem i164_163 {k : Nat} (h1 : k < t) (h2 : m_ob k 8 = true) : WP V 164 163 ls (.ref k :: st) t I L R Q = WP V 164 164 ls (m_rv (R k 0) :: st) t I L R Q := wp_getR rfl (by decide) h1 h2
theorem i164_164 {w0 w1 w2 w3 w4 w5 w6 w7 w9 : Value} {x : Int32} : WP V 164 164 [w0, w1, w2, w3, w4, w5, w6, w7, .int x, w9] st t I L R Q = WP V 164 165 [w0, w1, w2, w3, w4, w5, w6, w7, .int x, w9] (.int x :: st) t I L R Q := wp_go rfl
theorem i164_165 {w0 w1 w2 w3 w4 w5 w7 w8 w9 : Value} {x : Int32} : WP V 164 165 [w0, w1, w2, w3, w4, w5, .int x, w7, w8, w9] st t I L R Q = WP V 164 166 [w0, w1, w2, w3, w4, w5, .int x, w7, w8, w9] (.int x :: st) t I L R Q := wp_go rfl
theorem i164_166 {x y : Int32} : WP V 164 166 ls (.int y :: .int x :: st) t I L R Q = WP V 164 167 ls (.int (x + y) :: st) t I L R Q := wp_go rfl
theorem i164_167 {v0 : Int32} {v1 : Nat} : WP V 164 167 ls (.int v0 :: .ref v1 :: st) t I L R Q = WP V 164 168 ls (.int v0 :: .ref v1 :: .int v0 :: .ref v1 :: st) t I L R Q := wp_go rfl
theorem i164_168 {k j : Nat} (h2 : m_ar k 2 612 = true) (h1 : k < t) (h3 : j < 612) : WP V 164 168 ls (.int (nI j) :: .ref k :: st) t I L R Q = WP V 164 169 ls (.int (I k j) :: st) t I L R Q := wp_iaload rfl (by decide) h1 h2 h3
theorem i164_169 {w1 w2 w3 w4 w5 w6 w7 w8 w9 : Value} {x : Nat} : WP V 164 169 [.ref x, w1, w2, w3, w4, w5, w6, w7, w8, w9] st t I L R Q = WP V 164 170 [.ref x, w1, w2, w3, w4, w5, w6, w7, w8, w9] (.ref x :: st) t I L R Q := wp_go rfl
theorem i164_170 {k : Nat} (h1 : k < t) (h2 : m_ob k 8 = true) : WP V 164 170 ls (.ref k :: st) t I L R Q = WP V 164 171 ls (m_rv (R k 0) :: st) t I L R Q := wp_getR rfl (by decide) h1 h2
theorem i164_171 {w0 w1 w2 w3 w4 w5 w6 w7 w9 : Value} {x : Int32} : WP V 164 171 [w0, w1, w2, w3, w4, w5, w6, w7, .int x, w9] st t I L R Q = WP V 164 172 [w0, w1, w2, w3, w4, w5, w6, w7, .int x, w9] (.int x :: st) t I L R Q := wp_go rfl
theorem i164_172 {w0 w1 w2 w3 w4 w5 w6 w8 w9 : Value} {x : Int32} : WP V 164 172 [w0, w1, w2, w3, w4, w5, w6, .int x, w8, w9] st t I L R Q = WP V 164 173 [w0, w1, w2, w3, w4, w5, w6, .int x, w8, w9] (.int x :: st) t I L R Q := wp_go rfl
theorem i164_173 {x y : Int32} : WP V 164 173 ls (.int y :: .int x :: st) t I L R Q = WP V 164 174 ls (.int (x + y) :: st) t I L R Q := wp_go rfl
theorem i164_174 {k j : Nat} (h2 : m_ar k 2 612 = true) (h1 : k < t) (h3 : j < 612) : WP V 164 174 ls (.int (nI j) :: .ref k :: st) t I L R Q = WP V 164 175 ls (.int (I k j) :: st) t I L R Q := wp_iaload rfl (by decide) h1 h2 h3
theorem i164_175 {x y : Int32} (h : ¬ y = 0) : WP V 164 175 ls (.int y :: .int x :: st) t I L R Q = WP V 164 176 ls (.int (x / y) :: st) t I L R Q := wp_idiv rfl h
theorem i164_176 {k j : Nat} {x : Int32} (h2 : m_ar k 2 612 = true) (h1 : k < t) (h3 : j < 612) : WP V 164 176 ls (.int x :: .int (nI j) :: .ref k :: st) t I L R Q = WP V 164 177 ls st t (m_sc I k (m_sc (I k) j x)) L R Q := wp_iastore rfl (by decide) h1 h2 h3
theorem i164_177 {w1 w2 w3 w4 w5 w6 w7 w8 w9 : Value} {x : Nat} : WP V 164 177 [.ref x, w1, w2, w3, w4, w5, w6, w7, w8, w9] st t I L R Q = WP V 164 178 [.ref x, w1, w2, w3, w4, w5, w6, w7, w8, w9] (.ref x :: st) t I L R Q := wp_go rfl
theorem i164_178 {w0 w2 w3 w4 w5 w6 w7 w8 w9 : Value} {x : Int32} : WP V 164 178 [w0, .int x, w2, w3, w4, w5, w6, w7, w8, w9] st t I L R Q = WP V 164 179 [w0, .int x, w2, w3, w4, w5, w6, w7, w8, w9] (.int x :: st) t I L R Q := wp_go rfl
theorem i164_179 {x0 : Int32} {x1 : Nat}  (h1 : x1 < t) (h2 : m_ob x1 8 = true) : WP V 164 179 ls [.int x0, .ref x1] t I L R Q = WPC V 162 [.ref x1, .int x0] 164 180 ls [] t I L R Q := wp_cls (wp_icv rfl rfl h1 h2) (by decide) (Nat.le_of_ble_eq_true rfl) rfl rfl (Nat.le_of_ble_eq_true rfl) (Nat.le_of_ble_eq_true rfl)
theorem i164_180 {x : Int32} : WP V 164 180 ls [.int x] t I L R Q = Q (some (.int x)) t I L R := wp_rti rfl rfl
theorem i164_181 {w1 w2 w3 w4 w5 w6 w7 w8 w9 : Value} {x : Nat} : WP V 164 181 [.ref x, w1, w2, w3, w4, w5, w6, w7, w8, w9] st t I L R Q = WP V 164 182 [.ref x, w1, w2, w3, w4, w5, w6, w7, w8, w9] (.ref x :: st) t I L R Q := wp_go rfl
theorem i164_182 {w0 w2 w3 w4 w5 w6 w7 w8 w9 : Value} {x : Int32} : WP V 164 182 [w0, .int x, w2, w3, w4, w5, w6, w7, w8, w9] st t I L R Q = WP V 164 183 [w0, .int x, w2, w3, w4, w5, w6, w7, w8, w9] (.int x :: st) t I L R Q := wp_go rfl
theorem i164_183 {w0 w1 w2 w3 w4 w5 w7 w8 w9 : Value} {x : Int32} : WP V 164 183 [w0, w1, w2, w3, w4, w5, .int x, w7, w8, w9] st t I L R Q = WP V 164 184 [w0, w1, w2, w3, w4, w5, .int x, w7, w8, w9] (.int x :: st) t I L R Q := wp_go rfl
theorem i164_184 {w0 w1 w2 w3 w4 w5 w6 w8 w9 : Value} {x : Int32} : WP V 164 184 [w0, w1, w2, w3, w4, w5, w6, .int x, w8, w9] st t I L R Q = WP V 164 185 [w0, w1, w2, w3, w4, w5, w6, .int x, w8, w9] (.int x :: st) t I L R Q := wp_go rfl
theorem i164_185 {x0 : Int32} {x1 : Int32} {x2 : Int32} {x3 : Nat}  (h1 : x3 < t) (h2 : m_ob x3 8 = true) : WP V 164 185 ls [.int x0, .int x1, .int x2, .ref x3] t I L R Q = WPC V 165 [.ref x3, .int x2, .int x1, .int x0] 164 186 ls [] t I L R Q := wp_cls (wp_icv rfl rfl h1 h2) (by decide) (Nat.le_of_ble_eq_true rfl) rfl rfl (Nat.le_of_ble_eq_true rfl) (Nat.le_of_ble_eq_true rfl)
theorem i164_186 {x : Int32} : WP V 164 186 ls [.int x] t I L R Q = Q (some (.int x)) t I L R := wp_rti rfl rfl
theorem i164_187 {w1 w2 w3 w4 w5 w6 w7 w8 w9 : Value} {x : Nat} : WP V 164 187 [.ref x, w1, w2, w3, w4, w5, w6, w7, w8, w9] st t I L R Q = WP V 164 188 [.ref x, w1, w2, w3, w4, w5, w6, w7, w8, w9] (.ref x :: st) t I L R Q := wp_go rfl
theorem i164_188 {w0 w2 w3 w4 w5 w6 w7 w8 w9 : Value} {x : Int32} : WP V 164 188 [w0, .int x, w2, w3, w4, w5, w6, w7, w8, w9] st t I L R Q = WP V 164 189 [w0, .int x, w2, w3, w4, w5, w6, w7, w8, w9] (.int x :: st) t I L R Q := wp_go rfl
theorem i164_189 {w0 w1 w2 w3 w4 w5 w7 w8 w9 : Value} {x : Int32} : WP V 164 189 [w0, w1, w2, w3, w4, w5, .int x, w7, w8, w9] st t I L R Q = WP V 164 190 [w0, w1, w2, w3, w4, w5, .int x, w7, w8, w9] (.int x :: st) t I L R Q := wp_go rfl
theorem i164_190  : WP V 164 190 ls st t I L R Q = WP V 164 191 ls (.int (nI 1) :: st) t I L R Q := wp_go rfl
theorem i164_191 {w1 w2 w3 w4 w5 w6 w7 w8 w9 : Value} {x : Nat} : WP V 164 191 [.ref x, w1, w2, w3, w4, w5, w6, w7, w8, w9] st t I L R Q = WP V 164 192 [.ref x, w1, w2, w3, w4, w5, w6, w7, w8, w9] (.ref x :: st) t I L R Q := wp_go rfl
theorem i164_192 {k : Nat} (h1 : k < t) (h2 : m_ob k 8 = true) : WP V 164 192 ls (.ref k :: st) t I L R Q = WP V 164 193 ls (m_rv (R k 0) :: st) t I L R Q := wp_getR rfl (by decide) h1 h2
theorem i164_193 {w0 w1 w2 w3 w4 w5 w6 w7 w9 : Value} {x : Int32} : WP V 164 193 [w0, w1, w2, w3, w4, w5, w6, w7, .int x, w9] st t I L R Q = WP V 164 194 [w0, w1, w2, w3, w4, w5, w6, w7, .int x, w9] (.int x :: st) t I L R Q := wp_go rfl
theorem i164_194 {w0 w1 w2 w3 w4 w5 w6 w8 w9 : Value} {x : Int32} : WP V 164 194 [w0, w1, w2, w3, w4, w5, w6, .int x, w8, w9] st t I L R Q = WP V 164 195 [w0, w1, w2, w3, w4, w5, w6, .int x, w8, w9] (.int x :: st) t I L R Q := wp_go rfl
theorem i164_195 {x y : Int32} : WP V 164 195 ls (.int y :: .int x :: st) t I L R Q = WP V 164 196 ls (.int (x + y) :: st) t I L R Q := wp_go rfl
theorem i164_196 {k j : Nat} (h2 : m_ar k 2 612 = true) (h1 : k < t) (h3 : j < 612) : WP V 164 196 ls (.int (nI j) :: .ref k :: st) t I L R Q = WP V 164 197 ls (.int (I k j) :: st) t I L R Q := wp_iaload rfl (by decide) h1 h2 h3
theorem i164_197 {x0 : Int32} {x1 : Int32} {x2 : Int32} {x3 : Int32} {x4 : Nat}  (h1 : x4 < t) (h2 : m_ob x4 8 = true) : WP V 164 197 ls [.int x0, .int x1, .int x2, .int x3, .ref x4] t I L R Q = WPC V 166 [.ref x4, .int x3, .int x2, .int x1, .int x0] 164 198 ls [] t I L R Q := wp_cls (wp_icv rfl rfl h1 h2) (by decide) (Nat.le_of_ble_eq_true rfl) rfl rfl (Nat.le_of_ble_eq_true rfl) (Nat.le_of_ble_eq_true rfl)
theorem i164_198 {x : Int32} : WP V 164 198 ls [.int x] t I L R Q = Q (some (.int x)) t I L R := wp_rti rfl rfl
theorem i164_199 {w1 w2 w3 w4 w5 w6 w7 w8 w9 : Value} {x : Nat} : WP V 164 199 [.ref x, w1, w2, w3, w4, w5, w6, w7, w8, w9] st t I L R Q = WP V 164 200 [.ref x, w1, w2, w3, w4, w5, w6, w7, w8, w9] (.ref x :: st) t I L R Q := wp_go rfl
theorem i164_200 {w0 w2 w3 w4 w5 w6 w7 w8 w9 : Value} {x : Int32} : WP V 164 200 [w0, .int x, w2, w3, w4, w5, w6, w7, w8, w9] st t I L R Q = WP V 164 201 [w0, .int x, w2, w3, w4, w5, w6, w7, w8, w9] (.int x :: st) t I L R Q := wp_go rfl
theorem i164_201 {w0 w1 w2 w3 w4 w5 w7 w8 w9 : Value} {x : Int32} : WP V 164 201 [w0, w1, w2, w3, w4, w5, .int x, w7, w8, w9] st t I L R Q = WP V 164 202 [w0, w1, w2, w3, w4, w5, .int x, w7, w8, w9] (.int x :: st) t I L R Q := wp_go rfl
theorem i164_202  : WP V 164 202 ls st t I L R Q = WP V 164 203 ls (.int (nI 2) :: st) t I L R Q := wp_go rfl
theorem i164_203 {w0 w1 w2 w3 w4 w5 w6 w8 w9 : Value} {x : Int32} : WP V 164 203 [w0, w1, w2, w3, w4, w5, w6, .int x, w8, w9] st t I L R Q = WP V 164 204 [w0, w1, w2, w3, w4, w5, w6, .int x, w8, w9] (.int x :: st) t I L R Q := wp_go rfl
theorem i164_204 {x0 : Int32} {x1 : Int32} {x2 : Int32} {x3 : Int32} {x4 : Nat}  (h1 : x4 < t) (h2 : m_ob x4 8 = true) : WP V 164 204 ls [.int x0, .int x1, .int x2, .int x3, .ref x4] t I L R Q = WPC V 166 [.ref x4, .int x3, .int x2, .int x1, .int x0] 164 205 ls [] t I L R Q := wp_cls (wp_icv rfl rfl h1 h2) (by decide) (Nat.le_of_ble_eq_true rfl) rfl rfl (Nat.le_of_ble_eq_true rfl) (Nat.le_of_ble_eq_true rfl)
theorem i164_205 {x : Int32} : WP V 164 205 ls [.int x] t I L R Q = Q (some (.int x)) t I L R := wp_rti rfl rfl
theorem i164_206 {w1 w2 w3 w4 w5 w6 w7 w8 w9 : Value} {x : Nat} : WP V 164 206 [.ref x, w1, w2, w3, w4, w5, w6, w7, w8, w9] st t I L R Q = WP V 164 207 [.ref x, w1, w2, w3, w4, w5, w6, w7, w8, w9] (.ref x :: st) t I L R Q := wp_go rfl
theorem i164_207 {w0 w2 w3 w4 w5 w6 w7 w8 w9 : Value} {x : Int32} : WP V 164 207 [w0, .int x, w2, w3, w4, w5, w6, w7, w8, w9] st t I L R Q = WP V 164 208 [w0, .int x, w2, w3, w4, w5, w6, w7, w8, w9] (.int x :: st) t I L R Q := wp_go rfl
theorem i164_208 {w0 w1 w2 w3 w4 w5 w7 w8 w9 : Value} {x : Int32} : WP V 164 208 [w0, w1, w2, w3, w4, w5, .int x, w7, w8, w9] st t I L R Q = WP V 164 209 [w0, w1, w2, w3, w4, w5, .int x, w7, w8, w9] (.int x :: st) t I L R Q := wp_go rfl
theorem i164_209  : WP V 164 209 ls st t I L R Q = WP V 164 210 ls (.int (nI 0) :: st) t I L R Q := wp_go rfl
theorem i164_210  : WP V 164 210 ls st t I L R Q = WP V 164 211 ls (.int (nI 0) :: st) t I L R Q := wp_go rfl
theorem i164_211 {x0 : Int32} {x1 : Int32} {x2 : Int32} {x3 : Int32} {x4 : Nat}  (h1 : x4 < t) (h2 : m_ob x4 8 = true) : WP V 164 211 ls [.int x0, .int x1, .int x2, .int x3, .ref x4] t I L R Q = WPC V 166 [.ref x4, .int x3, .int x2, .int x1, .int x0] 164 212 ls [] t I L R Q := wp_cls (wp_icv rfl rfl h1 h2) (by decide) (Nat.le_of_ble_eq_true rfl) rfl rfl (Nat.le_of_ble_eq_true rfl) (Nat.le_of_ble_eq_true rfl)
theorem i164_212 {x : Int32} : WP V 164 212 ls [.int x] t I L R Q = Q (some (.int x)) t I L R := wp_rti rfl rfl
theorem i164_213 {w1 w2 w3 w4 w5 w6 w7 w8 w9 : Value} {x : Nat} : WP V 164 213 [.ref x, w1, w2, w3, w4, w5, w6, w7, w8, w9] st t I L R Q = WP V 164 214 [.ref x, w1, w2, w3, w4, w5, w6, w7, w8, w9] (.ref x :: st) t I L R Q := wp_go rfl
theorem i164_214 {w0 w2 w3 w4 w5 w6 w7 w8 w9 : Value} {x : Int32} : WP V 164 214 [w0, .int x, w2, w3, w4, w5, w6, w7, w8, w9] st t I L R Q = WP V 164 215 [w0, .int x, w2, w3, w4, w5, w6, w7, w8, w9] (.int x :: st) t I L R Q := wp_go rfl
theorem i164_215 {w0 w1 w2 w3 w4 w5 w7 w8 w9 : Value} {x : Int32} : WP V 164 215 [w0, w1, w2, w3, w4, w5, .int x, w7, w8, w9] st t I L R Q = WP V 164 216 [w0, w1, w2, w3, w4, w5, .int x, w7, w8, w9] (.int x :: st) t I L R Q := wp_go rfl
theorem i164_216 {w0 w1 w2 w3 w4 w5 w6 w8 w9 : Value} {x : Int32} : WP V 164 216 [w0, w1, w2, w3, w4, w5, w6, .int x, w8, w9] st t I L R Q = WP V 164 217 [w0, w1, w2, w3, w4, w5, w6, .int x, w8, w9] (.int x :: st) t I L R Q := wp_go rfl
theorem i164_217 {w1 w2 w3 w4 w5 w6 w7 w8 w9 : Value} {x : Nat} : WP V 164 217 [.ref x, w1, w2, w3, w4, w5, w6, w7, w8, w9] st t I L R Q = WP V 164 218 [.ref x, w1, w2, w3, w4, w5, w6, w7, w8, w9] (.ref x :: st) t I L R Q := wp_go rfl
theorem i164_218 {k : Nat} (h1 : k < t) (h2 : m_ob k 8 = true) : WP V 164 218 ls (.ref k :: st) t I L R Q = WP V 164 219 ls (m_rv (R k 10) :: st) t I L R Q := wp_getR rfl (by decide) h1 h2
theorem i164_219 {w0 w1 w2 w3 w4 w6 w7 w8 w9 : Value} {x : Int32} : WP V 164 219 [w0, w1, w2, w3, w4, .int x, w6, w7, w8, w9] st t I L R Q = WP V 164 220 [w0, w1, w2, w3, w4, .int x, w6, w7, w8, w9] (.int x :: st) t I L R Q := wp_go rfl
theorem i164_220 {k j : Nat} (h2 : m_ar k 2 240 = true) (h1 : k < t) (h3 : j < 240) : WP V 164 220 ls (.int (nI j) :: .ref k :: st) t I L R Q = WP V 164 221 ls (.int (I k j) :: st) t I L R Q := wp_iaload rfl (by decide) h1 h2 h3
theorem i164_221 {x0 : Int32} {x1 : Int32} {x2 : Int32} {x3 : Int32} {x4 : Nat}  (h1 : x4 < t) (h2 : m_ob x4 8 = true) : WP V 164 221 ls [.int x0, .int x1, .int x2, .int x3, .ref x4] t I L R Q = WPC V 167 [.ref x4, .int x3, .int x2, .int x1, .int x0] 164 222 ls [] t I L R Q := wp_cls (wp_icv rfl rfl h1 h2) (by decide) (Nat.le_of_ble_eq_true rfl) rfl rfl (Nat.le_of_ble_eq_true rfl) (Nat.le_of_ble_eq_true rfl)
theorem i164_222 {x : Int32} : WP V 164 222 ls [.int x] t I L R Q = Q (some (.int x)) t I L R := wp_rti rfl rfl
theorem i164_223 {w1 w2 w3 w4 w5 w6 w7 w8 w9 : Value} {x : Nat} : WP V 164 223 [.ref x, w1, w2, w3, w4, w5, w6, w7, w8, w9] st t I L R Q = WP V 164 224 [.ref x, w1, w2, w3, w4, w5, w6, w7, w8, w9] (.ref x :: st) t I L R Q := wp_go rfl
theorem i164_224 {w0 w2 w3 w4 w5 w6 w7 w8 w9 : Value} {x : Int32} : WP V 164 224 [w0, .int x, w2, w3, w4, w5, w6, w7, w8, w9] st t I L R Q = WP V 164 225 [w0, .int x, w2, w3, w4, w5, w6, w7, w8, w9] (.int x :: st) t I L R Q := wp_go rfl
theorem i164_225 {w0 w1 w2 w3 w4 w5 w7 w8 w9 : Value} {x : Int32} : WP V 164 225 [w0, w1, w2, w3, w4, w5, .int x, w7, w8, w9] st t I L R Q = WP V 164 226 [w0, w1, w2, w3, w4, w5, .int x, w7, w8, w9] (.int x :: st) t I L R Q := wp_go rfl
theorem i164_226 {x0 : Int32} {x1 : Int32} {x2 : Nat}  (h1 : x2 < t) (h2 : m_ob x2 8 = true) : WP V 164 226 ls [.int x0, .int x1, .ref x2] t I L R Q = WPC V 163 [.ref x2, .int x1, .int x0] 164 227 ls [] t I L R Q := wp_cls (wp_icv rfl rfl h1 h2) (by decide) (Nat.le_of_ble_eq_true rfl) rfl rfl (Nat.le_of_ble_eq_true rfl) (Nat.le_of_ble_eq_true rfl)
theorem i164_227 {x : Int32} : WP V 164 227 ls [.int x] t I L R Q = Q (some (.int x)) t I L R := wp_rti rfl rfl
theorem i164_228 {w1 w2 w3 w4 w5 w6 w7 w8 w9 : Value} {x : Nat} : WP V 164 228 [.ref x, w1, w2, w3, w4, w5, w6, w7, w8, w9] st t I L R Q = WP V 164 229 [.ref x, w1, w2, w3, w4, w5, w6, w7, w8, w9] (.ref x :: st) t I L R Q := wp_go rfl
theorem i164_229 {k : Nat} (h1 : k < t) (h2 : m_ob k 8 = true) : WP V 164 229 ls (.ref k :: st) t I L R Q = WP V 164 230 ls (m_rv (R k 0) :: st) t I L R Q := wp_getR rfl (by decide) h1 h2
theorem i164_230 {w0 w1 w2 w3 w4 w5 w6 w7 w9 : Value} {x : Int32} : WP V 164 230 [w0, w1, w2, w3, w4, w5, w6, w7, .int x, w9] st t I L R Q = WP V 164 231 [w0, w1, w2, w3, w4, w5, w6, w7, .int x, w9] (.int x :: st) t I L R Q := wp_go rfl
theorem i164_231 {w0 w1 w2 w3 w4 w5 w7 w8 w9 : Value} {x : Int32} : WP V 164 231 [w0, w1, w2, w3, w4, w5, .int x, w7, w8, w9] st t I L R Q = WP V 164 232 [w0, w1, w2, w3, w4, w5, .int x, w7, w8, w9] (.int x :: st) t I L R Q := wp_go rfl
theorem i164_232 {x y : Int32} : WP V 164 232 ls (.int y :: .int x :: st) t I L R Q = WP V 164 233 ls (.int (x + y) :: st) t I L R Q := wp_go rfl
theorem i164_233 {k j : Nat} (h2 : m_ar k 2 612 = true) (h1 : k < t) (h3 : j < 612) : WP V 164 233 ls (.int (nI j) :: .ref k :: st) t I L R Q = WP V 164 234 ls (.int (I k j) :: st) t I L R Q := wp_iaload rfl (by decide) h1 h2 h3
theorem i164_234 {x : Int32} : WP V 164 234 ls (.int x :: st) t I L R Q = if x = nI 0 then WP V 164 235 ls st t I L R Q else WP V 164 240 ls st t I L R Q := wp_brn (c := m_cc .ne x 0) rfl rfl
theorem i164_235 {w1 w2 w3 w4 w5 w6 w7 w8 w9 : Value} {x : Nat} : WP V 164 235 [.ref x, w1, w2, w3, w4, w5, w6, w7, w8, w9] st t I L R Q = WP V 164 236 [.ref x, w1, w2, w3, w4, w5, w6, w7, w8, w9] (.ref x :: st) t I L R Q := wp_go rfl
theorem i164_236 {w0 w2 w3 w4 w5 w6 w7 w8 w9 : Value} {x : Int32} : WP V 164 236 [w0, .int x, w2, w3, w4, w5, w6, w7, w8, w9] st t I L R Q = WP V 164 237 [w0, .int x, w2, w3, w4, w5, w6, w7, w8, w9] (.int x :: st) t I L R Q := wp_go rfl
theorem i164_237 {w0 w1 w2 w3 w4 w5 w6 w8 w9 : Value} {x : Int32} : WP V 164 237 [w0, w1, w2, w3, w4, w5, w6, .int x, w8, w9] st t I L R Q = WP V 164 238 [w0, w1, w2, w3, w4, w5, w6, .int x, w8, w9] (.int x :: st) t I L R Q := wp_go rfl
theorem i164_238 {x0 : Int32} {x1 : Int32} {x2 : Nat}  (h1 : x2 < t) (h2 : m_ob x2 8 = true) : WP V 164 238 ls [.int x0, .int x1, .ref x2] t I L R Q = WPC V 163 [.ref x2, .int x1, .int x0] 164 239 ls [] t I L R Q := wp_cls (wp_icv rfl rfl h1 h2) (by decide) (Nat.le_of_ble_eq_true rfl) rfl rfl (Nat.le_of_ble_eq_true rfl) (Nat.le_of_ble_eq_true rfl)
theorem i164_239  : WP V 164 239 ls st t I L R Q = WP V 164 243 ls st t I L R Q := wp_go rfl
theorem i164_240 {w1 w2 w3 w4 w5 w6 w7 w8 w9 : Value} {x : Nat} : WP V 164 240 [.ref x, w1, w2, w3, w4, w5, w6, w7, w8, w9] st t I L R Q = WP V 164 241 [.ref x, w1, w2, w3, w4, w5, w6, w7, w8, w9] (.ref x :: st) t I L R Q := wp_go rfl
theorem i164_241 {w0 w2 w3 w4 w5 w6 w7 w8 w9 : Value} {x : Int32} : WP V 164 241 [w0, .int x, w2, w3, w4, w5, w6, w7, w8, w9] st t I L R Q = WP V 164 242 [w0, .int x, w2, w3, w4, w5, w6, w7, w8, w9] (.int x :: st) t I L R Q := wp_go rfl
theorem i164_242 {x0 : Int32} {x1 : Nat}  (h1 : x1 < t) (h2 : m_ob x1 8 = true) : WP V 164 242 ls [.int x0, .ref x1] t I L R Q = WPC V 162 [.ref x1, .int x0] 164 243 ls [] t I L R Q := wp_cls (wp_icv rfl rfl h1 h2) (by decide) (Nat.le_of_ble_eq_true rfl) rfl rfl (Nat.le_of_ble_eq_true rfl) (Nat.le_of_ble_eq_true rfl)
theorem i164_243 {x : Int32} : WP V 164 243 ls [.int x] t I L R Q = Q (some (.int x)) t I L R := wp_rti rfl rfl
theorem i164_244 {w1 w2 w3 w4 w5 w6 w7 w8 w9 : Value} {x : Nat} : WP V 164 244 [.ref x, w1, w2, w3, w4, w5, w6, w7, w8, w9] st t I L R Q = WP V 164 245 [.ref x, w1, w2, w3, w4, w5, w6, w7, w8, w9] (.ref x :: st) t I L R Q := wp_go rfl
theorem i164_245 {w0 w2 w3 w4 w5 w6 w7 w8 w9 : Value} {x : Int32} : WP V 164 245 [w0, .int x, w2, w3, w4, w5, w6, w7, w8, w9] st t I L R Q = WP V 164 246 [w0, .int x, w2, w3, w4, w5, w6, w7, w8, w9] (.int x :: st) t I L R Q := wp_go rfl
theorem i164_246 {w0 w1 w2 w3 w4 w5 w7 w8 w9 : Value} {x : Int32} : WP V 164 246 [w0, w1, w2, w3, w4, w5, .int x, w7, w8, w9] st t I L R Q = WP V 164 247 [w0, w1, w2, w3, w4, w5, .int x, w7, w8, w9] (.int x :: st) t I L R Q := wp_go rfl
theorem i164_247 {x0 : Int32} {x1 : Int32} {x2 : Nat}  (h1 : x2 < t) (h2 : m_ob x2 8 = true) : WP V 164 247 ls [.int x0, .int x1, .ref x2] t I L R Q = WPC V 158 [.ref x2, .int x1, .int x0] 164 248 ls [] t I L R Q := wp_cls (wp_icv rfl rfl h1 h2) (by decide) (Nat.le_of_ble_eq_true rfl) rfl rfl (Nat.le_of_ble_eq_true rfl) (Nat.le_of_ble_eq_true rfl)
theorem i164_248 {x : Int32} : WP V 164 248 ls [.int x] t I L R Q = Q (some (.int x)) t I L R := wp_rti rfl rfl
theorem i164_249 {w1 w2 w3 w4 w5 w6 w7 w8 w9 : Value} {x : Nat} : WP V 164 249 [.ref x, w1, w2, w3, w4, w5, w6, w7, w8, w9] st t I L R Q = WP V 164 250 [.ref x, w1, w2, w3, w4, w5, w6, w7, w8, w9] (.ref x :: st) t I L R Q := wp_go rfl
theorem i164_250 {w0 w2 w3 w4 w5 w6 w7 w8 w9 : Value} {x : Int32} : WP V 164 250 [w0, .int x, w2, w3, w4, w5, w6, w7, w8, w9] st t I L R Q = WP V 164 251 [w0, .int x, w2, w3, w4, w5, w6, w7, w8, w9] (.int x :: st) t I L R Q := wp_go rfl
theorem i164_251 {x0 : Int32} {x1 : Nat}  (h1 : x1 < t) (h2 : m_ob x1 8 = true) : WP V 164 251 ls [.int x0, .ref x1] t I L R Q = WPC V 159 [.ref x1, .int x0] 164 252 ls [] t I L R Q := wp_cls (wp_icv rfl rfl h1 h2) (by decide) (Nat.le_of_ble_eq_true rfl) rfl rfl (Nat.le_of_ble_eq_true rfl) (Nat.le_of_ble_eq_true rfl)
theorem i164_252 {x : Int32} : WP V 164 252 ls [.int x] t I L R Q = Q (some (.int x)) t I L R := wp_rti rfl rfl
theorem i164_253 {w1 w2 w3 w4 w5 w6 w7 w8 w9 : Value} {x : Nat} : WP V 164 253 [.ref x, w1, w2, w3, w4, w5, w6, w7, w8, w9] st t I L R Q = WP V 164 254 [.ref x, w1, w2, w3, w4, w5, w6, w7, w8, w9] (.ref x :: st) t I L R Q := wp_go rfl
theorem i164_254 {w0 w2 w3 w4 w5 w6 w7 w8 w9 : Value} {x : Int32} : WP V 164 254 [w0, .int x, w2, w3, w4, w5, w6, w7, w8, w9] st t I L R Q = WP V 164 255 [w0, .int x, w2, w3, w4, w5, w6, w7, w8, w9] (.int x :: st) t I L R Q := wp_go rfl
theorem i164_255 {x0 : Int32} {x1 : Nat}  (h1 : x1 < t) (h2 : m_ob x1 8 = true) : WP V 164 255 ls [.int x0, .ref x1] t I L R Q = WPC V 160 [.ref x1, .int x0] 164 256 ls [] t I L R Q := wp_cls (wp_icv rfl rfl h1 h2) (by decide) (Nat.le_of_ble_eq_true rfl) rfl rfl (Nat.le_of_ble_eq_true rfl) (Nat.le_of_ble_eq_true rfl)
theorem i164_256 {x : Int32} : WP V 164 256 ls [.int x] t I L R Q = Q (some (.int x)) t I L R := wp_rti rfl rfl
theorem i164_257 {w0 w1 w2 w3 w4 w5 w6 w7 w8 : Value} {x : Int32} : WP V 164 257 [w0, w1, w2, w3, w4, w5, w6, w7, w8, .int x] st t I L R Q = WP V 164 258 [w0, w1, w2, w3, w4, w5, w6, w7, w8, .int x] (.int x :: st) t I L R Q := wp_go rfl
theorem i164_258 {x : Int32} : WP V 164 258 ls (.int x :: st) t I L R Q = if x = nI 0 then WP V 164 273 ls st t I L R Q else WP V 164 259 ls st t I L R Q := wp_br (c := m_cc .eq x 0) rfl rfl
theorem i164_259 {w1 w2 w3 w4 w5 w6 w7 w8 w9 : Value} {x : Nat} : WP V 164 259 [.ref x, w1, w2, w3, w4, w5, w6, w7, w8, w9] st t I L R Q = WP V 164 260 [.ref x, w1, w2, w3, w4, w5, w6, w7, w8, w9] (.ref x :: st) t I L R Q := wp_go rfl
theorem i164_260 {k : Nat} (h1 : k < t) (h2 : m_ob k 8 = true) : WP V 164 260 ls (.ref k :: st) t I L R Q = WP V 164 261 ls (m_rv (R k 0) :: st) t I L R Q := wp_getR rfl (by decide) h1 h2
theorem i164_261 {w0 w1 w3 w4 w5 w6 w7 w8 w9 : Value} {x : Int32} : WP V 164 261 [w0, w1, .int x, w3, w4, w5, w6, w7, w8, w9] st t I L R Q = WP V 164 262 [w0, w1, .int x, w3, w4, w5, w6, w7, w8, w9] (.int x :: st) t I L R Q := wp_go rfl
theorem i164_262  : WP V 164 262 ls st t I L R Q = WP V 164 263 ls (.int (nI 102) :: st) t I L R Q := wp_go rfl
theorem i164_263 {x y : Int32} : WP V 164 263 ls (.int y :: .int x :: st) t I L R Q = WP V 164 264 ls (.int (x + y) :: st) t I L R Q := wp_go rfl
theorem i164_264 {k j : Nat} (h2 : m_ar k 2 612 = true) (h1 : k < t) (h3 : j < 612) : WP V 164 264 ls (.int (nI j) :: .ref k :: st) t I L R Q = WP V 164 265 ls (.int (I k j) :: st) t I L R Q := wp_iaload rfl (by decide) h1 h2 h3
theorem i164_265  : WP V 164 265 ls st t I L R Q = WP V 164 266 ls (.int (nI 2) :: st) t I L R Q := wp_go rfl
theorem i164_266 {x y : Int32} : WP V 164 266 ls (.int y :: .int x :: st) t I L R Q = if x = y then WP V 164 267 ls st t I L R Q else WP V 164 273 ls st t I L R Q := wp_brn (c := m_cc .ne x y) rfl rfl
theorem i164_267 {w1 w2 w3 w4 w5 w6 w7 w8 w9 : Value} {x : Nat} : WP V 164 267 [.ref x, w1, w2, w3, w4, w5, w6, w7, w8, w9] st t I L R Q = WP V 164 268 [.ref x, w1, w2, w3, w4, w5, w6, w7, w8, w9] (.ref x :: st) t I L R Q := wp_go rfl
theorem i164_268 {w0 w2 w3 w4 w5 w6 w7 w8 w9 : Value} {x : Int32} : WP V 164 268 [w0, .int x, w2, w3, w4, w5, w6, w7, w8, w9] st t I L R Q = WP V 164 269 [w0, .int x, w2, w3, w4, w5, w6, w7, w8, w9] (.int x :: st) t I L R Q := wp_go rfl
theorem i164_269  : WP V 164 269 ls st t I L R Q = WP V 164 270 ls (.int (nI 0) :: st) t I L R Q := wp_go rfl
theorem i164_270 {w0 w1 w2 w3 w4 w5 w7 w8 w9 : Value} {x : Int32} : WP V 164 270 [w0, w1, w2, w3, w4, w5, .int x, w7, w8, w9] st t I L R Q = WP V 164 271 [w0, w1, w2, w3, w4, w5, .int x, w7, w8, w9] (.int x :: st) t I L R Q := wp_go rfl
theorem i164_271 {x0 : Int32} {x1 : Int32} {x2 : Int32} {x3 : Nat}  (h1 : x3 < t) (h2 : m_ob x3 8 = true) : WP V 164 271 ls [.int x0, .int x1, .int x2, .ref x3] t I L R Q = WPC V 156 [.ref x3, .int x2, .int x1, .int x0] 164 272 ls [] t I L R Q := wp_cls (wp_icv rfl rfl h1 h2) (by decide) (Nat.le_of_ble_eq_true rfl) rfl rfl (Nat.le_of_ble_eq_true rfl) (Nat.le_of_ble_eq_true rfl)
theorem i164_272 {x : Int32} : WP V 164 272 ls (.int x :: st) t I L R Q = if x = nI 0 then WP V 164 273 ls st t I L R Q else WP V 164 278 ls st t I L R Q := wp_brn (c := m_cc .ne x 0) rfl rfl
theorem i164_273 {w1 w2 w3 w4 w5 w6 w7 w8 w9 : Value} {x : Nat} : WP V 164 273 [.ref x, w1, w2, w3, w4, w5, w6, w7, w8, w9] st t I L R Q = WP V 164 274 [.ref x, w1, w2, w3, w4, w5, w6, w7, w8, w9] (.ref x :: st) t I L R Q := wp_go rfl
theorem i164_274 {w0 w2 w3 w4 w5 w6 w7 w8 w9 : Value} {x : Int32} : WP V 164 274 [w0, .int x, w2, w3, w4, w5, w6, w7, w8, w9] st t I L R Q = WP V 164 275 [w0, .int x, w2, w3, w4, w5, w6, w7, w8, w9] (.int x :: st) t I L R Q := wp_go rfl
theorem i164_275  : WP V 164 275 ls st t I L R Q = WP V 164 276 ls (.int (nI 5) :: st) t I L R Q := wp_go rfl
theorem i164_276 {x0 : Int32} {x1 : Int32} {x2 : Nat}  (h1 : x2 < t) (h2 : m_ob x2 8 = true) : WP V 164 276 ls [.int x0, .int x1, .ref x2] t I L R Q = WPC V 155 [.ref x2, .int x1, .int x0] 164 277 ls [] t I L R Q := wp_cls (wp_icv rfl rfl h1 h2) (by decide) (Nat.le_of_ble_eq_true rfl) rfl rfl (Nat.le_of_ble_eq_true rfl) (Nat.le_of_ble_eq_true rfl)
theorem i164_277  : WP V 164 277 ls st t I L R Q = WP V 164 281 ls st t I L R Q := wp_go rfl
theorem i164_278 {w1 w2 w3 w4 w5 w6 w7 w8 w9 : Value} {x : Nat} : WP V 164 278 [.ref x, w1, w2, w3, w4, w5, w6, w7, w8, w9] st t I L R Q = WP V 164 279 [.ref x, w1, w2, w3, w4, w5, w6, w7, w8, w9] (.ref x :: st) t I L R Q := wp_go rfl
theorem i164_279 {w0 w2 w3 w4 w5 w6 w7 w8 w9 : Value} {x : Int32} : WP V 164 279 [w0, .int x, w2, w3, w4, w5, w6, w7, w8, w9] st t I L R Q = WP V 164 280 [w0, .int x, w2, w3, w4, w5, w6, w7, w8, w9] (.int x :: st) t I L R Q := wp_go rfl
theorem i164_280 {x0 : Int32} {x1 : Nat}  (h1 : x1 < t) (h2 : m_ob x1 8 = true) : WP V 164 280 ls [.int x0, .ref x1] t I L R Q = WPC V 162 [.ref x1, .int x0] 164 281 ls [] t I L R Q := wp_cls (wp_icv rfl rfl h1 h2) (by decide) (Nat.le_of_ble_eq_true rfl) rfl rfl (Nat.le_of_ble_eq_true rfl) (Nat.le_of_ble_eq_true rfl)
theorem i164_281 {x : Int32} : WP V 164 281 ls [.int x] t I L R Q = Q (some (.int x)) t I L R := wp_rti rfl rfl
theorem i164_282 {w0 w1 w2 w3 w4 w5 w6 w7 w8 : Value} {x : Int32} : WP V 164 282 [w0, w1, w2, w3, w4, w5, w6, w7, w8, .int x] st t I L R Q = WP V 164 283 [w0, w1, w2, w3, w4, w5, w6, w7, w8, .int x] (.int x :: st) t I L R Q := wp_go rfl
theorem i164_283 {x : Int32} : WP V 164 283 ls (.int x :: st) t I L R Q = if x = nI 0 then WP V 164 294 ls st t I L R Q else WP V 164 284 ls st t I L R Q := wp_br (c := m_cc .eq x 0) rfl rfl
theorem i164_284 {w1 w2 w3 w4 w5 w6 w7 w8 w9 : Value} {x : Nat} : WP V 164 284 [.ref x, w1, w2, w3, w4, w5, w6, w7, w8, w9] st t I L R Q = WP V 164 285 [.ref x, w1, w2, w3, w4, w5, w6, w7, w8, w9] (.ref x :: st) t I L R Q := wp_go rfl
theorem i164_285 {w0 w2 w3 w4 w5 w6 w7 w8 w9 : Value} {x : Int32} : WP V 164 285 [w0, .int x, w2, w3, w4, w5, w6, w7, w8, w9] st t I L R Q = WP V 164 286 [w0, .int x, w2, w3, w4, w5, w6, w7, w8, w9] (.int x :: st) t I L R Q := wp_go rfl
theorem i164_286  : WP V 164 286 ls st t I L R Q = WP V 164 287 ls (.int (nI 0) :: st) t I L R Q := wp_go rfl
theorem i164_287 {x0 : Int32} {x1 : Int32} {x2 : Nat}  (h1 : x2 < t) (h2 : m_ob x2 8 = true) : WP V 164 287 ls [.int x0, .int x1, .ref x2] t I L R Q = WPC V 157 [.ref x2, .int x1, .int x0] 164 288 ls [] t I L R Q := wp_cls (wp_icv rfl rfl h1 h2) (by decide) (Nat.le_of_ble_eq_true rfl) rfl rfl (Nat.le_of_ble_eq_true rfl) (Nat.le_of_ble_eq_true rfl)
theorem i164_288 {x : Int32} : WP V 164 288 ls (.int x :: st) t I L R Q = if x = nI 0 then WP V 164 294 ls st t I L R Q else WP V 164 289 ls st t I L R Q := wp_br (c := m_cc .eq x 0) rfl rfl
theorem i164_289 {w1 w2 w3 w4 w5 w6 w7 w8 w9 : Value} {x : Nat} : WP V 164 289 [.ref x, w1, w2, w3, w4, w5, w6, w7, w8, w9] st t I L R Q = WP V 164 290 [.ref x, w1, w2, w3, w4, w5, w6, w7, w8, w9] (.ref x :: st) t I L R Q := wp_go rfl
theorem i164_290 {w0 w2 w3 w4 w5 w6 w7 w8 w9 : Value} {x : Int32} : WP V 164 290 [w0, .int x, w2, w3, w4, w5, w6, w7, w8, w9] st t I L R Q = WP V 164 291 [w0, .int x, w2, w3, w4, w5, w6, w7, w8, w9] (.int x :: st) t I L R Q := wp_go rfl
theorem i164_291 {w0 w1 w2 w3 w4 w5 w7 w8 w9 : Value} {x : Int32} : WP V 164 291 [w0, w1, w2, w3, w4, w5, .int x, w7, w8, w9] st t I L R Q = WP V 164 292 [w0, w1, w2, w3, w4, w5, .int x, w7, w8, w9] (.int x :: st) t I L R Q := wp_go rfl
theorem i164_292 {x0 : Int32} {x1 : Int32} {x2 : Nat}  (h1 : x2 < t) (h2 : m_ob x2 8 = true) : WP V 164 292 ls [.int x0, .int x1, .ref x2] t I L R Q = WPC V 163 [.ref x2, .int x1, .int x0] 164 293 ls [] t I L R Q := wp_cls (wp_icv rfl rfl h1 h2) (by decide) (Nat.le_of_ble_eq_true rfl) rfl rfl (Nat.le_of_ble_eq_true rfl) (Nat.le_of_ble_eq_true rfl)
theorem i164_293  : WP V 164 293 ls st t I L R Q = WP V 164 298 ls st t I L R Q := wp_go rfl
theorem i164_294 {w1 w2 w3 w4 w5 w6 w7 w8 w9 : Value} {x : Nat} : WP V 164 294 [.ref x, w1, w2, w3, w4, w5, w6, w7, w8, w9] st t I L R Q = WP V 164 295 [.ref x, w1, w2, w3, w4, w5, w6, w7, w8, w9] (.ref x :: st) t I L R Q := wp_go rfl
theorem i164_295 {w0 w2 w3 w4 w5 w6 w7 w8 w9 : Value} {x : Int32} : WP V 164 295 [w0, .int x, w2, w3, w4, w5, w6, w7, w8, w9] st t I L R Q = WP V 164 296 [w0, .int x, w2, w3, w4, w5, w6, w7, w8, w9] (.int x :: st) t I L R Q := wp_go rfl
theorem i164_296  : WP V 164 296 ls st t I L R Q = WP V 164 297 ls (.int (nI 5) :: st) t I L R Q := wp_go rfl
theorem i164_297 {x0 : Int32} {x1 : Int32} {x2 : Nat}  (h1 : x2 < t) (h2 : m_ob x2 8 = true) : WP V 164 297 ls [.int x0, .int x1, .ref x2] t I L R Q = WPC V 155 [.ref x2, .int x1, .int x0] 164 298 ls [] t I L R Q := wp_cls (wp_icv rfl rfl h1 h2) (by decide) (Nat.le_of_ble_eq_true rfl) rfl rfl (Nat.le_of_ble_eq_true rfl) (Nat.le_of_ble_eq_true rfl)
theorem i164_298 {x : Int32} : WP V 164 298 ls [.int x] t I L R Q = Q (some (.int x)) t I L R := wp_rti rfl rfl
theorem i164_299 {w0 w1 w2 w3 w4 w5 w6 w7 w8 : Value} {x : Int32} : WP V 164 299 [w0, w1, w2, w3, w4, w5, w6, w7, w8, .int x] st t I L R Q = WP V 164 300 [w0, w1, w2, w3, w4, w5, w6, w7, w8, .int x] (.int x :: st) t I L R Q := wp_go rfl
theorem i164_300 {x : Int32} : WP V 164 300 ls (.int x :: st) t I L R Q = if x = nI 0 then WP V 164 315 ls st t I L R Q else WP V 164 301 ls st t I L R Q := wp_br (c := m_cc .eq x 0) rfl rfl
theorem i164_301 {w1 w2 w3 w4 w5 w6 w7 w8 w9 : Value} {x : Nat} : WP V 164 301 [.ref x, w1, w2, w3, w4, w5, w6, w7, w8, w9] st t I L R Q = WP V 164 302 [.ref x, w1, w2, w3, w4, w5, w6, w7, w8, w9] (.ref x :: st) t I L R Q := wp_go rfl
theorem i164_302 {k : Nat} (h1 : k < t) (h2 : m_ob k 8 = true) : WP V 164 302 ls (.ref k :: st) t I L R Q = WP V 164 303 ls (m_rv (R k 0) :: st) t I L R Q := wp_getR rfl (by decide) h1 h2
theorem i164_303 {w0 w1 w3 w4 w5 w6 w7 w8 w9 : Value} {x : Int32} : WP V 164 303 [w0, w1, .int x, w3, w4, w5, w6, w7, w8, w9] st t I L R Q = WP V 164 304 [w0, w1, .int x, w3, w4, w5, w6, w7, w8, w9] (.int x :: st) t I L R Q := wp_go rfl
theorem i164_304  : WP V 164 304 ls st t I L R Q = WP V 164 305 ls (.int (nI 102) :: st) t I L R Q := wp_go rfl
theorem i164_305 {x y : Int32} : WP V 164 305 ls (.int y :: .int x :: st) t I L R Q = WP V 164 306 ls (.int (x + y) :: st) t I L R Q := wp_go rfl
theorem i164_306 {k j : Nat} (h2 : m_ar k 2 612 = true) (h1 : k < t) (h3 : j < 612) : WP V 164 306 ls (.int (nI j) :: .ref k :: st) t I L R Q = WP V 164 307 ls (.int (I k j) :: st) t I L R Q := wp_iaload rfl (by decide) h1 h2 h3
theorem i164_307  : WP V 164 307 ls st t I L R Q = WP V 164 308 ls (.int (nI 3) :: st) t I L R Q := wp_go rfl
theorem i164_308 {x y : Int32} : WP V 164 308 ls (.int y :: .int x :: st) t I L R Q = if x = y then WP V 164 315 ls st t I L R Q else WP V 164 309 ls st t I L R Q := wp_br (c := m_cc .eq x y) rfl rfl
theorem i164_309 {w1 w2 w3 w4 w5 w6 w7 w8 w9 : Value} {x : Nat} : WP V 164 309 [.ref x, w1, w2, w3, w4, w5, w6, w7, w8, w9] st t I L R Q = WP V 164 310 [.ref x, w1, w2, w3, w4, w5, w6, w7, w8, w9] (.ref x :: st) t I L R Q := wp_go rfl
theorem i164_310 {w0 w2 w3 w4 w5 w6 w7 w8 w9 : Value} {x : Int32} : WP V 164 310 [w0, .int x, w2, w3, w4, w5, w6, w7, w8, w9] st t I L R Q = WP V 164 311 [w0, .int x, w2, w3, w4, w5, w6, w7, w8, w9] (.int x :: st) t I L R Q := wp_go rfl
theorem i164_311  : WP V 164 311 ls st t I L R Q = WP V 164 312 ls (.int (nI 1) :: st) t I L R Q := wp_go rfl
theorem i164_312 {w0 w1 w2 w3 w4 w5 w7 w8 w9 : Value} {x : Int32} : WP V 164 312 [w0, w1, w2, w3, w4, w5, .int x, w7, w8, w9] st t I L R Q = WP V 164 313 [w0, w1, w2, w3, w4, w5, .int x, w7, w8, w9] (.int x :: st) t I L R Q := wp_go rfl
theorem i164_313 {x0 : Int32} {x1 : Int32} {x2 : Int32} {x3 : Nat}  (h1 : x3 < t) (h2 : m_ob x3 8 = true) : WP V 164 313 ls [.int x0, .int x1, .int x2, .ref x3] t I L R Q = WPC V 156 [.ref x3, .int x2, .int x1, .int x0] 164 314 ls [] t I L R Q := wp_cls (wp_icv rfl rfl h1 h2) (by decide) (Nat.le_of_ble_eq_true rfl) rfl rfl (Nat.le_of_ble_eq_true rfl) (Nat.le_of_ble_eq_true rfl)
theorem i164_314 {x : Int32} : WP V 164 314 ls (.int x :: st) t I L R Q = if x = nI 0 then WP V 164 315 ls st t I L R Q else WP V 164 320 ls st t I L R Q := wp_brn (c := m_cc .ne x 0) rfl rfl
theorem i164_315 {w1 w2 w3 w4 w5 w6 w7 w8 w9 : Value} {x : Nat} : WP V 164 315 [.ref x, w1, w2, w3, w4, w5, w6, w7, w8, w9] st t I L R Q = WP V 164 316 [.ref x, w1, w2, w3, w4, w5, w6, w7, w8, w9] (.ref x :: st) t I L R Q := wp_go rfl
theorem i164_316 {w0 w2 w3 w4 w5 w6 w7 w8 w9 : Value} {x : Int32} : WP V 164 316 [w0, .int x, w2, w3, w4, w5, w6, w7, w8, w9] st t I L R Q = WP V 164 317 [w0, .int x, w2, w3, w4, w5, w6, w7, w8, w9] (.int x :: st) t I L R Q := wp_go rfl
theorem i164_317  : WP V 164 317 ls st t I L R Q = WP V 164 318 ls (.int (nI 5) :: st) t I L R Q := wp_go rfl
theorem i164_318 {x0 : Int32} {x1 : Int32} {x2 : Nat}  (h1 : x2 < t) (h2 : m_ob x2 8 = true) : WP V 164 318 ls [.int x0, .int x1, .ref x2] t I L R Q = WPC V 155 [.ref x2, .int x1, .int x0] 164 319 ls [] t I L R Q := wp_cls (wp_icv rfl rfl h1 h2) (by decide) (Nat.le_of_ble_eq_true rfl) rfl rfl (Nat.le_of_ble_eq_true rfl) (Nat.le_of_ble_eq_true rfl)
theorem i164_319  : WP V 164 319 ls st t I L R Q = WP V 164 323 ls st t I L R Q := wp_go rfl
theorem i164_320 {w1 w2 w3 w4 w5 w6 w7 w8 w9 : Value} {x : Nat} : WP V 164 320 [.ref x, w1, w2, w3, w4, w5, w6, w7, w8, w9] st t I L R Q = WP V 164 321 [.ref x, w1, w2, w3, w4, w5, w6, w7, w8, w9] (.ref x :: st) t I L R Q := wp_go rfl
theorem i164_321 {w0 w2 w3 w4 w5 w6 w7 w8 w9 : Value} {x : Int32} : WP V 164 321 [w0, .int x, w2, w3, w4, w5, w6, w7, w8, w9] st t I L R Q = WP V 164 322 [w0, .int x, w2, w3, w4, w5, w6, w7, w8, w9] (.int x :: st) t I L R Q := wp_go rfl
theorem i164_322 {x0 : Int32} {x1 : Nat}  (h1 : x1 < t) (h2 : m_ob x1 8 = true) : WP V 164 322 ls [.int x0, .ref x1] t I L R Q = WPC V 162 [.ref x1, .int x0] 164 323 ls [] t I L R Q := wp_cls (wp_icv rfl rfl h1 h2) (by decide) (Nat.le_of_ble_eq_true rfl) rfl rfl (Nat.le_of_ble_eq_true rfl) (Nat.le_of_ble_eq_true rfl)
theorem i164_323 {x : Int32} : WP V 164 323 ls [.int x] t I L R Q = Q (some (.int x)) t I L R := wp_rti rfl rfl
theorem i164_324 {w0 w1 w2 w3 w4 w5 w6 w7 w8 : Value} {x : Int32} : WP V 164 324 [w0, w1, w2, w3, w4, w5, w6, w7, w8, .int x] st t I L R Q = WP V 164 325 [w0, w1, w2, w3, w4, w5, w6, w7, w8, .int x] (.int x :: st) t I L R Q := wp_go rfl
theorem i164_325 {x : Int32} : WP V 164 325 ls (.int x :: st) t I L R Q = if x = nI 0 then WP V 164 335 ls st t I L R Q else WP V 164 326 ls st t I L R Q := wp_br (c := m_cc .eq x 0) rfl rfl
theorem i164_326 {w1 w2 w3 w4 w5 w6 w7 w8 w9 : Value} {x : Nat} : WP V 164 326 [.ref x, w1, w2, w3, w4, w5, w6, w7, w8, w9] st t I L R Q = WP V 164 327 [.ref x, w1, w2, w3, w4, w5, w6, w7, w8, w9] (.ref x :: st) t I L R Q := wp_go rfl
theorem i164_327 {w0 w2 w3 w4 w5 w6 w7 w8 w9 : Value} {x : Int32} : WP V 164 327 [w0, .int x, w2, w3, w4, w5, w6, w7, w8, w9] st t I L R Q = WP V 164 328 [w0, .int x, w2, w3, w4, w5, w6, w7, w8, w9] (.int x :: st) t I L R Q := wp_go rfl
theorem i164_328  : WP V 164 328 ls st t I L R Q = WP V 164 329 ls (.int (nI 1) :: st) t I L R Q := wp_go rfl
theorem i164_329 {x0 : Int32} {x1 : Int32} {x2 : Nat}  (h1 : x2 < t) (h2 : m_ob x2 8 = true) : WP V 164 329 ls [.int x0, .int x1, .ref x2] t I L R Q = WPC V 157 [.ref x2, .int x1, .int x0] 164 330 ls [] t I L R Q := wp_cls (wp_icv rfl rfl h1 h2) (by decide) (Nat.le_of_ble_eq_true rfl) rfl rfl (Nat.le_of_ble_eq_true rfl) (Nat.le_of_ble_eq_true rfl)
theorem i164_330 {x : Int32} : WP V 164 330 ls (.int x :: st) t I L R Q = if x = nI 0 then WP V 164 335 ls st t I L R Q else WP V 164 331 ls st t I L R Q := wp_br (c := m_cc .eq x 0) rfl rfl
theorem i164_331 {w1 w2 w3 w4 w5 w6 w7 w8 w9 : Value} {x : Nat} : WP V 164 331 [.ref x, w1, w2, w3, w4, w5, w6, w7, w8, w9] st t I L R Q = WP V 164 332 [.ref x, w1, w2, w3, w4, w5, w6, w7, w8, w9] (.ref x :: st) t I L R Q := wp_go rfl
theorem i164_332 {w0 w2 w3 w4 w5 w6 w7 w8 w9 : Value} {x : Int32} : WP V 164 332 [w0, .int x, w2, w3, w4, w5, w6, w7, w8, w9] st t I L R Q = WP V 164 333 [w0, .int x, w2, w3, w4, w5, w6, w7, w8, w9] (.int x :: st) t I L R Q := wp_go rfl
theorem i164_333 {x0 : Int32} {x1 : Nat}  (h1 : x1 < t) (h2 : m_ob x1 8 = true) : WP V 164 333 ls [.int x0, .ref x1] t I L R Q = WPC V 162 [.ref x1, .int x0] 164 334 ls [] t I L R Q := wp_cls (wp_icv rfl rfl h1 h2) (by decide) (Nat.le_of_ble_eq_true rfl) rfl rfl (Nat.le_of_ble_eq_true rfl) (Nat.le_of_ble_eq_true rfl)
theorem i164_334  : WP V 164 334 ls st t I L R Q = WP V 164 339 ls st t I L R Q := wp_go rfl
theorem i164_335 {w1 w2 w3 w4 w5 w6 w7 w8 w9 : Value} {x : Nat} : WP V 164 335 [.ref x, w1, w2, w3, w4, w5, w6, w7, w8, w9] st t I L R Q = WP V 164 336 [.ref x, w1, w2, w3, w4, w5, w6, w7, w8, w9] (.ref x :: st) t I L R Q := wp_go rfl
theorem i164_336 {w0 w2 w3 w4 w5 w6 w7 w8 w9 : Value} {x : Int32} : WP V 164 336 [w0, .int x, w2, w3, w4, w5, w6, w7, w8, w9] st t I L R Q = WP V 164 337 [w0, .int x, w2, w3, w4, w5, w6, w7, w8, w9] (.int x :: st) t I L R Q := wp_go rfl
theorem i164_337  : WP V 164 337 ls st t I L R Q = WP V 164 338 ls (.int (nI 5) :: st) t I L R Q := wp_go rfl
theorem i164_338 {x0 : Int32} {x1 : Int32} {x2 : Nat}  (h1 : x2 < t) (h2 : m_ob x2 8 = true) : WP V 164 338 ls [.int x0, .int x1, .ref x2] t I L R Q = WPC V 155 [.ref x2, .int x1, .int x0] 164 339 ls [] t I L R Q := wp_cls (wp_icv rfl rfl h1 h2) (by decide) (Nat.le_of_ble_eq_true rfl) rfl rfl (Nat.le_of_ble_eq_true rfl) (Nat.le_of_ble_eq_true rfl)
theorem i164_339 {x : Int32} : WP V 164 339 ls [.int x] t I L R Q = Q (some (.int x)) t I L R := wp_rti rfl rfl
theorem i164_340 {w1 w2 w3 w4 w5 w6 w7 w8 w9 : Value} {x : Nat} : WP V 164 340 [.ref x, w1, w2, w3, w4, w5, w6, w7, w8, w9] st t I L R Q = WP V 164 341 [.ref x, w1, w2, w3, w4, w5, w6, w7, w8, w9] (.ref x :: st) t I L R Q := wp_go rfl
theorem i164_341 {w0 w2 w3 w4 w5 w6 w7 w8 w9 : Value} {x : Int32} : WP V 164 341 [w0, .int x, w2, w3, w4, w5, w6, w7, w8, w9] st t I L R Q = WP V 164 342 [w0, .int x, w2, w3, w4, w5, w6, w7, w8, w9] (.int x :: st) t I L R Q := wp_go rfl
theorem i164_342  : WP V 164 342 ls st t I L R Q = WP V 164 343 ls (.int (nI 2) :: st) t I L R Q := wp_go rfl
theorem i164_343 {w0 w1 w2 w3 w4 w5 w7 w8 w9 : Value} {x : Int32} : WP V 164 343 [w0, w1, w2, w3, w4, w5, .int x, w7, w8, w9] st t I L R Q = WP V 164 344 [w0, w1, w2, w3, w4, w5, .int x, w7, w8, w9] (.int x :: st) t I L R Q := wp_go rfl
theorem i164_344 {x0 : Int32} {x1 : Int32} {x2 : Int32} {x3 : Nat}  (h1 : x3 < t) (h2 : m_ob x3 8 = true) : WP V 164 344 ls [.int x0, .int x1, .int x2, .ref x3] t I L R Q = WPC V 156 [.ref x3, .int x2, .int x1, .int x0] 164 345 ls [] t I L R Q := wp_cls (wp_icv rfl rfl h1 h2) (by decide) (Nat.le_of_ble_eq_true rfl) rfl rfl (Nat.le_of_ble_eq_true rfl) (Nat.le_of_ble_eq_true rfl)
theorem i164_345 {x : Int32} : WP V 164 345 ls (.int x :: st) t I L R Q = if x = nI 0 then WP V 164 350 ls st t I L R Q else WP V 164 346 ls st t I L R Q := wp_br (c := m_cc .eq x 0) rfl rfl
theorem i164_346 {w1 w2 w3 w4 w5 w6 w7 w8 w9 : Value} {x : Nat} : WP V 164 346 [.ref x, w1, w2, w3, w4, w5, w6, w7, w8, w9] st t I L R Q = WP V 164 347 [.ref x, w1, w2, w3, w4, w5, w6, w7, w8, w9] (.ref x :: st) t I L R Q := wp_go rfl
theorem i164_347 {w0 w2 w3 w4 w5 w6 w7 w8 w9 : Value} {x : Int32} : WP V 164 347 [w0, .int x, w2, w3, w4, w5, w6, w7, w8, w9] st t I L R Q = WP V 164 348 [w0, .int x, w2, w3, w4, w5, w6, w7, w8, w9] (.int x :: st) t I L R Q := wp_go rfl
theorem i164_348 {x0 : Int32} {x1 : Nat}  (h1 : x1 < t) (h2 : m_ob x1 8 = true) : WP V 164 348 ls [.int x0, .ref x1] t I L R Q = WPC V 162 [.ref x1, .int x0] 164 349 ls [] t I L R Q := wp_cls (wp_icv rfl rfl h1 h2) (by decide) (Nat.le_of_ble_eq_true rfl) rfl rfl (Nat.le_of_ble_eq_true rfl) (Nat.le_of_ble_eq_true rfl)
theorem i164_349  : WP V 164 349 ls st t I L R Q = WP V 164 354 ls st t I L R Q := wp_go rfl
theorem i164_350 {w1 w2 w3 w4 w5 w6 w7 w8 w9 : Value} {x : Nat} : WP V 164 350 [.ref x, w1, w2, w3, w4, w5, w6, w7, w8, w9] st t I L R Q = WP V 164 351 [.ref x, w1, w2, w3, w4, w5, w6, w7, w8, w9] (.ref x :: st) t I L R Q := wp_go rfl
theorem i164_351 {w0 w2 w3 w4 w5 w6 w7 w8 w9 : Value} {x : Int32} : WP V 164 351 [w0, .int x, w2, w3, w4, w5, w6, w7, w8, w9] st t I L R Q = WP V 164 352 [w0, .int x, w2, w3, w4, w5, w6, w7, w8, w9] (.int x :: st) t I L R Q := wp_go rfl
theorem i164_352  : WP V 164 352 ls st t I L R Q = WP V 164 353 ls (.int (nI 5) :: st) t I L R Q := wp_go rfl
theorem i164_353 {x0 : Int32} {x1 : Int32} {x2 : Nat}  (h1 : x2 < t) (h2 : m_ob x2 8 = true) : WP V 164 353 ls [.int x0, .int x1, .ref x2] t I L R Q = WPC V 155 [.ref x2, .int x1, .int x0] 164 354 ls [] t I L R Q := wp_cls (wp_icv rfl rfl h1 h2) (by decide) (Nat.le_of_ble_eq_true rfl) rfl rfl (Nat.le_of_ble_eq_true rfl) (Nat.le_of_ble_eq_true rfl)
theorem i164_354 {x : Int32} : WP V 164 354 ls [.int x] t I L R Q = Q (some (.int x)) t I L R := wp_rti rfl rfl
theorem i164_355 {w1 w2 w3 w4 w5 w6 w7 w8 w9 : Value} {x : Nat} : WP V 164 355 [.ref x, w1, w2, w3, w4, w5, w6, w7, w8, w9] st t I L R Q = WP V 164 356 [.ref x, w1, w2, w3, w4, w5, w6, w7, w8, w9] (.ref x :: st) t I L R Q := wp_go rfl
theorem i164_356 {w0 w2 w3 w4 w5 w6 w7 w8 w9 : Value} {x : Int32} : WP V 164 356 [w0, .int x, w2, w3, w4, w5, w6, w7, w8, w9] st t I L R Q = WP V 164 357 [w0, .int x, w2, w3, w4, w5, w6, w7, w8, w9] (.int x :: st) t I L R Q := wp_go rfl
theorem i164_357  : WP V 164 357 ls st t I L R Q = WP V 164 358 ls (.int (nI 2) :: st) t I L R Q := wp_go rfl
theorem i164_358 {x0 : Int32} {x1 : Int32} {x2 : Nat}  (h1 : x2 < t) (h2 : m_ob x2 8 = true) : WP V 164 358 ls [.int x0, .int x1, .ref x2] t I L R Q = WPC V 157 [.ref x2, .int x1, .int x0] 164 359 ls [] t I L R Q := wp_cls (wp_icv rfl rfl h1 h2) (by decide) (Nat.le_of_ble_eq_true rfl) rfl rfl (Nat.le_of_ble_eq_true rfl) (Nat.le_of_ble_eq_true rfl)
theorem i164_359 {x : Int32} : WP V 164 359 ls (.int x :: st) t I L R Q = if x = nI 0 then WP V 164 364 ls st t I L R Q else WP V 164 360 ls st t I L R Q := wp_br (c := m_cc .eq x 0) rfl rfl
theorem i164_360 {w1 w2 w3 w4 w5 w6 w7 w8 w9 : Value} {x : Nat} : WP V 164 360 [.ref x, w1, w2, w3, w4, w5, w6, w7, w8, w9] st t I L R Q = WP V 164 361 [.ref x, w1, w2, w3, w4, w5, w6, w7, w8, w9] (.ref x :: st) t I L R Q := wp_go rfl
theorem i164_361 {w0 w2 w3 w4 w5 w6 w7 w8 w9 : Value} {x : Int32} : WP V 164 361 [w0, .int x, w2, w3, w4, w5, w6, w7, w8, w9] st t I L R Q = WP V 164 362 [w0, .int x, w2, w3, w4, w5, w6, w7, w8, w9] (.int x :: st) t I L R Q := wp_go rfl
theorem i164_362 {x0 : Int32} {x1 : Nat}  (h1 : x1 < t) (h2 : m_ob x1 8 = true) : WP V 164 362 ls [.int x0, .ref x1] t I L R Q = WPC V 162 [.ref x1, .int x0] 164 363 ls [] t I L R Q := wp_cls (wp_icv rfl rfl h1 h2) (by decide) (Nat.le_of_ble_eq_true rfl) rfl rfl (Nat.le_of_ble_eq_true rfl) (Nat.le_of_ble_eq_true rfl)
theorem i164_363  : WP V 164 363 ls st t I L R Q = WP V 164 368 ls st t I L R Q := wp_go rfl
theorem i164_364 {w1 w2 w3 w4 w5 w6 w7 w8 w9 : Value} {x : Nat} : WP V 164 364 [.ref x, w1, w2, w3, w4, w5, w6, w7, w8, w9] st t I L R Q = WP V 164 365 [.ref x, w1, w2, w3, w4, w5, w6, w7, w8, w9] (.ref x :: st) t I L R Q := wp_go rfl
theorem i164_365 {w0 w2 w3 w4 w5 w6 w7 w8 w9 : Value} {x : Int32} : WP V 164 365 [w0, .int x, w2, w3, w4, w5, w6, w7, w8, w9] st t I L R Q = WP V 164 366 [w0, .int x, w2, w3, w4, w5, w6, w7, w8, w9] (.int x :: st) t I L R Q := wp_go rfl
theorem i164_366  : WP V 164 366 ls st t I L R Q = WP V 164 367 ls (.int (nI 5) :: st) t I L R Q := wp_go rfl
theorem i164_367 {x0 : Int32} {x1 : Int32} {x2 : Nat}  (h1 : x2 < t) (h2 : m_ob x2 8 = true) : WP V 164 367 ls [.int x0, .int x1, .ref x2] t I L R Q = WPC V 155 [.ref x2, .int x1, .int x0] 164 368 ls [] t I L R Q := wp_cls (wp_icv rfl rfl h1 h2) (by decide) (Nat.le_of_ble_eq_true rfl) rfl rfl (Nat.le_of_ble_eq_true rfl) (Nat.le_of_ble_eq_true rfl)
theorem i164_368 {x : Int32} : WP V 164 368 ls [.int x] t I L R Q = Q (some (.int x)) t I L R := wp_rti rfl rfl
theorem i164_369 {w1 w2 w3 w4 w5 w6 w7 w8 w9 : Value} {x : Nat} : WP V 164 369 [.ref x, w1, w2, w3, w4, w5, w6, w7, w8, w9] st t I L R Q = WP V 164 370 [.ref x, w1, w2, w3, w4, w5, w6, w7, w8, w9] (.ref x :: st) t I L R Q := wp_go rfl
theorem i164_370 {w0 w2 w3 w4 w5 w6 w7 w8 w9 : Value} {x : Int32} : WP V 164 370 [w0, .int x, w2, w3, w4, w5, w6, w7, w8, w9] st t I L R Q = WP V 164 371 [w0, .int x, w2, w3, w4, w5, w6, w7, w8, w9] (.int x :: st) t I L R Q := wp_go rfl
theorem i164_371  : WP V 164 371 ls st t I L R Q = WP V 164 372 ls (.int (nI 10) :: st) t I L R Q := wp_go rfl
theorem i164_372 {w1 w2 w3 w4 w5 w6 w7 w8 w9 : Value} {x : Nat} : WP V 164 372 [.ref x, w1, w2, w3, w4, w5, w6, w7, w8, w9] st t I L R Q = WP V 164 373 [.ref x, w1, w2, w3, w4, w5, w6, w7, w8, w9] (.ref x :: st) t I L R Q := wp_go rfl
theorem i164_373 {k : Nat} (h1 : k < t) (h2 : m_ob k 8 = true) : WP V 164 373 ls (.ref k :: st) t I L R Q = WP V 164 374 ls (m_rv (R k 0) :: st) t I L R Q := wp_getR rfl (by decide) h1 h2
theorem i164_374 {w0 w1 w2 w3 w4 w5 w6 w7 w9 : Value} {x : Int32} : WP V 164 374 [w0, w1, w2, w3, w4, w5, w6, w7, .int x, w9] st t I L R Q = WP V 164 375 [w0, w1, w2, w3, w4, w5, w6, w7, .int x, w9] (.int x :: st) t I L R Q := wp_go rfl
theorem i164_375 {w0 w1 w2 w3 w4 w5 w7 w8 w9 : Value} {x : Int32} : WP V 164 375 [w0, w1, w2, w3, w4, w5, .int x, w7, w8, w9] st t I L R Q = WP V 164 376 [w0, w1, w2, w3, w4, w5, .int x, w7, w8, w9] (.int x :: st) t I L R Q := wp_go rfl
theorem i164_376 {x y : Int32} : WP V 164 376 ls (.int y :: .int x :: st) t I L R Q = WP V 164 377 ls (.int (x + y) :: st) t I L R Q := wp_go rfl
theorem i164_377 {k j : Nat} (h2 : m_ar k 2 612 = true) (h1 : k < t) (h3 : j < 612) : WP V 164 377 ls (.int (nI j) :: .ref k :: st) t I L R Q = WP V 164 378 ls (.int (I k j) :: st) t I L R Q := wp_iaload rfl (by decide) h1 h2 h3
theorem i164_378  : WP V 164 378 ls st t I L R Q = WP V 164 379 ls (.int (nI 7) :: st) t I L R Q := wp_go rfl
theorem i164_379 {x y : Int32} : WP V 164 379 ls (.int y :: .int x :: st) t I L R Q = WP V 164 380 ls (.int (x &&& y) :: st) t I L R Q := wp_go rfl
theorem i164_380 {x y : Int32} : WP V 164 380 ls (.int y :: .int x :: st) t I L R Q = WP V 164 381 ls (.int (x + y) :: st) t I L R Q := wp_go rfl
theorem i164_381 {x0 : Int32} {x1 : Int32} {x2 : Nat}  (h1 : x2 < t) (h2 : m_ob x2 8 = true) : WP V 164 381 ls [.int x0, .int x1, .ref x2] t I L R Q = WPC V 155 [.ref x2, .int x1, .int x0] 164 382 ls [] t I L R Q := wp_cls (wp_icv rfl rfl h1 h2) (by decide) (Nat.le_of_ble_eq_true rfl) rfl rfl (Nat.le_of_ble_eq_true rfl) (Nat.le_of_ble_eq_true rfl)
theorem i164_382 {x : Int32} : WP V 164 382 ls [.int x] t I L R Q = Q (some (.int x)) t I L R := wp_rti rfl rfl
theorem i164_383 {w1 w2 w3 w4 w5 w6 w7 w8 w9 : Value} {x : Nat} : WP V 164 383 [.ref x, w1, w2, w3, w4, w5, w6, w7, w8, w9] st t I L R Q = WP V 164 384 [.ref x, w1, w2, w3, w4, w5, w6, w7, w8, w9] (.ref x :: st) t I L R Q := wp_go rfl
theorem i164_384 {k : Nat} (h1 : k < t) (h2 : m_ob k 8 = true) : WP V 164 384 ls (.ref k :: st) t I L R Q = WP V 164 385 ls (m_rv (R k 0) :: st) t I L R Q := wp_getR rfl (by decide) h1 h2
theorem i164_385 {w0 w1 w2 w3 w4 w5 w6 w7 w9 : Value} {x : Int32} : WP V 164 385 [w0, w1, w2, w3, w4, w5, w6, w7, .int x, w9] st t I L R Q = WP V 164 386 [w0, w1, w2, w3, w4, w5, w6, w7, .int x, w9] (.int x :: st) t I L R Q := wp_go rfl
theorem i164_386 {w0 w1 w2 w3 w4 w5 w7 w8 w9 : Value} {x : Int32} : WP V 164 386 [w0, w1, w2, w3, w4, w5, .int x, w7, w8, w9] st t I L R Q = WP V 164 387 [w0, w1, w2, w3, w4, w5, .int x, w7, w8, w9] (.int x :: st) t I L R Q := wp_go rfl
theorem i164_387 {x y : Int32} : WP V 164 387 ls (.int y :: .int x :: st) t I L R Q = WP V 164 388 ls (.int (x + y) :: st) t I L R Q := wp_go rfl
theorem i164_388 {w1 w2 w3 w4 w5 w6 w7 w8 w9 : Value} {x : Nat} : WP V 164 388 [.ref x, w1, w2, w3, w4, w5, w6, w7, w8, w9] st t I L R Q = WP V 164 389 [.ref x, w1, w2, w3, w4, w5, w6, w7, w8, w9] (.ref x :: st) t I L R Q := wp_go rfl
theorem i164_389 {k : Nat} (h1 : k < t) (h2 : m_ob k 8 = true) : WP V 164 389 ls (.ref k :: st) t I L R Q = WP V 164 390 ls (m_rv (R k 0) :: st) t I L R Q := wp_getR rfl (by decide) h1 h2
theorem i164_390 {w0 w1 w2 w3 w4 w5 w6 w7 w9 : Value} {x : Int32} : WP V 164 390 [w0, w1, w2, w3, w4, w5, w6, w7, .int x, w9] st t I L R Q = WP V 164 391 [w0, w1, w2, w3, w4, w5, w6, w7, .int x, w9] (.int x :: st) t I L R Q := wp_go rfl
theorem i164_391 {w0 w1 w2 w3 w4 w5 w7 w8 w9 : Value} {x : Int32} : WP V 164 391 [w0, w1, w2, w3, w4, w5, .int x, w7, w8, w9] st t I L R Q = WP V 164 392 [w0, w1, w2, w3, w4, w5, .int x, w7, w8, w9] (.int x :: st) t I L R Q := wp_go rfl
theorem i164_392 {x y : Int32} : WP V 164 392 ls (.int y :: .int x :: st) t I L R Q = WP V 164 393 ls (.int (x + y) :: st) t I L R Q := wp_go rfl
theorem i164_393 {k j : Nat} (h2 : m_ar k 2 612 = true) (h1 : k < t) (h3 : j < 612) : WP V 164 393 ls (.int (nI j) :: .ref k :: st) t I L R Q = WP V 164 394 ls (.int (I k j) :: st) t I L R Q := wp_iaload rfl (by decide) h1 h2 h3
theorem i164_394 {w1 w2 w3 w4 w5 w6 w7 w8 w9 : Value} {x : Nat} : WP V 164 394 [.ref x, w1, w2, w3, w4, w5, w6, w7, w8, w9] st t I L R Q = WP V 164 395 [.ref x, w1, w2, w3, w4, w5, w6, w7, w8, w9] (.ref x :: st) t I L R Q := wp_go rfl
theorem i164_395 {k : Nat} (h1 : k < t) (h2 : m_ob k 8 = true) : WP V 164 395 ls (.ref k :: st) t I L R Q = WP V 164 396 ls (m_rv (R k 0) :: st) t I L R Q := wp_getR rfl (by decide) h1 h2
theorem i164_396 {w0 w1 w2 w3 w4 w5 w6 w7 w9 : Value} {x : Int32} : WP V 164 396 [w0, w1, w2, w3, w4, w5, w6, w7, .int x, w9] st t I L R Q = WP V 164 397 [w0, w1, w2, w3, w4, w5, w6, w7, .int x, w9] (.int x :: st) t I L R Q := wp_go rfl
theorem i164_397 {w0 w1 w2 w3 w4 w5 w6 w8 w9 : Value} {x : Int32} : WP V 164 397 [w0, w1, w2, w3, w4, w5, w6, .int x, w8, w9] st t I L R Q = WP V 164 398 [w0, w1, w2, w3, w4, w5, w6, .int x, w8, w9] (.int x :: st) t I L R Q := wp_go rfl
theorem i164_398 {x y : Int32} : WP V 164 398 ls (.int y :: .int x :: st) t I L R Q = WP V 164 399 ls (.int (x + y) :: st) t I L R Q := wp_go rfl
theorem i164_399 {k j : Nat} (h2 : m_ar k 2 612 = true) (h1 : k < t) (h3 : j < 612) : WP V 164 399 ls (.int (nI j) :: .ref k :: st) t I L R Q = WP V 164 400 ls (.int (I k j) :: st) t I L R Q := wp_iaload rfl (by decide) h1 h2 h3
theorem i164_400 {x y : Int32} : WP V 164 400 ls (.int y :: .int x :: st) t I L R Q = if y ≤ x then WP V 164 403 ls st t I L R Q else WP V 164 401 ls st t I L R Q := wp_br (c := m_cc .ge x y) rfl rfl
theorem i164_401  : WP V 164 401 ls st t I L R Q = WP V 164 402 ls (.int (nI 1) :: st) t I L R Q := wp_go rfl
theorem i164_402  : WP V 164 402 ls st t I L R Q = WP V 164 404 ls st t I L R Q := wp_go rfl
theorem i164_403  : WP V 164 403 ls st t I L R Q = WP V 164 404 ls (.int (nI 0) :: st) t I L R Q := wp_go rfl
theorem i164_404 {k j : Nat} {x : Int32} (h2 : m_ar k 2 612 = true) (h1 : k < t) (h3 : j < 612) : WP V 164 404 ls (.int x :: .int (nI j) :: .ref k :: st) t I L R Q = WP V 164 405 ls st t (m_sc I k (m_sc (I k) j x)) L R Q := wp_iastore rfl (by decide) h1 h2 h3
theorem i164_405 {w1 w2 w3 w4 w5 w6 w7 w8 w9 : Value} {x : Nat} : WP V 164 405 [.ref x, w1, w2, w3, w4, w5, w6, w7, w8, w9] st t I L R Q = WP V 164 406 [.ref x, w1, w2, w3, w4, w5, w6, w7, w8, w9] (.ref x :: st) t I L R Q := wp_go rfl
theorem i164_406 {w0 w2 w3 w4 w5 w6 w7 w8 w9 : Value} {x : Int32} : WP V 164 406 [w0, .int x, w2, w3, w4, w5, w6, w7, w8, w9] st t I L R Q = WP V 164 407 [w0, .int x, w2, w3, w4, w5, w6, w7, w8, w9] (.int x :: st) t I L R Q := wp_go rfl
theorem i164_407 {x0 : Int32} {x1 : Nat}  (h1 : x1 < t) (h2 : m_ob x1 8 = true) : WP V 164 407 ls [.int x0, .ref x1] t I L R Q = WPC V 162 [.ref x1, .int x0] 164 408 ls [] t I L R Q := wp_cls (wp_icv rfl rfl h1 h2) (by decide) (Nat.le_of_ble_eq_true rfl) rfl rfl (Nat.le_of_ble_eq_true rfl) (Nat.le_of_ble_eq_true rfl)
theorem i164_408 {x : Int32} : WP V 164 408 ls [.int x] t I L R Q = Q (some (.int x)) t I L R := wp_rti rfl rfl
-- TransactionCellsModel.readAct(III)I
theorem i165_0 {w1 w2 w3 w4 : Value} {x : Nat} : WP V 165 0 [.ref x, w1, w2, w3, w4] st t I L R Q = WP V 165 1 [.ref x, w1, w2, w3, w4] (.ref x :: st) t I L R Q := wp_go rfl
theorem i165_1 {w0 w2 w3 w4 : Value} {x : Int32} : WP V 165 1 [w0, .int x, w2, w3, w4] st t I L R Q = WP V 165 2 [w0, .int x, w2, w3, w4] (.int x :: st) t I L R Q := wp_go rfl
theorem i165_2 {w0 w1 w2 w4 : Value} {x : Int32} : WP V 165 2 [w0, w1, w2, .int x, w4] st t I L R Q = WP V 165 3 [w0, w1, w2, .int x, w4] (.int x :: st) t I L R Q := wp_go rfl
theorem i165_3 {x0 : Int32} {x1 : Int32} {x2 : Nat}  (h1 : x2 < t) (h2 : m_ob x2 8 = true) : WP V 165 3 ls [.int x0, .int x1, .ref x2] t I L R Q = WPC V 149 [.ref x2, .int x1, .int x0] 165 4 ls [] t I L R Q := wp_cls (wp_icv rfl rfl h1 h2) (by decide) (Nat.le_of_ble_eq_true rfl) rfl rfl (Nat.le_of_ble_eq_true rfl) (Nat.le_of_ble_eq_true rfl)
theorem i165_4 {p : Int32} {w0 w1 w2 w4 : Value} {x : Int32} : WP V 165 4 [w0, w1, w2, .int p, w4] (.int x :: st) t I L R Q = WP V 165 5 [w0, w1, w2, .int p, .int x] st t I L R Q := wp_go rfl
theorem i165_5 {w0 w1 w2 w3 : Value} {x : Int32} : WP V 165 5 [w0, w1, w2, w3, .int x] st t I L R Q = WP V 165 6 [w0, w1, w2, w3, .int x] (.int x :: st) t I L R Q := wp_go rfl
theorem i165_6 {x : Int32} : WP V 165 6 ls (.int x :: st) t I L R Q = if x = nI 0 then WP V 165 14 ls st t I L R Q else WP V 165 7 ls st t I L R Q := wp_br (c := m_cc .eq x 0) rfl rfl
theorem i165_7 {w0 w1 w2 w3 : Value} {x : Int32} : WP V 165 7 [w0, w1, w2, w3, .int x] st t I L R Q = WP V 165 8 [w0, w1, w2, w3, .int x] (.int x :: st) t I L R Q := wp_go rfl
theorem i165_8  : WP V 165 8 ls st t I L R Q = WP V 165 9 ls (.int (nI 1) :: st) t I L R Q := wp_go rfl
theorem i165_9 {x y : Int32} : WP V 165 9 ls (.int y :: .int x :: st) t I L R Q = if x = y then WP V 165 10 ls st t I L R Q else WP V 165 12 ls st t I L R Q := wp_brn (c := m_cc .ne x y) rfl rfl
theorem i165_10  : WP V 165 10 ls st t I L R Q = WP V 165 11 ls (.int (nI 0) :: st) t I L R Q := wp_go rfl
theorem i165_11  : WP V 165 11 ls st t I L R Q = WP V 165 13 ls st t I L R Q := wp_go rfl
theorem i165_12  : WP V 165 12 ls st t I L R Q = WP V 165 13 ls (.int (nI 2) :: st) t I L R Q := wp_go rfl
theorem i165_13 {x : Int32} : WP V 165 13 ls [.int x] t I L R Q = Q (some (.int x)) t I L R := wp_rti rfl rfl
theorem i165_14 {w1 w2 w3 w4 : Value} {x : Nat} : WP V 165 14 [.ref x, w1, w2, w3, w4] st t I L R Q = WP V 165 15 [.ref x, w1, w2, w3, w4] (.ref x :: st) t I L R Q := wp_go rfl
theorem i165_15 {k : Nat} (h1 : k < t) (h2 : m_ob k 8 = true) : WP V 165 15 ls (.ref k :: st) t I L R Q = WP V 165 16 ls (.int (I k 22) :: st) t I L R Q := wp_getI rfl (by decide) h1 h2
theorem i165_16  : WP V 165 16 ls st t I L R Q = WP V 165 17 ls (.int (nI 1) :: st) t I L R Q := wp_go rfl
theorem i165_17 {x y : Int32} : WP V 165 17 ls (.int y :: .int x :: st) t I L R Q = if x = y then WP V 165 28 ls st t I L R Q else WP V 165 18 ls st t I L R Q := wp_br (c := m_cc .eq x y) rfl rfl
theorem i165_18 {w1 w2 w3 w4 : Value} {x : Nat} : WP V 165 18 [.ref x, w1, w2, w3, w4] st t I L R Q = WP V 165 19 [.ref x, w1, w2, w3, w4] (.ref x :: st) t I L R Q := wp_go rfl
theorem i165_19 {w0 w2 w3 w4 : Value} {x : Int32} : WP V 165 19 [w0, .int x, w2, w3, w4] st t I L R Q = WP V 165 20 [w0, .int x, w2, w3, w4] (.int x :: st) t I L R Q := wp_go rfl
theorem i165_20 {w1 w2 w3 w4 : Value} {x : Nat} : WP V 165 20 [.ref x, w1, w2, w3, w4] st t I L R Q = WP V 165 21 [.ref x, w1, w2, w3, w4] (.ref x :: st) t I L R Q := wp_go rfl
theorem i165_21 {k : Nat} (h1 : k < t) (h2 : m_ob k 8 = true) : WP V 165 21 ls (.ref k :: st) t I L R Q = WP V 165 22 ls (.int (I k 22) :: st) t I L R Q := wp_getI rfl (by decide) h1 h2
theorem i165_22 {x : Int32} : WP V 165 22 ls (.int x :: st) t I L R Q = if x = nI 0 then WP V 165 23 ls st t I L R Q else WP V 165 25 ls st t I L R Q := wp_brn (c := m_cc .ne x 0) rfl rfl
theorem i165_23  : WP V 165 23 ls st t I L R Q = WP V 165 24 ls (.int (nI 1) :: st) t I L R Q := wp_go rfl
theorem i165_24  : WP V 165 24 ls st t I L R Q = WP V 165 26 ls st t I L R Q := wp_go rfl
theorem i165_25  : WP V 165 25 ls st t I L R Q = WP V 165 26 ls (.int (nI 3) :: st) t I L R Q := wp_go rfl
theorem i165_26 {x0 : Int32} {x1 : Int32} {x2 : Nat}  (h1 : x2 < t) (h2 : m_ob x2 8 = true) : WP V 165 26 ls [.int x0, .int x1, .ref x2] t I L R Q = WPC V 155 [.ref x2, .int x1, .int x0] 165 27 ls [] t I L R Q := wp_cls (wp_icv rfl rfl h1 h2) (by decide) (Nat.le_of_ble_eq_true rfl) rfl rfl (Nat.le_of_ble_eq_true rfl) (Nat.le_of_ble_eq_true rfl)
theorem i165_27 {x : Int32} : WP V 165 27 ls [.int x] t I L R Q = Q (some (.int x)) t I L R := wp_rti rfl rfl
theorem i165_28 {w1 w2 w3 w4 : Value} {x : Nat} : WP V 165 28 [.ref x, w1, w2, w3, w4] st t I L R Q = WP V 165 29 [.ref x, w1, w2, w3, w4] (.ref x :: st) t I L R Q := wp_go rfl
theorem i165_29 {k : Nat} (h1 : k < t) (h2 : m_ob k 8 = true) : WP V 165 29 ls (.ref k :: st) t I L R Q = WP V 165 30 ls (m_rv (R k 0) :: st) t I L R Q := wp_getR rfl (by decide) h1 h2
theorem i165_30 {w0 w2 w3 w4 : Value} {x : Int32} : WP V 165 30 [w0, .int x, w2, w3, w4] st t I L R Q = WP V 165 31 [w0, .int x, w2, w3, w4] (.int x :: st) t I L R Q := wp_go rfl
theorem i165_31 {x0 : Int32} {r0 : Nat} : WP V 165 31 ls [.int x0, .ref r0] t I L R Q = WPC V 113 [.int x0] 165 32 ls [.ref r0] t I L R Q := wp_cls (wp_ics rfl (by decide)) (by decide) (Nat.le_of_ble_eq_true rfl) rfl rfl (Nat.le_of_ble_eq_true rfl) (Nat.le_of_ble_eq_true rfl)
theorem i165_32  : WP V 165 32 ls st t I L R Q = WP V 165 33 ls (.int (nI 3) :: st) t I L R Q := wp_go rfl
theorem i165_33 {x y : Int32} : WP V 165 33 ls (.int y :: .int x :: st) t I L R Q = WP V 165 34 ls (.int (x + y) :: st) t I L R Q := wp_go rfl
theorem i165_34 {w0 w1 w3 w4 : Value} {x : Int32} : WP V 165 34 [w0, w1, .int x, w3, w4] st t I L R Q = WP V 165 35 [w0, w1, .int x, w3, w4] (.int x :: st) t I L R Q := wp_go rfl
theorem i165_35 {x y : Int32} : WP V 165 35 ls (.int y :: .int x :: st) t I L R Q = WP V 165 36 ls (.int (x + y) :: st) t I L R Q := wp_go rfl
theorem i165_36 {w1 w2 w3 w4 : Value} {x : Nat} : WP V 165 36 [.ref x, w1, w2, w3, w4] st t I L R Q = WP V 165 37 [.ref x, w1, w2, w3, w4] (.ref x :: st) t I L R Q := wp_go rfl
theorem i165_37 {k : Nat} (h1 : k < t) (h2 : m_ob k 8 = true) : WP V 165 37 ls (.ref k :: st) t I L R Q = WP V 165 38 ls (.int (I k 23) :: st) t I L R Q := wp_getI rfl (by decide) h1 h2
theorem i165_38 {k j : Nat} {x : Int32} (h2 : m_ar k 2 612 = true) (h1 : k < t) (h3 : j < 612) : WP V 165 38 ls (.int x :: .int (nI j) :: .ref k :: st) t I L R Q = WP V 165 39 ls st t (m_sc I k (m_sc (I k) j x)) L R Q := wp_iastore rfl (by decide) h1 h2 h3
theorem i165_39 {w1 w2 w3 w4 : Value} {x : Nat} : WP V 165 39 [.ref x, w1, w2, w3, w4] st t I L R Q = WP V 165 40 [.ref x, w1, w2, w3, w4] (.ref x :: st) t I L R Q := wp_go rfl
theorem i165_40 {w0 w2 w3 w4 : Value} {x : Int32} : WP V 165 40 [w0, .int x, w2, w3, w4] st t I L R Q = WP V 165 41 [w0, .int x, w2, w3, w4] (.int x :: st) t I L R Q := wp_go rfl
theorem i165_41 {x0 : Int32} {x1 : Nat}  (h1 : x1 < t) (h2 : m_ob x1 8 = true) : WP V 165 41 ls [.int x0, .ref x1] t I L R Q = WPC V 162 [.ref x1, .int x0] 165 42 ls [] t I L R Q := wp_cls (wp_icv rfl rfl h1 h2) (by decide) (Nat.le_of_ble_eq_true rfl) rfl rfl (Nat.le_of_ble_eq_true rfl) (Nat.le_of_ble_eq_true rfl)
theorem i165_42 {x : Int32} : WP V 165 42 ls [.int x] t I L R Q = Q (some (.int x)) t I L R := wp_rti rfl rfl
-- TransactionCellsModel.writeAct(IIII)I
theorem i166_0 {w0 w2 w3 w4 w5 : Value} {x : Int32} : WP V 166 0 [w0, .int x, w2, w3, w4, w5] st t I L R Q = WP V 166 1 [w0, .int x, w2, w3, w4, w5] (.int x :: st) t I L R Q := wp_go rfl
theorem i166_1 {x0 : Int32}  : WP V 166 1 ls [.int x0] t I L R Q = WPC V 113 [.int x0] 166 2 ls [] t I L R Q := wp_cls (wp_ics rfl (by decide)) (by decide) (Nat.le_of_ble_eq_true rfl) rfl rfl (Nat.le_of_ble_eq_true rfl) (Nat.le_of_ble_eq_true rfl)
theorem i166_2 {p : Int32} {w0 w1 w2 w3 w5 : Value} {x : Int32} : WP V 166 2 [w0, w1, w2, w3, .int p, w5] (.int x :: st) t I L R Q = WP V 166 3 [w0, w1, w2, w3, .int p, .int x] st t I L R Q := wp_go rfl
theorem i166_3 {w1 w2 w3 w4 w5 : Value} {x : Nat} : WP V 166 3 [.ref x, w1, w2, w3, w4, w5] st t I L R Q = WP V 166 4 [.ref x, w1, w2, w3, w4, w5] (.ref x :: st) t I L R Q := wp_go rfl
theorem i166_4 {k : Nat} (h1 : k < t) (h2 : m_ob k 8 = true) : WP V 166 4 ls (.ref k :: st) t I L R Q = WP V 166 5 ls (m_rv (R k 0) :: st) t I L R Q := wp_getR rfl (by decide) h1 h2
theorem i166_5 {w0 w1 w2 w3 w4 : Value} {x : Int32} : WP V 166 5 [w0, w1, w2, w3, w4, .int x] st t I L R Q = WP V 166 6 [w0, w1, w2, w3, w4, .int x] (.int x :: st) t I L R Q := wp_go rfl
theorem i166_6  : WP V 166 6 ls st t I L R Q = WP V 166 7 ls (.int (nI 101) :: st) t I L R Q := wp_go rfl
theorem i166_7 {x y : Int32} : WP V 166 7 ls (.int y :: .int x :: st) t I L R Q = WP V 166 8 ls (.int (x + y) :: st) t I L R Q := wp_go rfl
theorem i166_8 {k j : Nat} (h2 : m_ar k 2 612 = true) (h1 : k < t) (h3 : j < 612) : WP V 166 8 ls (.int (nI j) :: .ref k :: st) t I L R Q = WP V 166 9 ls (.int (I k j) :: st) t I L R Q := wp_iaload rfl (by decide) h1 h2 h3
theorem i166_9  : WP V 166 9 ls st t I L R Q = WP V 166 10 ls (.int (nI 1) :: st) t I L R Q := wp_go rfl
theorem i166_10 {x y : Int32} : WP V 166 10 ls (.int y :: .int x :: st) t I L R Q = if x = y then WP V 166 11 ls st t I L R Q else WP V 166 24 ls st t I L R Q := wp_brn (c := m_cc .ne x y) rfl rfl
theorem i166_11 {w1 w2 w3 w4 w5 : Value} {x : Nat} : WP V 166 11 [.ref x, w1, w2, w3, w4, w5] st t I L R Q = WP V 166 12 [.ref x, w1, w2, w3, w4, w5] (.ref x :: st) t I L R Q := wp_go rfl
theorem i166_12 {k : Nat} (h1 : k < t) (h2 : m_ob k 8 = true) : WP V 166 12 ls (.ref k :: st) t I L R Q = WP V 166 13 ls (m_rv (R k 0) :: st) t I L R Q := wp_getR rfl (by decide) h1 h2
theorem i166_13 {w0 w1 w2 w3 w4 : Value} {x : Int32} : WP V 166 13 [w0, w1, w2, w3, w4, .int x] st t I L R Q = WP V 166 14 [w0, w1, w2, w3, w4, .int x] (.int x :: st) t I L R Q := wp_go rfl
theorem i166_14  : WP V 166 14 ls st t I L R Q = WP V 166 15 ls (.int (nI 102) :: st) t I L R Q := wp_go rfl
theorem i166_15 {x y : Int32} : WP V 166 15 ls (.int y :: .int x :: st) t I L R Q = WP V 166 16 ls (.int (x + y) :: st) t I L R Q := wp_go rfl
theorem i166_16 {k j : Nat} (h2 : m_ar k 2 612 = true) (h1 : k < t) (h3 : j < 612) : WP V 166 16 ls (.int (nI j) :: .ref k :: st) t I L R Q = WP V 166 17 ls (.int (I k j) :: st) t I L R Q := wp_iaload rfl (by decide) h1 h2 h3
theorem i166_17  : WP V 166 17 ls st t I L R Q = WP V 166 18 ls (.int (nI 1) :: st) t I L R Q := wp_go rfl
theorem i166_18 {x y : Int32} : WP V 166 18 ls (.int y :: .int x :: st) t I L R Q = if x = y then WP V 166 19 ls st t I L R Q else WP V 166 24 ls st t I L R Q := wp_brn (c := m_cc .ne x y) rfl rfl
theorem i166_19 {w1 w2 w3 w4 w5 : Value} {x : Nat} : WP V 166 19 [.ref x, w1, w2, w3, w4, w5] st t I L R Q = WP V 166 20 [.ref x, w1, w2, w3, w4, w5] (.ref x :: st) t I L R Q := wp_go rfl
theorem i166_20 {w0 w2 w3 w4 w5 : Value} {x : Int32} : WP V 166 20 [w0, .int x, w2, w3, w4, w5] st t I L R Q = WP V 166 21 [w0, .int x, w2, w3, w4, w5] (.int x :: st) t I L R Q := wp_go rfl
theorem i166_21  : WP V 166 21 ls st t I L R Q = WP V 166 22 ls (.int (nI 5) :: st) t I L R Q := wp_go rfl
theorem i166_22 {x0 : Int32} {x1 : Int32} {x2 : Nat}  (h1 : x2 < t) (h2 : m_ob x2 8 = true) : WP V 166 22 ls [.int x0, .int x1, .ref x2] t I L R Q = WPC V 155 [.ref x2, .int x1, .int x0] 166 23 ls [] t I L R Q := wp_cls (wp_icv rfl rfl h1 h2) (by decide) (Nat.le_of_ble_eq_true rfl) rfl rfl (Nat.le_of_ble_eq_true rfl) (Nat.le_of_ble_eq_true rfl)
theorem i166_23 {x : Int32} : WP V 166 23 ls [.int x] t I L R Q = Q (some (.int x)) t I L R := wp_rti rfl rfl
theorem i166_24 {w1 w2 w3 w4 w5 : Value} {x : Nat} : WP V 166 24 [.ref x, w1, w2, w3, w4, w5] st t I L R Q = WP V 166 25 [.ref x, w1, w2, w3, w4, w5] (.ref x :: st) t I L R Q := wp_go rfl
theorem i166_25 {w0 w2 w3 w4 w5 : Value} {x : Int32} : WP V 166 25 [w0, .int x, w2, w3, w4, w5] st t I L R Q = WP V 166 26 [w0, .int x, w2, w3, w4, w5] (.int x :: st) t I L R Q := wp_go rfl
theorem i166_26 {w0 w1 w3 w4 w5 : Value} {x : Int32} : WP V 166 26 [w0, w1, .int x, w3, w4, w5] st t I L R Q = WP V 166 27 [w0, w1, .int x, w3, w4, w5] (.int x :: st) t I L R Q := wp_go rfl
theorem i166_27 {w0 w1 w2 w4 w5 : Value} {x : Int32} : WP V 166 27 [w0, w1, w2, .int x, w4, w5] st t I L R Q = WP V 166 28 [w0, w1, w2, .int x, w4, w5] (.int x :: st) t I L R Q := wp_go rfl
theorem i166_28 {w0 w1 w2 w3 w5 : Value} {x : Int32} : WP V 166 28 [w0, w1, w2, w3, .int x, w5] st t I L R Q = WP V 166 29 [w0, w1, w2, w3, .int x, w5] (.int x :: st) t I L R Q := wp_go rfl
theorem i166_29 {x0 : Int32} {x1 : Int32} {x2 : Int32} {x3 : Int32} {x4 : Nat}  (h1 : x4 < t) (h2 : m_ob x4 8 = true) : WP V 166 29 ls [.int x0, .int x1, .int x2, .int x3, .ref x4] t I L R Q = WPC V 152 [.ref x4, .int x3, .int x2, .int x1, .int x0] 166 30 ls [] t I L R Q := wp_cls (wp_icv rfl rfl h1 h2) (by decide) (Nat.le_of_ble_eq_true rfl) rfl rfl (Nat.le_of_ble_eq_true rfl) (Nat.le_of_ble_eq_true rfl)
theorem i166_30  : WP V 166 30 ls st t I L R Q = WP V 166 31 ls (.int (nI 1) :: st) t I L R Q := wp_go rfl
theorem i166_31 {x y : Int32} : WP V 166 31 ls (.int y :: .int x :: st) t I L R Q = if x = y then WP V 166 32 ls st t I L R Q else WP V 166 34 ls st t I L R Q := wp_brn (c := m_cc .ne x y) rfl rfl
theorem i166_32  : WP V 166 32 ls st t I L R Q = WP V 166 33 ls (.int (nI 0) :: st) t I L R Q := wp_go rfl
theorem i166_33  : WP V 166 33 ls st t I L R Q = WP V 166 37 ls st t I L R Q := wp_go rfl
theorem i166_34 {w1 w2 w3 w4 w5 : Value} {x : Nat} : WP V 166 34 [.ref x, w1, w2, w3, w4, w5] st t I L R Q = WP V 166 35 [.ref x, w1, w2, w3, w4, w5] (.ref x :: st) t I L R Q := wp_go rfl
theorem i166_35 {w0 w2 w3 w4 w5 : Value} {x : Int32} : WP V 166 35 [w0, .int x, w2, w3, w4, w5] st t I L R Q = WP V 166 36 [w0, .int x, w2, w3, w4, w5] (.int x :: st) t I L R Q := wp_go rfl
theorem i166_36 {x0 : Int32} {x1 : Nat}  (h1 : x1 < t) (h2 : m_ob x1 8 = true) : WP V 166 36 ls [.int x0, .ref x1] t I L R Q = WPC V 162 [.ref x1, .int x0] 166 37 ls [] t I L R Q := wp_cls (wp_icv rfl rfl h1 h2) (by decide) (Nat.le_of_ble_eq_true rfl) rfl rfl (Nat.le_of_ble_eq_true rfl) (Nat.le_of_ble_eq_true rfl)
theorem i166_37 {x : Int32} : WP V 166 37 ls [.int x] t I L R Q = Q (some (.int x)) t I L R := wp_rti rfl rfl
-- TransactionCellsModel.itemAct(IIII)I
theorem i167_0 {w1 w2 w3 w4 w5 w6 w7 : Value} {x : Nat} : WP V 167 0 [.ref x, w1, w2, w3, w4, w5, w6, w7] st t I L R Q = WP V 167 1 [.ref x, w1, w2, w3, w4, w5, w6, w7] (.ref x :: st) t I L R Q := wp_go rfl
theorem i167_1 {w0 w2 w3 w4 w5 w6 w7 : Value} {x : Int32} : WP V 167 1 [w0, .int x, w2, w3, w4, w5, w6, w7] st t I L R Q = WP V 167 2 [w0, .int x, w2, w3, w4, w5, w6, w7] (.int x :: st) t I L R Q := wp_go rfl
theorem i167_2 {w0 w1 w2 w4 w5 w6 w7 : Value} {x : Int32} : WP V 167 2 [w0, w1, w2, .int x, w4, w5, w6, w7] st t I L R Q = WP V 167 3 [w0, w1, w2, .int x, w4, w5, w6, w7] (.int x :: st) t I L R Q := wp_go rfl
theorem i167_3 {x0 : Int32} {x1 : Int32} {x2 : Nat}  (h1 : x2 < t) (h2 : m_ob x2 8 = true) : WP V 167 3 ls [.int x0, .int x1, .ref x2] t I L R Q = WPC V 149 [.ref x2, .int x1, .int x0] 167 4 ls [] t I L R Q := wp_cls (wp_icv rfl rfl h1 h2) (by decide) (Nat.le_of_ble_eq_true rfl) rfl rfl (Nat.le_of_ble_eq_true rfl) (Nat.le_of_ble_eq_true rfl)
theorem i167_4 {p : Int32} {w0 w1 w2 w3 w5 w6 w7 : Value} {x : Int32} : WP V 167 4 [w0, w1, w2, w3, .int p, w5, w6, w7] (.int x :: st) t I L R Q = WP V 167 5 [w0, w1, w2, w3, .int p, .int x, w6, w7] st t I L R Q := wp_go rfl
theorem i167_5 {w0 w1 w2 w3 w4 w6 w7 : Value} {x : Int32} : WP V 167 5 [w0, w1, w2, w3, w4, .int x, w6, w7] st t I L R Q = WP V 167 6 [w0, w1, w2, w3, w4, .int x, w6, w7] (.int x :: st) t I L R Q := wp_go rfl
theorem i167_6 {x : Int32} : WP V 167 6 ls (.int x :: st) t I L R Q = if x = nI 0 then WP V 167 14 ls st t I L R Q else WP V 167 7 ls st t I L R Q := wp_br (c := m_cc .eq x 0) rfl rfl
theorem i167_7 {w0 w1 w2 w3 w4 w6 w7 : Value} {x : Int32} : WP V 167 7 [w0, w1, w2, w3, w4, .int x, w6, w7] st t I L R Q = WP V 167 8 [w0, w1, w2, w3, w4, .int x, w6, w7] (.int x :: st) t I L R Q := wp_go rfl
theorem i167_8  : WP V 167 8 ls st t I L R Q = WP V 167 9 ls (.int (nI 1) :: st) t I L R Q := wp_go rfl
theorem i167_9 {x y : Int32} : WP V 167 9 ls (.int y :: .int x :: st) t I L R Q = if x = y then WP V 167 10 ls st t I L R Q else WP V 167 12 ls st t I L R Q := wp_brn (c := m_cc .ne x y) rfl rfl
theorem i167_10  : WP V 167 10 ls st t I L R Q = WP V 167 11 ls (.int (nI 0) :: st) t I L R Q := wp_go rfl
theorem i167_11  : WP V 167 11 ls st t I L R Q = WP V 167 13 ls st t I L R Q := wp_go rfl
theorem i167_12  : WP V 167 12 ls st t I L R Q = WP V 167 13 ls (.int (nI 2) :: st) t I L R Q := wp_go rfl
theorem i167_13 {x : Int32} : WP V 167 13 ls [.int x] t I L R Q = Q (some (.int x)) t I L R := wp_rti rfl rfl
theorem i167_14 {w1 w2 w3 w4 w5 w6 w7 : Value} {x : Nat} : WP V 167 14 [.ref x, w1, w2, w3, w4, w5, w6, w7] st t I L R Q = WP V 167 15 [.ref x, w1, w2, w3, w4, w5, w6, w7] (.ref x :: st) t I L R Q := wp_go rfl
theorem i167_15 {k : Nat} (h1 : k < t) (h2 : m_ob k 8 = true) : WP V 167 15 ls (.ref k :: st) t I L R Q = WP V 167 16 ls (.int (I k 22) :: st) t I L R Q := wp_getI rfl (by decide) h1 h2
theorem i167_16  : WP V 167 16 ls st t I L R Q = WP V 167 17 ls (.int (nI 2) :: st) t I L R Q := wp_go rfl
theorem i167_17 {x y : Int32} : WP V 167 17 ls (.int y :: .int x :: st) t I L R Q = if x = y then WP V 167 28 ls st t I L R Q else WP V 167 18 ls st t I L R Q := wp_br (c := m_cc .eq x y) rfl rfl
theorem i167_18 {w1 w2 w3 w4 w5 w6 w7 : Value} {x : Nat} : WP V 167 18 [.ref x, w1, w2, w3, w4, w5, w6, w7] st t I L R Q = WP V 167 19 [.ref x, w1, w2, w3, w4, w5, w6, w7] (.ref x :: st) t I L R Q := wp_go rfl
theorem i167_19 {w0 w2 w3 w4 w5 w6 w7 : Value} {x : Int32} : WP V 167 19 [w0, .int x, w2, w3, w4, w5, w6, w7] st t I L R Q = WP V 167 20 [w0, .int x, w2, w3, w4, w5, w6, w7] (.int x :: st) t I L R Q := wp_go rfl
theorem i167_20 {w1 w2 w3 w4 w5 w6 w7 : Value} {x : Nat} : WP V 167 20 [.ref x, w1, w2, w3, w4, w5, w6, w7] st t I L R Q = WP V 167 21 [.ref x, w1, w2, w3, w4, w5, w6, w7] (.ref x :: st) t I L R Q := wp_go rfl
theorem i167_21 {k : Nat} (h1 : k < t) (h2 : m_ob k 8 = true) : WP V 167 21 ls (.ref k :: st) t I L R Q = WP V 167 22 ls (.int (I k 22) :: st) t I L R Q := wp_getI rfl (by decide) h1 h2
theorem i167_22 {x : Int32} : WP V 167 22 ls (.int x :: st) t I L R Q = if x = nI 0 then WP V 167 23 ls st t I L R Q else WP V 167 25 ls st t I L R Q := wp_brn (c := m_cc .ne x 0) rfl rfl
theorem i167_23  : WP V 167 23 ls st t I L R Q = WP V 167 24 ls (.int (nI 1) :: st) t I L R Q := wp_go rfl
theorem i167_24  : WP V 167 24 ls st t I L R Q = WP V 167 26 ls st t I L R Q := wp_go rfl
theorem i167_25  : WP V 167 25 ls st t I L R Q = WP V 167 26 ls (.int (nI 3) :: st) t I L R Q := wp_go rfl
theorem i167_26 {x0 : Int32} {x1 : Int32} {x2 : Nat}  (h1 : x2 < t) (h2 : m_ob x2 8 = true) : WP V 167 26 ls [.int x0, .int x1, .ref x2] t I L R Q = WPC V 155 [.ref x2, .int x1, .int x0] 167 27 ls [] t I L R Q := wp_cls (wp_icv rfl rfl h1 h2) (by decide) (Nat.le_of_ble_eq_true rfl) rfl rfl (Nat.le_of_ble_eq_true rfl) (Nat.le_of_ble_eq_true rfl)
theorem i167_27 {x : Int32} : WP V 167 27 ls [.int x] t I L R Q = Q (some (.int x)) t I L R := wp_rti rfl rfl
theorem i167_28 {w1 w2 w3 w4 w5 w6 w7 : Value} {x : Nat} : WP V 167 28 [.ref x, w1, w2, w3, w4, w5, w6, w7] st t I L R Q = WP V 167 29 [.ref x, w1, w2, w3, w4, w5, w6, w7] (.ref x :: st) t I L R Q := wp_go rfl
theorem i167_29 {k : Nat} (h1 : k < t) (h2 : m_ob k 8 = true) : WP V 167 29 ls (.ref k :: st) t I L R Q = WP V 167 30 ls (m_rv (R k 11) :: st) t I L R Q := wp_getR rfl (by decide) h1 h2
theorem i167_30 {w1 w2 w3 w4 w5 w6 w7 : Value} {x : Nat} : WP V 167 30 [.ref x, w1, w2, w3, w4, w5, w6, w7] st t I L R Q = WP V 167 31 [.ref x, w1, w2, w3, w4, w5, w6, w7] (.ref x :: st) t I L R Q := wp_go rfl
theorem i167_31 {k : Nat} (h1 : k < t) (h2 : m_ob k 8 = true) : WP V 167 31 ls (.ref k :: st) t I L R Q = WP V 167 32 ls (.int (I k 23) :: st) t I L R Q := wp_getI rfl (by decide) h1 h2
theorem i167_32 {k j : Nat} (h2 : m_ar k 3 6 = true) (h1 : k < t) (h3 : j < 6) : WP V 167 32 ls (.int (nI j) :: .ref k :: st) t I L R Q = WP V 167 33 ls (.int (I k j) :: st) t I L R Q := wp_baload rfl (by decide) h1 h2 h3
theorem i167_33 {x : Int32} : WP V 167 33 ls (.int x :: st) t I L R Q = if x = nI 0 then WP V 167 34 ls st t I L R Q else WP V 167 39 ls st t I L R Q := wp_brn (c := m_cc .ne x 0) rfl rfl
theorem i167_34 {w1 w2 w3 w4 w5 w6 w7 : Value} {x : Nat} : WP V 167 34 [.ref x, w1, w2, w3, w4, w5, w6, w7] st t I L R Q = WP V 167 35 [.ref x, w1, w2, w3, w4, w5, w6, w7] (.ref x :: st) t I L R Q := wp_go rfl
theorem i167_35 {w0 w2 w3 w4 w5 w6 w7 : Value} {x : Int32} : WP V 167 35 [w0, .int x, w2, w3, w4, w5, w6, w7] st t I L R Q = WP V 167 36 [w0, .int x, w2, w3, w4, w5, w6, w7] (.int x :: st) t I L R Q := wp_go rfl
theorem i167_36  : WP V 167 36 ls st t I L R Q = WP V 167 37 ls (.int (nI 1) :: st) t I L R Q := wp_go rfl
theorem i167_37 {x0 : Int32} {x1 : Int32} {x2 : Nat}  (h1 : x2 < t) (h2 : m_ob x2 8 = true) : WP V 167 37 ls [.int x0, .int x1, .ref x2] t I L R Q = WPC V 155 [.ref x2, .int x1, .int x0] 167 38 ls [] t I L R Q := wp_cls (wp_icv rfl rfl h1 h2) (by decide) (Nat.le_of_ble_eq_true rfl) rfl rfl (Nat.le_of_ble_eq_true rfl) (Nat.le_of_ble_eq_true rfl)
theorem i167_38 {x : Int32} : WP V 167 38 ls [.int x] t I L R Q = Q (some (.int x)) t I L R := wp_rti rfl rfl
theorem i167_39 {w0 w2 w3 w4 w5 w6 w7 : Value} {x : Int32} : WP V 167 39 [w0, .int x, w2, w3, w4, w5, w6, w7] st t I L R Q = WP V 167 40 [w0, .int x, w2, w3, w4, w5, w6, w7] (.int x :: st) t I L R Q := wp_go rfl
theorem i167_40 {x0 : Int32}  : WP V 167 40 ls [.int x0] t I L R Q = WPC V 113 [.int x0] 167 41 ls [] t I L R Q := wp_cls (wp_ics rfl (by decide)) (by decide) (Nat.le_of_ble_eq_true rfl) rfl rfl (Nat.le_of_ble_eq_true rfl) (Nat.le_of_ble_eq_true rfl)
theorem i167_41 {p : Int32} {w0 w1 w2 w3 w4 w6 w7 : Value} {x : Int32} : WP V 167 41 [w0, w1, w2, w3, w4, .int p, w6, w7] (.int x :: st) t I L R Q = WP V 167 42 [w0, w1, w2, w3, w4, .int p, .int x, w7] st t I L R Q := wp_go rfl
theorem i167_42 {w1 w2 w3 w4 w5 w6 w7 : Value} {x : Nat} : WP V 167 42 [.ref x, w1, w2, w3, w4, w5, w6, w7] st t I L R Q = WP V 167 43 [.ref x, w1, w2, w3, w4, w5, w6, w7] (.ref x :: st) t I L R Q := wp_go rfl
theorem i167_43 {k : Nat} (h1 : k < t) (h2 : m_ob k 8 = true) : WP V 167 43 ls (.ref k :: st) t I L R Q = WP V 167 44 ls (m_rv (R k 0) :: st) t I L R Q := wp_getR rfl (by decide) h1 h2
theorem i167_44 {w0 w1 w2 w3 w4 w5 w7 : Value} {x : Int32} : WP V 167 44 [w0, w1, w2, w3, w4, w5, .int x, w7] st t I L R Q = WP V 167 45 [w0, w1, w2, w3, w4, w5, .int x, w7] (.int x :: st) t I L R Q := wp_go rfl
theorem i167_45  : WP V 167 45 ls st t I L R Q = WP V 167 46 ls (.int (nI 3) :: st) t I L R Q := wp_go rfl
theorem i167_46 {x y : Int32} : WP V 167 46 ls (.int y :: .int x :: st) t I L R Q = WP V 167 47 ls (.int (x + y) :: st) t I L R Q := wp_go rfl
theorem i167_47 {w0 w1 w2 w3 w5 w6 w7 : Value} {x : Int32} : WP V 167 47 [w0, w1, w2, w3, .int x, w5, w6, w7] st t I L R Q = WP V 167 48 [w0, w1, w2, w3, .int x, w5, w6, w7] (.int x :: st) t I L R Q := wp_go rfl
theorem i167_48 {x y : Int32} : WP V 167 48 ls (.int y :: .int x :: st) t I L R Q = WP V 167 49 ls (.int (x + y) :: st) t I L R Q := wp_go rfl
theorem i167_49 {k j : Nat} (h2 : m_ar k 2 612 = true) (h1 : k < t) (h3 : j < 612) : WP V 167 49 ls (.int (nI j) :: .ref k :: st) t I L R Q = WP V 167 50 ls (.int (I k j) :: st) t I L R Q := wp_iaload rfl (by decide) h1 h2 h3
theorem i167_50 {p : Int32} {w0 w1 w2 w3 w4 w5 w7 : Value} {x : Int32} : WP V 167 50 [w0, w1, w2, w3, w4, w5, .int p, w7] (.int x :: st) t I L R Q = WP V 167 51 [w0, w1, w2, w3, w4, w5, .int p, .int x] st t I L R Q := wp_go rfl
theorem i167_51 {w0 w1 w2 w3 w4 w5 w6 : Value} {x : Int32} : WP V 167 51 [w0, w1, w2, w3, w4, w5, w6, .int x] st t I L R Q = WP V 167 52 [w0, w1, w2, w3, w4, w5, w6, .int x] (.int x :: st) t I L R Q := wp_go rfl
theorem i167_52  : WP V 167 52 ls st t I L R Q = WP V 167 53 ls (.int (nI 0) :: st) t I L R Q := wp_go rfl
theorem i167_53 {w1 w2 w3 w4 w5 w6 w7 : Value} {x : Nat} : WP V 167 53 [.ref x, w1, w2, w3, w4, w5, w6, w7] st t I L R Q = WP V 167 54 [.ref x, w1, w2, w3, w4, w5, w6, w7] (.ref x :: st) t I L R Q := wp_go rfl
theorem i167_54 {k : Nat} (h1 : k < t) (h2 : m_ob k 8 = true) : WP V 167 54 ls (.ref k :: st) t I L R Q = WP V 167 55 ls (m_rv (R k 13) :: st) t I L R Q := wp_getR rfl (by decide) h1 h2
theorem i167_55 {w1 w2 w3 w4 w5 w6 w7 : Value} {x : Nat} : WP V 167 55 [.ref x, w1, w2, w3, w4, w5, w6, w7] st t I L R Q = WP V 167 56 [.ref x, w1, w2, w3, w4, w5, w6, w7] (.ref x :: st) t I L R Q := wp_go rfl
theorem i167_56 {k : Nat} (h1 : k < t) (h2 : m_ob k 8 = true) : WP V 167 56 ls (.ref k :: st) t I L R Q = WP V 167 57 ls (.int (I k 23) :: st) t I L R Q := wp_getI rfl (by decide) h1 h2
theorem i167_57 {k j : Nat} (h2 : m_ar k 2 6 = true) (h1 : k < t) (h3 : j < 6) : WP V 167 57 ls (.int (nI j) :: .ref k :: st) t I L R Q = WP V 167 58 ls (.int (I k j) :: st) t I L R Q := wp_iaload rfl (by decide) h1 h2 h3
theorem i167_58  : WP V 167 58 ls st t I L R Q = WP V 167 59 ls (.int (nI 1) :: st) t I L R Q := wp_go rfl
theorem i167_59 {x y : Int32} : WP V 167 59 ls (.int y :: .int x :: st) t I L R Q = WP V 167 60 ls (.int (x - y) :: st) t I L R Q := wp_go rfl
theorem i167_60 {x0 : Int32} {x1 : Int32} {x2 : Int32}  : WP V 167 60 ls [.int x0, .int x1, .int x2] t I L R Q = WPC V 111 [.int x2, .int x1, .int x0] 167 61 ls [] t I L R Q := wp_cls (wp_ics rfl (by decide)) (by decide) (Nat.le_of_ble_eq_true rfl) rfl rfl (Nat.le_of_ble_eq_true rfl) (Nat.le_of_ble_eq_true rfl)
theorem i167_61 {x : Int32} : WP V 167 61 ls (.int x :: st) t I L R Q = if x = nI 0 then WP V 167 62 ls st t I L R Q else WP V 167 67 ls st t I L R Q := wp_brn (c := m_cc .ne x 0) rfl rfl
theorem i167_62 {w1 w2 w3 w4 w5 w6 w7 : Value} {x : Nat} : WP V 167 62 [.ref x, w1, w2, w3, w4, w5, w6, w7] st t I L R Q = WP V 167 63 [.ref x, w1, w2, w3, w4, w5, w6, w7] (.ref x :: st) t I L R Q := wp_go rfl
theorem i167_63 {w0 w2 w3 w4 w5 w6 w7 : Value} {x : Int32} : WP V 167 63 [w0, .int x, w2, w3, w4, w5, w6, w7] st t I L R Q = WP V 167 64 [w0, .int x, w2, w3, w4, w5, w6, w7] (.int x :: st) t I L R Q := wp_go rfl
theorem i167_64  : WP V 167 64 ls st t I L R Q = WP V 167 65 ls (.int (nI 2) :: st) t I L R Q := wp_go rfl
theorem i167_65 {x0 : Int32} {x1 : Int32} {x2 : Nat}  (h1 : x2 < t) (h2 : m_ob x2 8 = true) : WP V 167 65 ls [.int x0, .int x1, .ref x2] t I L R Q = WPC V 155 [.ref x2, .int x1, .int x0] 167 66 ls [] t I L R Q := wp_cls (wp_icv rfl rfl h1 h2) (by decide) (Nat.le_of_ble_eq_true rfl) rfl rfl (Nat.le_of_ble_eq_true rfl) (Nat.le_of_ble_eq_true rfl)
theorem i167_66 {x : Int32} : WP V 167 66 ls [.int x] t I L R Q = Q (some (.int x)) t I L R := wp_rti rfl rfl
theorem i167_67 {w1 w2 w3 w4 w5 w6 w7 : Value} {x : Nat} : WP V 167 67 [.ref x, w1, w2, w3, w4, w5, w6, w7] st t I L R Q = WP V 167 68 [.ref x, w1, w2, w3, w4, w5, w6, w7] (.ref x :: st) t I L R Q := wp_go rfl
theorem i167_68 {k : Nat} (h1 : k < t) (h2 : m_ob k 8 = true) : WP V 167 68 ls (.ref k :: st) t I L R Q = WP V 167 69 ls (m_rv (R k 0) :: st) t I L R Q := wp_getR rfl (by decide) h1 h2
theorem i167_69 {w0 w1 w2 w3 w4 w5 w7 : Value} {x : Int32} : WP V 167 69 [w0, w1, w2, w3, w4, w5, .int x, w7] st t I L R Q = WP V 167 70 [w0, w1, w2, w3, w4, w5, .int x, w7] (.int x :: st) t I L R Q := wp_go rfl
theorem i167_70  : WP V 167 70 ls st t I L R Q = WP V 167 71 ls (.int (nI 3) :: st) t I L R Q := wp_go rfl
theorem i167_71 {x y : Int32} : WP V 167 71 ls (.int y :: .int x :: st) t I L R Q = WP V 167 72 ls (.int (x + y) :: st) t I L R Q := wp_go rfl
theorem i167_72 {w0 w1 w3 w4 w5 w6 w7 : Value} {x : Int32} : WP V 167 72 [w0, w1, .int x, w3, w4, w5, w6, w7] st t I L R Q = WP V 167 73 [w0, w1, .int x, w3, w4, w5, w6, w7] (.int x :: st) t I L R Q := wp_go rfl
theorem i167_73 {x y : Int32} : WP V 167 73 ls (.int y :: .int x :: st) t I L R Q = WP V 167 74 ls (.int (x + y) :: st) t I L R Q := wp_go rfl
theorem i167_74 {w1 w2 w3 w4 w5 w6 w7 : Value} {x : Nat} : WP V 167 74 [.ref x, w1, w2, w3, w4, w5, w6, w7] st t I L R Q = WP V 167 75 [.ref x, w1, w2, w3, w4, w5, w6, w7] (.ref x :: st) t I L R Q := wp_go rfl
theorem i167_75 {k : Nat} (h1 : k < t) (h2 : m_ob k 8 = true) : WP V 167 75 ls (.ref k :: st) t I L R Q = WP V 167 76 ls (m_rv (R k 14) :: st) t I L R Q := wp_getR rfl (by decide) h1 h2
theorem i167_76  : WP V 167 76 ls st t I L R Q = WP V 167 77 ls (.int (nI 16) :: st) t I L R Q := wp_go rfl
theorem i167_77 {w1 w2 w3 w4 w5 w6 w7 : Value} {x : Nat} : WP V 167 77 [.ref x, w1, w2, w3, w4, w5, w6, w7] st t I L R Q = WP V 167 78 [.ref x, w1, w2, w3, w4, w5, w6, w7] (.ref x :: st) t I L R Q := wp_go rfl
theorem i167_78 {k : Nat} (h1 : k < t) (h2 : m_ob k 8 = true) : WP V 167 78 ls (.ref k :: st) t I L R Q = WP V 167 79 ls (.int (I k 23) :: st) t I L R Q := wp_getI rfl (by decide) h1 h2
theorem i167_79 {x y : Int32} : WP V 167 79 ls (.int y :: .int x :: st) t I L R Q = WP V 167 80 ls (.int (x * y) :: st) t I L R Q := wp_go rfl
theorem i167_80 {w0 w1 w2 w3 w4 w5 w6 : Value} {x : Int32} : WP V 167 80 [w0, w1, w2, w3, w4, w5, w6, .int x] st t I L R Q = WP V 167 81 [w0, w1, w2, w3, w4, w5, w6, .int x] (.int x :: st) t I L R Q := wp_go rfl
theorem i167_81 {x y : Int32} : WP V 167 81 ls (.int y :: .int x :: st) t I L R Q = WP V 167 82 ls (.int (x + y) :: st) t I L R Q := wp_go rfl
theorem i167_82 {k j : Nat} (h2 : m_ar k 4 96 = true) (h1 : k < t) (h3 : j < 96) : WP V 167 82 ls (.int (nI j) :: .ref k :: st) t I L R Q = WP V 167 83 ls (.long (L k j) :: st) t I L R Q := wp_laload rfl (by decide) h1 h2 h3
theorem i167_83 {x : Int64} : WP V 167 83 ls (.long x :: st) t I L R Q = WP V 167 84 ls (.int x.toInt32 :: st) t I L R Q := wp_go rfl
theorem i167_84 {k j : Nat} {x : Int32} (h2 : m_ar k 2 612 = true) (h1 : k < t) (h3 : j < 612) : WP V 167 84 ls (.int x :: .int (nI j) :: .ref k :: st) t I L R Q = WP V 167 85 ls st t (m_sc I k (m_sc (I k) j x)) L R Q := wp_iastore rfl (by decide) h1 h2 h3
theorem i167_85 {w1 w2 w3 w4 w5 w6 w7 : Value} {x : Nat} : WP V 167 85 [.ref x, w1, w2, w3, w4, w5, w6, w7] st t I L R Q = WP V 167 86 [.ref x, w1, w2, w3, w4, w5, w6, w7] (.ref x :: st) t I L R Q := wp_go rfl
theorem i167_86 {w0 w2 w3 w4 w5 w6 w7 : Value} {x : Int32} : WP V 167 86 [w0, .int x, w2, w3, w4, w5, w6, w7] st t I L R Q = WP V 167 87 [w0, .int x, w2, w3, w4, w5, w6, w7] (.int x :: st) t I L R Q := wp_go rfl
theorem i167_87 {x0 : Int32} {x1 : Nat}  (h1 : x1 < t) (h2 : m_ob x1 8 = true) : WP V 167 87 ls [.int x0, .ref x1] t I L R Q = WPC V 162 [.ref x1, .int x0] 167 88 ls [] t I L R Q := wp_cls (wp_icv rfl rfl h1 h2) (by decide) (Nat.le_of_ble_eq_true rfl) rfl rfl (Nat.le_of_ble_eq_true rfl) (Nat.le_of_ble_eq_true rfl)
theorem i167_88 {x : Int32} : WP V 167 88 ls [.int x] t I L R Q = Q (some (.int x)) t I L R := wp_rti rfl rfl
-- TransactionCellsModel.goesOn(I)Z
theorem i168_0 {w1 w2 : Value} {x : Nat} : WP V 168 0 [.ref x, w1, w2] st t I L R Q = WP V 168 1 [.ref x, w1, w2] (.ref x :: st) t I L R Q := wp_go rfl
theorem i168_1 {k : Nat} (h1 : k < t) (h2 : m_ob k 8 = true) : WP V 168 1 ls (.ref k :: st) t I L R Q = WP V 168 2 ls (m_rv (R k 0) :: st) t I L R Q := wp_getR rfl (by decide) h1 h2
theorem i168_2 {w0 w2 : Value} {x : Int32} : WP V 168 2 [w0, .int x, w2] st t I L R Q = WP V 168 3 [w0, .int x, w2] (.int x :: st) t I L R Q := wp_go rfl
theorem i168_3 {x0 : Int32} {r0 : Nat} : WP V 168 3 ls [.int x0, .ref r0] t I L R Q = WPC V 113 [.int x0] 168 4 ls [.ref r0] t I L R Q := wp_cls (wp_ics rfl (by decide)) (by decide) (Nat.le_of_ble_eq_true rfl) rfl rfl (Nat.le_of_ble_eq_true rfl) (Nat.le_of_ble_eq_true rfl)
theorem i168_4  : WP V 168 4 ls st t I L R Q = WP V 168 5 ls (.int (nI 0) :: st) t I L R Q := wp_go rfl
theorem i168_5 {x y : Int32} : WP V 168 5 ls (.int y :: .int x :: st) t I L R Q = WP V 168 6 ls (.int (x + y) :: st) t I L R Q := wp_go rfl
theorem i168_6 {k j : Nat} (h2 : m_ar k 2 612 = true) (h1 : k < t) (h3 : j < 612) : WP V 168 6 ls (.int (nI j) :: .ref k :: st) t I L R Q = WP V 168 7 ls (.int (I k j) :: st) t I L R Q := wp_iaload rfl (by decide) h1 h2 h3
theorem i168_7 {p : Int32} {w0 w2 : Value} {x : Int32} : WP V 168 7 [w0, .int p, w2] (.int x :: st) t I L R Q = WP V 168 8 [w0, .int p, .int x] st t I L R Q := wp_go rfl
theorem i168_8 {w0 w1 : Value} {x : Int32} : WP V 168 8 [w0, w1, .int x] st t I L R Q = WP V 168 9 [w0, w1, .int x] (.int x :: st) t I L R Q := wp_go rfl
theorem i168_9  : WP V 168 9 ls st t I L R Q = WP V 168 10 ls (.int (nI 1) :: st) t I L R Q := wp_go rfl
theorem i168_10 {x y : Int32} : WP V 168 10 ls (.int y :: .int x :: st) t I L R Q = if x = y then WP V 168 14 ls st t I L R Q else WP V 168 11 ls st t I L R Q := wp_br (c := m_cc .eq x y) rfl rfl
theorem i168_11 {w0 w1 : Value} {x : Int32} : WP V 168 11 [w0, w1, .int x] st t I L R Q = WP V 168 12 [w0, w1, .int x] (.int x :: st) t I L R Q := wp_go rfl
theorem i168_12  : WP V 168 12 ls st t I L R Q = WP V 168 13 ls (.int (nI 4) :: st) t I L R Q := wp_go rfl
theorem i168_13 {x y : Int32} : WP V 168 13 ls (.int y :: .int x :: st) t I L R Q = if x = y then WP V 168 14 ls st t I L R Q else WP V 168 16 ls st t I L R Q := wp_brn (c := m_cc .ne x y) rfl rfl
theorem i168_14  : WP V 168 14 ls st t I L R Q = WP V 168 15 ls (.int (nI 1) :: st) t I L R Q := wp_go rfl
theorem i168_15  : WP V 168 15 ls st t I L R Q = WP V 168 17 ls st t I L R Q := wp_go rfl
theorem i168_16  : WP V 168 16 ls st t I L R Q = WP V 168 17 ls (.int (nI 0) :: st) t I L R Q := wp_go rfl
theorem i168_17 {x : Int32} (h : m_01 x = true) : WP V 168 17 ls [.int x] t I L R Q = Q (some (.int x)) t I L R := wp_rtz rfl rfl h
-- TransactionCellsModel.stepped(I)I
theorem i169_0 {w1 w2 : Value} {x : Nat} : WP V 169 0 [.ref x, w1, w2] st t I L R Q = WP V 169 1 [.ref x, w1, w2] (.ref x :: st) t I L R Q := wp_go rfl
theorem i169_1 {w0 w2 : Value} {x : Int32} : WP V 169 1 [w0, .int x, w2] st t I L R Q = WP V 169 2 [w0, .int x, w2] (.int x :: st) t I L R Q := wp_go rfl
theorem i169_2 {x0 : Int32} {x1 : Nat}  (h1 : x1 < t) (h2 : m_ob x1 8 = true) : WP V 169 2 ls [.int x0, .ref x1] t I L R Q = WPC V 164 [.ref x1, .int x0] 169 3 ls [] t I L R Q := wp_cls (wp_icv rfl rfl h1 h2) (by decide) (Nat.le_of_ble_eq_true rfl) rfl rfl (Nat.le_of_ble_eq_true rfl) (Nat.le_of_ble_eq_true rfl)
theorem i169_3 {p : Int32} {w0 w2 : Value} {x : Int32} : WP V 169 3 [w0, .int p, w2] (.int x :: st) t I L R Q = WP V 169 4 [w0, .int p, .int x] st t I L R Q := wp_go rfl
theorem i169_4 {w1 w2 : Value} {x : Nat} : WP V 169 4 [.ref x, w1, w2] st t I L R Q = WP V 169 5 [.ref x, w1, w2] (.ref x :: st) t I L R Q := wp_go rfl
theorem i169_5 {k : Nat} (h1 : k < t) (h2 : m_ob k 8 = true) : WP V 169 5 ls (.ref k :: st) t I L R Q = WP V 169 6 ls (m_rv (R k 0) :: st) t I L R Q := wp_getR rfl (by decide) h1 h2
theorem i169_6 {w0 w2 : Value} {x : Int32} : WP V 169 6 [w0, .int x, w2] st t I L R Q = WP V 169 7 [w0, .int x, w2] (.int x :: st) t I L R Q := wp_go rfl
theorem i169_7 {x0 : Int32} {r0 : Nat} : WP V 169 7 ls [.int x0, .ref r0] t I L R Q = WPC V 113 [.int x0] 169 8 ls [.ref r0] t I L R Q := wp_cls (wp_ics rfl (by decide)) (by decide) (Nat.le_of_ble_eq_true rfl) rfl rfl (Nat.le_of_ble_eq_true rfl) (Nat.le_of_ble_eq_true rfl)
theorem i169_8 {w0 w1 : Value} {x : Int32} : WP V 169 8 [w0, w1, .int x] st t I L R Q = WP V 169 9 [w0, w1, .int x] (.int x :: st) t I L R Q := wp_go rfl
theorem i169_9 {x : Int32} : WP V 169 9 ls (.int x :: st) t I L R Q = if x = nI 0 then WP V 169 10 ls st t I L R Q else WP V 169 12 ls st t I L R Q := wp_brn (c := m_cc .ne x 0) rfl rfl
theorem i169_10  : WP V 169 10 ls st t I L R Q = WP V 169 11 ls (.int (nI 153) :: st) t I L R Q := wp_go rfl
theorem i169_11  : WP V 169 11 ls st t I L R Q = WP V 169 13 ls st t I L R Q := wp_go rfl
theorem i169_12  : WP V 169 12 ls st t I L R Q = WP V 169 13 ls (.int (nI 152) :: st) t I L R Q := wp_go rfl
theorem i169_13 {x y : Int32} : WP V 169 13 ls (.int y :: .int x :: st) t I L R Q = WP V 169 14 ls (.int (x + y) :: st) t I L R Q := wp_go rfl
theorem i169_14 {v0 : Int32} {v1 : Nat} : WP V 169 14 ls (.int v0 :: .ref v1 :: st) t I L R Q = WP V 169 15 ls (.int v0 :: .ref v1 :: .int v0 :: .ref v1 :: st) t I L R Q := wp_go rfl
theorem i169_15 {k j : Nat} (h2 : m_ar k 2 612 = true) (h1 : k < t) (h3 : j < 612) : WP V 169 15 ls (.int (nI j) :: .ref k :: st) t I L R Q = WP V 169 16 ls (.int (I k j) :: st) t I L R Q := wp_iaload rfl (by decide) h1 h2 h3
theorem i169_16  : WP V 169 16 ls st t I L R Q = WP V 169 17 ls (.int (nI 1) :: st) t I L R Q := wp_go rfl
theorem i169_17 {x y : Int32} : WP V 169 17 ls (.int y :: .int x :: st) t I L R Q = WP V 169 18 ls (.int (x + y) :: st) t I L R Q := wp_go rfl
theorem i169_18 {k j : Nat} {x : Int32} (h2 : m_ar k 2 612 = true) (h1 : k < t) (h3 : j < 612) : WP V 169 18 ls (.int x :: .int (nI j) :: .ref k :: st) t I L R Q = WP V 169 19 ls st t (m_sc I k (m_sc (I k) j x)) L R Q := wp_iastore rfl (by decide) h1 h2 h3
theorem i169_19 {w0 w1 : Value} {x : Int32} : WP V 169 19 [w0, w1, .int x] st t I L R Q = WP V 169 20 [w0, w1, .int x] (.int x :: st) t I L R Q := wp_go rfl
theorem i169_20 {x : Int32} : WP V 169 20 ls [.int x] t I L R Q = Q (some (.int x)) t I L R := wp_rti rfl rfl
-- TransactionCellsModel.step(I)I
theorem i170_0 {w0 : Value} {x : Int32} : WP V 170 0 [w0, .int x] st t I L R Q = WP V 170 1 [w0, .int x] (.int x :: st) t I L R Q := wp_go rfl
theorem i170_1 {x0 : Int32}  : WP V 170 1 ls [.int x0] t I L R Q = WPC V 122 [.int x0] 170 2 ls [] t I L R Q := wp_cls (wp_ics rfl (by decide)) (by decide) (Nat.le_of_ble_eq_true rfl) rfl rfl (Nat.le_of_ble_eq_true rfl) (Nat.le_of_ble_eq_true rfl)
theorem i170_2 {x : Int32} : WP V 170 2 ls (.int x :: st) t I L R Q = if x = nI 0 then WP V 170 3 ls st t I L R Q else WP V 170 5 ls st t I L R Q := wp_brn (c := m_cc .ne x 0) rfl rfl
theorem i170_3  : WP V 170 3 ls st t I L R Q = WP V 170 4 ls (.int (-101) :: st) t I L R Q := wp_go rfl
theorem i170_4 {x : Int32} : WP V 170 4 ls [.int x] t I L R Q = Q (some (.int x)) t I L R := wp_rti rfl rfl
theorem i170_5 {w1 : Value} {x : Nat} : WP V 170 5 [.ref x, w1] st t I L R Q = WP V 170 6 [.ref x, w1] (.ref x :: st) t I L R Q := wp_go rfl
theorem i170_6 {w0 : Value} {x : Int32} : WP V 170 6 [w0, .int x] st t I L R Q = WP V 170 7 [w0, .int x] (.int x :: st) t I L R Q := wp_go rfl
theorem i170_7 {x0 : Int32} {x1 : Nat}  (h1 : x1 < t) (h2 : m_ob x1 8 = true) : WP V 170 7 ls [.int x0, .ref x1] t I L R Q = WPC V 168 [.ref x1, .int x0] 170 8 ls [] t I L R Q := wp_cls (wp_icv rfl rfl h1 h2) (by decide) (Nat.le_of_ble_eq_true rfl) rfl rfl (Nat.le_of_ble_eq_true rfl) (Nat.le_of_ble_eq_true rfl)
theorem i170_8 {x : Int32} : WP V 170 8 ls (.int x :: st) t I L R Q = if x = nI 0 then WP V 170 13 ls st t I L R Q else WP V 170 9 ls st t I L R Q := wp_br (c := m_cc .eq x 0) rfl rfl
theorem i170_9 {w1 : Value} {x : Nat} : WP V 170 9 [.ref x, w1] st t I L R Q = WP V 170 10 [.ref x, w1] (.ref x :: st) t I L R Q := wp_go rfl
theorem i170_10 {w0 : Value} {x : Int32} : WP V 170 10 [w0, .int x] st t I L R Q = WP V 170 11 [w0, .int x] (.int x :: st) t I L R Q := wp_go rfl
theorem i170_11 {x0 : Int32} {x1 : Nat}  (h1 : x1 < t) (h2 : m_ob x1 8 = true) : WP V 170 11 ls [.int x0, .ref x1] t I L R Q = WPC V 169 [.ref x1, .int x0] 170 12 ls [] t I L R Q := wp_cls (wp_icv rfl rfl h1 h2) (by decide) (Nat.le_of_ble_eq_true rfl) rfl rfl (Nat.le_of_ble_eq_true rfl) (Nat.le_of_ble_eq_true rfl)
theorem i170_12  : WP V 170 12 ls st t I L R Q = WP V 170 14 ls st t I L R Q := wp_go rfl
theorem i170_13  : WP V 170 13 ls st t I L R Q = WP V 170 14 ls (.int (-103) :: st) t I L R Q := wp_go rfl
theorem i170_14 {x : Int32} : WP V 170 14 ls [.int x] t I L R Q = Q (some (.int x)) t I L R := wp_rti rfl rfl
-- TransactionCellsModel.run(II)I
theorem i171_0 {w0 w2 w3 w4 w5 w6 w7 : Value} {x : Int32} : WP V 171 0 [w0, .int x, w2, w3, w4, w5, w6, w7] st t I L R Q = WP V 171 1 [w0, .int x, w2, w3, w4, w5, w6, w7] (.int x :: st) t I L R Q := wp_go rfl
theorem i171_1 {x0 : Int32}  : WP V 171 1 ls [.int x0] t I L R Q = WPC V 122 [.int x0] 171 2 ls [] t I L R Q := wp_cls (wp_ics rfl (by decide)) (by decide) (Nat.le_of_ble_eq_true rfl) rfl rfl (Nat.le_of_ble_eq_true rfl) (Nat.le_of_ble_eq_true rfl)
theorem i171_2 {x : Int32} : WP V 171 2 ls (.int x :: st) t I L R Q = if x = nI 0 then WP V 171 3 ls st t I L R Q else WP V 171 5 ls st t I L R Q := wp_brn (c := m_cc .ne x 0) rfl rfl
theorem i171_3  : WP V 171 3 ls st t I L R Q = WP V 171 4 ls (.int (-101) :: st) t I L R Q := wp_go rfl
theorem i171_4 {x : Int32} : WP V 171 4 ls [.int x] t I L R Q = Q (some (.int x)) t I L R := wp_rti rfl rfl
theorem i171_5 {w0 w1 w3 w4 w5 w6 w7 : Value} {x : Int32} : WP V 171 5 [w0, w1, .int x, w3, w4, w5, w6, w7] st t I L R Q = WP V 171 6 [w0, w1, .int x, w3, w4, w5, w6, w7] (.int x :: st) t I L R Q := wp_go rfl
theorem i171_6  : WP V 171 6 ls st t I L R Q = WP V 171 7 ls (.int (nI 0) :: st) t I L R Q := wp_go rfl
theorem i171_7  : WP V 171 7 ls st t I L R Q = WP V 171 8 ls (.int (nI 200) :: st) t I L R Q := wp_go rfl
theorem i171_8 {x0 : Int32} {x1 : Int32} {x2 : Int32}  : WP V 171 8 ls [.int x0, .int x1, .int x2] t I L R Q = WPC V 111 [.int x2, .int x1, .int x0] 171 9 ls [] t I L R Q := wp_cls (wp_ics rfl (by decide)) (by decide) (Nat.le_of_ble_eq_true rfl) rfl rfl (Nat.le_of_ble_eq_true rfl) (Nat.le_of_ble_eq_true rfl)
theorem i171_9 {x : Int32} : WP V 171 9 ls (.int x :: st) t I L R Q = if x = nI 0 then WP V 171 10 ls st t I L R Q else WP V 171 12 ls st t I L R Q := wp_brn (c := m_cc .ne x 0) rfl rfl
theorem i171_10  : WP V 171 10 ls st t I L R Q = WP V 171 11 ls (.int (-102) :: st) t I L R Q := wp_go rfl
theorem i171_11 {x : Int32} : WP V 171 11 ls [.int x] t I L R Q = Q (some (.int x)) t I L R := wp_rti rfl rfl
theorem i171_12  : WP V 171 12 ls st t I L R Q = WP V 171 13 ls (.int (nI 0) :: st) t I L R Q := wp_go rfl
theorem i171_13 {p : Int32} {w0 w1 w3 w4 w5 w6 w7 : Value} {x : Int32} : WP V 171 13 [w0, w1, .int p, w3, w4, w5, w6, w7] (.int x :: st) t I L R Q = WP V 171 14 [w0, w1, .int p, .int x, w4, w5, w6, w7] st t I L R Q := wp_go rfl
theorem i171_14 {w0 w1 w3 w4 w5 w6 w7 : Value} {x : Int32} : WP V 171 14 [w0, w1, .int x, w3, w4, w5, w6, w7] st t I L R Q = WP V 171 15 [w0, w1, .int x, w3, w4, w5, w6, w7] (.int x :: st) t I L R Q := wp_go rfl
theorem i171_15 {p : Int32} {w0 w1 w2 w4 w5 w6 w7 : Value} {x : Int32} : WP V 171 15 [w0, w1, w2, .int p, w4, w5, w6, w7] (.int x :: st) t I L R Q = WP V 171 16 [w0, w1, w2, .int p, .int x, w5, w6, w7] st t I L R Q := wp_go rfl
theorem i171_16  : WP V 171 16 ls st t I L R Q = WP V 171 17 ls (.int (nI 0) :: st) t I L R Q := wp_go rfl
theorem i171_17 {p : Int32} {w0 w1 w2 w3 w5 w6 w7 : Value} {x : Int32} : WP V 171 17 [w0, w1, w2, w3, .int p, w5, w6, w7] (.int x :: st) t I L R Q = WP V 171 18 [w0, w1, w2, w3, .int p, .int x, w6, w7] st t I L R Q := wp_go rfl
theorem i171_18 {w0 w2 w3 w4 w5 w6 w7 : Value} {x : Int32} : WP V 171 18 [w0, .int x, w2, w3, w4, w5, w6, w7] st t I L R Q = WP V 171 19 [w0, .int x, w2, w3, w4, w5, w6, w7] (.int x :: st) t I L R Q := wp_go rfl
theorem i171_19 {p : Int32} {w0 w1 w2 w3 w4 w6 w7 : Value} {x : Int32} : WP V 171 19 [w0, w1, w2, w3, w4, .int p, w6, w7] (.int x :: st) t I L R Q = WP V 171 20 [w0, w1, w2, w3, w4, .int p, .int x, w7] st t I L R Q := wp_go rfl
theorem i171_20 {w0 w1 w2 w3 w4 w6 w7 : Value} {x : Int32} : WP V 171 20 [w0, w1, w2, w3, w4, .int x, w6, w7] st t I L R Q = WP V 171 21 [w0, w1, w2, w3, w4, .int x, w6, w7] (.int x :: st) t I L R Q := wp_go rfl
theorem i171_21  : WP V 171 21 ls st t I L R Q = WP V 171 22 ls (.int (nI 3) :: st) t I L R Q := wp_go rfl
theorem i171_22 {x y : Int32} : WP V 171 22 ls (.int y :: .int x :: st) t I L R Q = if y ≤ x then WP V 171 63 ls st t I L R Q else WP V 171 23 ls st t I L R Q := wp_br (c := m_cc .ge x y) rfl rfl
theorem i171_23 {w0 w1 w2 w3 w5 w6 w7 : Value} {x : Int32} : WP V 171 23 [w0, w1, w2, w3, .int x, w5, w6, w7] st t I L R Q = WP V 171 24 [w0, w1, w2, w3, .int x, w5, w6, w7] (.int x :: st) t I L R Q := wp_go rfl
theorem i171_24 {x : Int32} : WP V 171 24 ls (.int x :: st) t I L R Q = if x ≤ nI 0 then WP V 171 63 ls st t I L R Q else WP V 171 25 ls st t I L R Q := wp_br (c := m_cc .le x 0) rfl rfl
theorem i171_25  : WP V 171 25 ls st t I L R Q = WP V 171 26 ls (.int (nI 0) :: st) t I L R Q := wp_go rfl
theorem i171_26 {p : Int32} {w0 w1 w2 w3 w4 w5 w7 : Value} {x : Int32} : WP V 171 26 [w0, w1, w2, w3, w4, w5, .int p, w7] (.int x :: st) t I L R Q = WP V 171 27 [w0, w1, w2, w3, w4, w5, .int p, .int x] st t I L R Q := wp_go rfl
theorem i171_27 {w1 w2 w3 w4 w5 w6 w7 : Value} {x : Nat} : WP V 171 27 [.ref x, w1, w2, w3, w4, w5, w6, w7] st t I L R Q = WP V 171 28 [.ref x, w1, w2, w3, w4, w5, w6, w7] (.ref x :: st) t I L R Q := wp_go rfl
theorem i171_28 {w0 w1 w2 w3 w4 w5 w7 : Value} {x : Int32} : WP V 171 28 [w0, w1, w2, w3, w4, w5, .int x, w7] st t I L R Q = WP V 171 29 [w0, w1, w2, w3, w4, w5, .int x, w7] (.int x :: st) t I L R Q := wp_go rfl
theorem i171_29 {x0 : Int32} {x1 : Nat}  (h1 : x1 < t) (h2 : m_ob x1 8 = true) : WP V 171 29 ls [.int x0, .ref x1] t I L R Q = WPC V 168 [.ref x1, .int x0] 171 30 ls [] t I L R Q := wp_cls (wp_icv rfl rfl h1 h2) (by decide) (Nat.le_of_ble_eq_true rfl) rfl rfl (Nat.le_of_ble_eq_true rfl) (Nat.le_of_ble_eq_true rfl)
theorem i171_30 {x : Int32} : WP V 171 30 ls (.int x :: st) t I L R Q = if x = nI 0 then WP V 171 40 ls st t I L R Q else WP V 171 31 ls st t I L R Q := wp_br (c := m_cc .eq x 0) rfl rfl
theorem i171_31 {p : Int32} {w0 w1 w2 w5 w6 w7 : Value} {x : Int32} : WP V 171 31 [w0, w1, w2, .int p, .int x, w5, w6, w7] st t I L R Q = WP V 171 32 [w0, w1, w2, .int p, .int (x + (-1)), w5, w6, w7] st t I L R Q := wp_go rfl
theorem i171_32 {w1 w2 w3 w4 w5 w6 w7 : Value} {x : Nat} : WP V 171 32 [.ref x, w1, w2, w3, w4, w5, w6, w7] st t I L R Q = WP V 171 33 [.ref x, w1, w2, w3, w4, w5, w6, w7] (.ref x :: st) t I L R Q := wp_go rfl
theorem i171_33 {w0 w1 w2 w3 w4 w5 w7 : Value} {x : Int32} : WP V 171 33 [w0, w1, w2, w3, w4, w5, .int x, w7] st t I L R Q = WP V 171 34 [w0, w1, w2, w3, w4, w5, .int x, w7] (.int x :: st) t I L R Q := wp_go rfl
theorem i171_34 {x0 : Int32} {x1 : Nat}  (h1 : x1 < t) (h2 : m_ob x1 8 = true) : WP V 171 34 ls [.int x0, .ref x1] t I L R Q = WPC V 169 [.ref x1, .int x0] 171 35 ls [] t I L R Q := wp_cls (wp_icv rfl rfl h1 h2) (by decide) (Nat.le_of_ble_eq_true rfl) rfl rfl (Nat.le_of_ble_eq_true rfl) (Nat.le_of_ble_eq_true rfl)
theorem i171_35 {x : Int32} : WP V 171 35 ls (.int x :: st) t I L R Q = if x = nI 0 then WP V 171 38 ls st t I L R Q else WP V 171 36 ls st t I L R Q := wp_br (c := m_cc .eq x 0) rfl rfl
theorem i171_36  : WP V 171 36 ls st t I L R Q = WP V 171 37 ls (.int (nI 1) :: st) t I L R Q := wp_go rfl
theorem i171_37  : WP V 171 37 ls st t I L R Q = WP V 171 39 ls st t I L R Q := wp_go rfl
theorem i171_38  : WP V 171 38 ls st t I L R Q = WP V 171 39 ls (.int (nI 0) :: st) t I L R Q := wp_go rfl
theorem i171_39 {p : Int32} {w0 w1 w2 w3 w4 w5 w7 : Value} {x : Int32} : WP V 171 39 [w0, w1, w2, w3, w4, w5, .int p, w7] (.int x :: st) t I L R Q = WP V 171 40 [w0, w1, w2, w3, w4, w5, .int p, .int x] st t I L R Q := wp_go rfl
theorem i171_40 {w0 w1 w2 w4 w5 w6 w7 : Value} {x : Int32} : WP V 171 40 [w0, w1, w2, .int x, w4, w5, w6, w7] st t I L R Q = WP V 171 41 [w0, w1, w2, .int x, w4, w5, w6, w7] (.int x :: st) t I L R Q := wp_go rfl
theorem i171_41 {w0 w1 w2 w3 w4 w5 w6 : Value} {x : Int32} : WP V 171 41 [w0, w1, w2, w3, w4, w5, w6, .int x] st t I L R Q = WP V 171 42 [w0, w1, w2, w3, w4, w5, w6, .int x] (.int x :: st) t I L R Q := wp_go rfl
theorem i171_42 {x : Int32} : WP V 171 42 ls (.int x :: st) t I L R Q = if x = nI 0 then WP V 171 45 ls st t I L R Q else WP V 171 43 ls st t I L R Q := wp_br (c := m_cc .eq x 0) rfl rfl
theorem i171_43  : WP V 171 43 ls st t I L R Q = WP V 171 44 ls (.int (nI 1) :: st) t I L R Q := wp_go rfl
theorem i171_44  : WP V 171 44 ls st t I L R Q = WP V 171 46 ls st t I L R Q := wp_go rfl
theorem i171_45  : WP V 171 45 ls st t I L R Q = WP V 171 46 ls (.int (nI 0) :: st) t I L R Q := wp_go rfl
theorem i171_46 {x y : Int32} : WP V 171 46 ls (.int y :: .int x :: st) t I L R Q = WP V 171 47 ls (.int (x + y) :: st) t I L R Q := wp_go rfl
theorem i171_47 {p : Int32} {w0 w1 w3 w4 w5 w6 w7 : Value} {x : Int32} : WP V 171 47 [w0, w1, .int p, w3, w4, w5, w6, w7] (.int x :: st) t I L R Q = WP V 171 48 [w0, w1, .int p, .int x, w4, w5, w6, w7] st t I L R Q := wp_go rfl
theorem i171_48 {w0 w1 w2 w3 w4 w5 w6 : Value} {x : Int32} : WP V 171 48 [w0, w1, w2, w3, w4, w5, w6, .int x] st t I L R Q = WP V 171 49 [w0, w1, w2, w3, w4, w5, w6, .int x] (.int x :: st) t I L R Q := wp_go rfl
theorem i171_49 {x : Int32} : WP V 171 49 ls (.int x :: st) t I L R Q = if x = nI 0 then WP V 171 52 ls st t I L R Q else WP V 171 50 ls st t I L R Q := wp_br (c := m_cc .eq x 0) rfl rfl
theorem i171_50  : WP V 171 50 ls st t I L R Q = WP V 171 51 ls (.int (nI 0) :: st) t I L R Q := wp_go rfl
theorem i171_51  : WP V 171 51 ls st t I L R Q = WP V 171 55 ls st t I L R Q := wp_go rfl
theorem i171_52 {w0 w1 w2 w3 w4 w6 w7 : Value} {x : Int32} : WP V 171 52 [w0, w1, w2, w3, w4, .int x, w6, w7] st t I L R Q = WP V 171 53 [w0, w1, w2, w3, w4, .int x, w6, w7] (.int x :: st) t I L R Q := wp_go rfl
theorem i171_53  : WP V 171 53 ls st t I L R Q = WP V 171 54 ls (.int (nI 1) :: st) t I L R Q := wp_go rfl
theorem i171_54 {x y : Int32} : WP V 171 54 ls (.int y :: .int x :: st) t I L R Q = WP V 171 55 ls (.int (x + y) :: st) t I L R Q := wp_go rfl
theorem i171_55 {p : Int32} {w0 w1 w2 w3 w5 w6 w7 : Value} {x : Int32} : WP V 171 55 [w0, w1, w2, w3, .int p, w5, w6, w7] (.int x :: st) t I L R Q = WP V 171 56 [w0, w1, w2, w3, .int p, .int x, w6, w7] st t I L R Q := wp_go rfl
theorem i171_56 {w0 w1 w2 w3 w4 w5 w7 : Value} {x : Int32} : WP V 171 56 [w0, w1, w2, w3, w4, w5, .int x, w7] st t I L R Q = WP V 171 57 [w0, w1, w2, w3, w4, w5, .int x, w7] (.int x :: st) t I L R Q := wp_go rfl
theorem i171_57  : WP V 171 57 ls st t I L R Q = WP V 171 58 ls (.int (nI 1) :: st) t I L R Q := wp_go rfl
theorem i171_58 {x y : Int32} : WP V 171 58 ls (.int y :: .int x :: st) t I L R Q = WP V 171 59 ls (.int (x + y) :: st) t I L R Q := wp_go rfl
theorem i171_59  : WP V 171 59 ls st t I L R Q = WP V 171 60 ls (.int (nI 3) :: st) t I L R Q := wp_go rfl
theorem i171_60 {x y : Int32} (h : ¬ y = 0) : WP V 171 60 ls (.int y :: .int x :: st) t I L R Q = WP V 171 61 ls (.int (x - x / y * y) :: st) t I L R Q := wp_irem rfl h
theorem i171_61 {p : Int32} {w0 w1 w2 w3 w4 w6 w7 : Value} {x : Int32} : WP V 171 61 [w0, w1, w2, w3, w4, .int p, w6, w7] (.int x :: st) t I L R Q = WP V 171 62 [w0, w1, w2, w3, w4, .int p, .int x, w7] st t I L R Q := wp_go rfl
theorem i171_62  : WP V 171 62 ls st t I L R Q = WP V 171 20 ls st t I L R Q := wp_go rfl
theorem i171_63 {w0 w1 w2 w4 w5 w6 w7 : Value} {x : Int32} : WP V 171 63 [w0, w1, w2, .int x, w4, w5, w6, w7] st t I L R Q = WP V 171 64 [w0, w1, w2, .int x, w4, w5, w6, w7] (.int x :: st) t I L R Q := wp_go rfl
theorem i171_64 {x : Int32} : WP V 171 64 ls [.int x] t I L R Q = Q (some (.int x)) t I L R := wp_rti rfl rfl
-- TransactionCellsModel.store([II)V
theorem i172_0  : WP V 172 0 ls st t I L R Q = WP V 172 1 ls (.int (nI 0) :: st) t I L R Q := wp_go rfl
theorem i172_1 {p : Int32} {w0 w1 w3 : Value} {x : Int32} : WP V 172 1 [w0, w1, .int p, w3] (.int x :: st) t I L R Q = WP V 172 2 [w0, w1, .int p, .int x] st t I L R Q := wp_go rfl
theorem i172_2 {w0 w1 w2 : Value} {x : Int32} : WP V 172 2 [w0, w1, w2, .int x] st t I L R Q = WP V 172 3 [w0, w1, w2, .int x] (.int x :: st) t I L R Q := wp_go rfl
theorem i172_3  : WP V 172 3 ls st t I L R Q = WP V 172 4 ls (.int (nI 612) :: st) t I L R Q := wp_go rfl
theorem i172_4 {x y : Int32} : WP V 172 4 ls (.int y :: .int x :: st) t I L R Q = if y ≤ x then WP V 172 18 ls st t I L R Q else WP V 172 5 ls st t I L R Q := wp_br (c := m_cc .ge x y) rfl rfl
theorem i172_5 {w1 w2 w3 : Value} {x : Nat} : WP V 172 5 [.ref x, w1, w2, w3] st t I L R Q = WP V 172 6 [.ref x, w1, w2, w3] (.ref x :: st) t I L R Q := wp_go rfl
theorem i172_6 {k : Nat} (h1 : k < t) (h2 : m_ob k 8 = true) : WP V 172 6 ls (.ref k :: st) t I L R Q = WP V 172 7 ls (m_rv (R k 26) :: st) t I L R Q := wp_getR rfl (by decide) h1 h2
theorem i172_7  : WP V 172 7 ls st t I L R Q = WP V 172 8 ls (.int (nI 612) :: st) t I L R Q := wp_go rfl
theorem i172_8 {w0 w1 w3 : Value} {x : Int32} : WP V 172 8 [w0, w1, .int x, w3] st t I L R Q = WP V 172 9 [w0, w1, .int x, w3] (.int x :: st) t I L R Q := wp_go rfl
theorem i172_9 {x y : Int32} : WP V 172 9 ls (.int y :: .int x :: st) t I L R Q = WP V 172 10 ls (.int (x * y) :: st) t I L R Q := wp_go rfl
theorem i172_10 {w0 w1 w2 : Value} {x : Int32} : WP V 172 10 [w0, w1, w2, .int x] st t I L R Q = WP V 172 11 [w0, w1, w2, .int x] (.int x :: st) t I L R Q := wp_go rfl
theorem i172_11 {x y : Int32} : WP V 172 11 ls (.int y :: .int x :: st) t I L R Q = WP V 172 12 ls (.int (x + y) :: st) t I L R Q := wp_go rfl
theorem i172_12 {w0 w2 w3 : Value} {x : Nat} : WP V 172 12 [w0, .ref x, w2, w3] st t I L R Q = WP V 172 13 [w0, .ref x, w2, w3] (.ref x :: st) t I L R Q := wp_go rfl
theorem i172_13 {w0 w1 w2 : Value} {x : Int32} : WP V 172 13 [w0, w1, w2, .int x] st t I L R Q = WP V 172 14 [w0, w1, w2, .int x] (.int x :: st) t I L R Q := wp_go rfl
theorem i172_14 {k j : Nat} {N : Nat} (h2 : m_ar k 2 N = true) (hN : N < 2 ^ 31) (h1 : k < t) (h3 : j < N) : WP V 172 14 ls (.int (nI j) :: .ref k :: st) t I L R Q = WP V 172 15 ls (.int (I k j) :: st) t I L R Q := wp_iaload rfl hN h1 h2 h3
theorem i172_15 {k j : Nat} {x : Int32} (h2 : m_ar k 2 246000 = true) (h1 : k < t) (h3 : j < 246000) : WP V 172 15 ls (.int x :: .int (nI j) :: .ref k :: st) t I L R Q = WP V 172 16 ls st t (m_sc I k (m_sc (I k) j x)) L R Q := wp_iastore rfl (by decide) h1 h2 h3
theorem i172_16 {p : Int32} {w0 w1 : Value} {x : Int32} : WP V 172 16 [w0, w1, .int p, .int x] st t I L R Q = WP V 172 17 [w0, w1, .int p, .int (x + (nI 1))] st t I L R Q := wp_go rfl
theorem i172_17  : WP V 172 17 ls st t I L R Q = WP V 172 2 ls st t I L R Q := wp_go rfl
theorem i172_18  : WP V 172 18 ls [] t I L R Q = Q none t I L R := wp_rtv rfl rfl
-- TransactionCellsModel.isCompared(I)Z
theorem i173_0 {w1 : Value} {x : Int32} : WP V 173 0 [.int x, w1] st t I L R Q = WP V 173 1 [.int x, w1] (.int x :: st) t I L R Q := wp_go rfl
theorem i173_1  : WP V 173 1 ls st t I L R Q = WP V 173 2 ls (.int (nI 150) :: st) t I L R Q := wp_go rfl
theorem i173_2 {x y : Int32} : WP V 173 2 ls (.int y :: .int x :: st) t I L R Q = if y ≤ x then WP V 173 5 ls st t I L R Q else WP V 173 3 ls st t I L R Q := wp_br (c := m_cc .ge x y) rfl rfl
theorem i173_3  : WP V 173 3 ls st t I L R Q = WP V 173 4 ls (.int (nI 1) :: st) t I L R Q := wp_go rfl
theorem i173_4 {x : Int32} (h : m_01 x = true) : WP V 173 4 ls [.int x] t I L R Q = Q (some (.int x)) t I L R := wp_rtz rfl rfl h
theorem i173_5 {w1 : Value} {x : Int32} : WP V 173 5 [.int x, w1] st t I L R Q = WP V 173 6 [.int x, w1] (.int x :: st) t I L R Q := wp_go rfl
theorem i173_6  : WP V 173 6 ls st t I L R Q = WP V 173 7 ls (.int (nI 150) :: st) t I L R Q := wp_go rfl
theorem i173_7 {x y : Int32} : WP V 173 7 ls (.int y :: .int x :: st) t I L R Q = WP V 173 8 ls (.int (x - y) :: st) t I L R Q := wp_go rfl
theorem i173_8  : WP V 173 8 ls st t I L R Q = WP V 173 9 ls (.int (nI 154) :: st) t I L R Q := wp_go rfl
theorem i173_9 {x y : Int32} (h : ¬ y = 0) : WP V 173 9 ls (.int y :: .int x :: st) t I L R Q = WP V 173 10 ls (.int (x - x / y * y) :: st) t I L R Q := wp_irem rfl h
theorem i173_10 {p : Int32} {w1 : Value} {x : Int32} : WP V 173 10 [.int p, w1] (.int x :: st) t I L R Q = WP V 173 11 [.int p, .int x] st t I L R Q := wp_go rfl
theorem i173_11 {w0 : Value} {x : Int32} : WP V 173 11 [w0, .int x] st t I L R Q = WP V 173 12 [w0, .int x] (.int x :: st) t I L R Q := wp_go rfl
theorem i173_12  : WP V 173 12 ls st t I L R Q = WP V 173 13 ls (.int (nI 104) :: st) t I L R Q := wp_go rfl
theorem i173_13 {x y : Int32} : WP V 173 13 ls (.int y :: .int x :: st) t I L R Q = if x = y then WP V 173 19 ls st t I L R Q else WP V 173 14 ls st t I L R Q := wp_br (c := m_cc .eq x y) rfl rfl
theorem i173_14 {w0 : Value} {x : Int32} : WP V 173 14 [w0, .int x] st t I L R Q = WP V 173 15 [w0, .int x] (.int x :: st) t I L R Q := wp_go rfl
theorem i173_15  : WP V 173 15 ls st t I L R Q = WP V 173 16 ls (.int (nI 151) :: st) t I L R Q := wp_go rfl
theorem i173_16 {x y : Int32} : WP V 173 16 ls (.int y :: .int x :: st) t I L R Q = if y ≤ x then WP V 173 19 ls st t I L R Q else WP V 173 17 ls st t I L R Q := wp_br (c := m_cc .ge x y) rfl rfl
theorem i173_17  : WP V 173 17 ls st t I L R Q = WP V 173 18 ls (.int (nI 1) :: st) t I L R Q := wp_go rfl
theorem i173_18  : WP V 173 18 ls st t I L R Q = WP V 173 20 ls st t I L R Q := wp_go rfl
theorem i173_19  : WP V 173 19 ls st t I L R Q = WP V 173 20 ls (.int (nI 0) :: st) t I L R Q := wp_go rfl
theorem i173_20 {x : Int32} (h : m_01 x = true) : WP V 173 20 ls [.int x] t I L R Q = Q (some (.int x)) t I L R := wp_rtz rfl rfl h
-- TransactionCellsModel.elder([IIII)I
theorem i174_0 {w0 w2 w3 w4 w5 : Value} {x : Int32} : WP V 174 0 [w0, .int x, w2, w3, w4, w5] st t I L R Q = WP V 174 1 [w0, .int x, w2, w3, w4, w5] (.int x :: st) t I L R Q := wp_go rfl
theorem i174_1 {w0 w1 w3 w4 w5 : Value} {x : Int32} : WP V 174 1 [w0, w1, .int x, w3, w4, w5] st t I L R Q = WP V 174 2 [w0, w1, .int x, w3, w4, w5] (.int x :: st) t I L R Q := wp_go rfl
theorem i174_2 {x0 : Int32} {r0 : Int32} : WP V 174 2 ls [.int x0, .int r0] t I L R Q = WPC V 113 [.int x0] 174 3 ls [.int r0] t I L R Q := wp_cls (wp_ics rfl (by decide)) (by decide) (Nat.le_of_ble_eq_true rfl) rfl rfl (Nat.le_of_ble_eq_true rfl) (Nat.le_of_ble_eq_true rfl)
theorem i174_3 {x y : Int32} : WP V 174 3 ls (.int y :: .int x :: st) t I L R Q = WP V 174 4 ls (.int (x + y) :: st) t I L R Q := wp_go rfl
theorem i174_4 {p : Int32} {w0 w1 w2 w4 w5 : Value} {x : Int32} : WP V 174 4 [w0, w1, w2, .int p, w4, w5] (.int x :: st) t I L R Q = WP V 174 5 [w0, w1, w2, .int p, .int x, w5] st t I L R Q := wp_go rfl
theorem i174_5 {w0 w2 w3 w4 w5 : Value} {x : Int32} : WP V 174 5 [w0, .int x, w2, w3, w4, w5] st t I L R Q = WP V 174 6 [w0, .int x, w2, w3, w4, w5] (.int x :: st) t I L R Q := wp_go rfl
theorem i174_6 {w0 w1 w2 w4 w5 : Value} {x : Int32} : WP V 174 6 [w0, w1, w2, .int x, w4, w5] st t I L R Q = WP V 174 7 [w0, w1, w2, .int x, w4, w5] (.int x :: st) t I L R Q := wp_go rfl
theorem i174_7 {x0 : Int32} {r0 : Int32} : WP V 174 7 ls [.int x0, .int r0] t I L R Q = WPC V 113 [.int x0] 174 8 ls [.int r0] t I L R Q := wp_cls (wp_ics rfl (by decide)) (by decide) (Nat.le_of_ble_eq_true rfl) rfl rfl (Nat.le_of_ble_eq_true rfl) (Nat.le_of_ble_eq_true rfl)
theorem i174_8 {x y : Int32} : WP V 174 8 ls (.int y :: .int x :: st) t I L R Q = WP V 174 9 ls (.int (x + y) :: st) t I L R Q := wp_go rfl
theorem i174_9 {p : Int32} {w0 w1 w2 w3 w5 : Value} {x : Int32} : WP V 174 9 [w0, w1, w2, w3, .int p, w5] (.int x :: st) t I L R Q = WP V 174 10 [w0, w1, w2, w3, .int p, .int x] st t I L R Q := wp_go rfl
theorem i174_10 {w1 w2 w3 w4 w5 : Value} {x : Nat} : WP V 174 10 [.ref x, w1, w2, w3, w4, w5] st t I L R Q = WP V 174 11 [.ref x, w1, w2, w3, w4, w5] (.ref x :: st) t I L R Q := wp_go rfl
theorem i174_11 {w0 w1 w2 w3 w5 : Value} {x : Int32} : WP V 174 11 [w0, w1, w2, w3, .int x, w5] st t I L R Q = WP V 174 12 [w0, w1, w2, w3, .int x, w5] (.int x :: st) t I L R Q := wp_go rfl
theorem i174_12  : WP V 174 12 ls st t I L R Q = WP V 174 13 ls (.int (nI 101) :: st) t I L R Q := wp_go rfl
theorem i174_13 {x y : Int32} : WP V 174 13 ls (.int y :: .int x :: st) t I L R Q = WP V 174 14 ls (.int (x + y) :: st) t I L R Q := wp_go rfl
theorem i174_14 {k j : Nat} {N : Nat} (h2 : m_ar k 2 N = true) (hN : N < 2 ^ 31) (h1 : k < t) (h3 : j < N) : WP V 174 14 ls (.int (nI j) :: .ref k :: st) t I L R Q = WP V 174 15 ls (.int (I k j) :: st) t I L R Q := wp_iaload rfl hN h1 h2 h3
theorem i174_15 {x : Int32} : WP V 174 15 ls (.int x :: st) t I L R Q = if x = nI 0 then WP V 174 22 ls st t I L R Q else WP V 174 16 ls st t I L R Q := wp_br (c := m_cc .eq x 0) rfl rfl
theorem i174_16 {w1 w2 w3 w4 w5 : Value} {x : Nat} : WP V 174 16 [.ref x, w1, w2, w3, w4, w5] st t I L R Q = WP V 174 17 [.ref x, w1, w2, w3, w4, w5] (.ref x :: st) t I L R Q := wp_go rfl
theorem i174_17 {w0 w1 w2 w3 w4 : Value} {x : Int32} : WP V 174 17 [w0, w1, w2, w3, w4, .int x] st t I L R Q = WP V 174 18 [w0, w1, w2, w3, w4, .int x] (.int x :: st) t I L R Q := wp_go rfl
theorem i174_18  : WP V 174 18 ls st t I L R Q = WP V 174 19 ls (.int (nI 101) :: st) t I L R Q := wp_go rfl
theorem i174_19 {x y : Int32} : WP V 174 19 ls (.int y :: .int x :: st) t I L R Q = WP V 174 20 ls (.int (x + y) :: st) t I L R Q := wp_go rfl
theorem i174_20 {k j : Nat} {N : Nat} (h2 : m_ar k 2 N = true) (hN : N < 2 ^ 31) (h1 : k < t) (h3 : j < N) : WP V 174 20 ls (.int (nI j) :: .ref k :: st) t I L R Q = WP V 174 21 ls (.int (I k j) :: st) t I L R Q := wp_iaload rfl hN h1 h2 h3
theorem i174_21 {x : Int32} : WP V 174 21 ls (.int x :: st) t I L R Q = if x = nI 0 then WP V 174 22 ls st t I L R Q else WP V 174 24 ls st t I L R Q := wp_brn (c := m_cc .ne x 0) rfl rfl
theorem i174_22  : WP V 174 22 ls st t I L R Q = WP V 174 23 ls (.int (nI 0) :: st) t I L R Q := wp_go rfl
theorem i174_23  : WP V 174 23 ls st t I L R Q = WP V 174 38 ls st t I L R Q := wp_go rfl
theorem i174_24 {w1 w2 w3 w4 w5 : Value} {x : Nat} : WP V 174 24 [.ref x, w1, w2, w3, w4, w5] st t I L R Q = WP V 174 25 [.ref x, w1, w2, w3, w4, w5] (.ref x :: st) t I L R Q := wp_go rfl
theorem i174_25 {w0 w1 w2 w3 w5 : Value} {x : Int32} : WP V 174 25 [w0, w1, w2, w3, .int x, w5] st t I L R Q = WP V 174 26 [w0, w1, w2, w3, .int x, w5] (.int x :: st) t I L R Q := wp_go rfl
theorem i174_26  : WP V 174 26 ls st t I L R Q = WP V 174 27 ls (.int (nI 104) :: st) t I L R Q := wp_go rfl
theorem i174_27 {x y : Int32} : WP V 174 27 ls (.int y :: .int x :: st) t I L R Q = WP V 174 28 ls (.int (x + y) :: st) t I L R Q := wp_go rfl
theorem i174_28 {k j : Nat} {N : Nat} (h2 : m_ar k 2 N = true) (hN : N < 2 ^ 31) (h1 : k < t) (h3 : j < N) : WP V 174 28 ls (.int (nI j) :: .ref k :: st) t I L R Q = WP V 174 29 ls (.int (I k j) :: st) t I L R Q := wp_iaload rfl hN h1 h2 h3
theorem i174_29 {w1 w2 w3 w4 w5 : Value} {x : Nat} : WP V 174 29 [.ref x, w1, w2, w3, w4, w5] st t I L R Q = WP V 174 30 [.ref x, w1, w2, w3, w4, w5] (.ref x :: st) t I L R Q := wp_go rfl
theorem i174_30 {w0 w1 w2 w3 w4 : Value} {x : Int32} : WP V 174 30 [w0, w1, w2, w3, w4, .int x] st t I L R Q = WP V 174 31 [w0, w1, w2, w3, w4, .int x] (.int x :: st) t I L R Q := wp_go rfl
theorem i174_31  : WP V 174 31 ls st t I L R Q = WP V 174 32 ls (.int (nI 104) :: st) t I L R Q := wp_go rfl
theorem i174_32 {x y : Int32} : WP V 174 32 ls (.int y :: .int x :: st) t I L R Q = WP V 174 33 ls (.int (x + y) :: st) t I L R Q := wp_go rfl
theorem i174_33 {k j : Nat} {N : Nat} (h2 : m_ar k 2 N = true) (hN : N < 2 ^ 31) (h1 : k < t) (h3 : j < N) : WP V 174 33 ls (.int (nI j) :: .ref k :: st) t I L R Q = WP V 174 34 ls (.int (I k j) :: st) t I L R Q := wp_iaload rfl hN h1 h2 h3
theorem i174_34 {x y : Int32} : WP V 174 34 ls (.int y :: .int x :: st) t I L R Q = if y ≤ x then WP V 174 37 ls st t I L R Q else WP V 174 35 ls st t I L R Q := wp_br (c := m_cc .ge x y) rfl rfl
theorem i174_35  : WP V 174 35 ls st t I L R Q = WP V 174 36 ls (.int (nI 1) :: st) t I L R Q := wp_go rfl
theorem i174_36  : WP V 174 36 ls st t I L R Q = WP V 174 38 ls st t I L R Q := wp_go rfl
theorem i174_37  : WP V 174 37 ls st t I L R Q = WP V 174 38 ls (.int (nI 2) :: st) t I L R Q := wp_go rfl
theorem i174_38 {x : Int32} : WP V 174 38 ls [.int x] t I L R Q = Q (some (.int x)) t I L R := wp_rti rfl rfl
-- TransactionCellsModel.isLike(I)Z
theorem i175_0  : WP V 175 0 ls st t I L R Q = WP V 175 1 ls (.int (nI 612) :: st) t I L R Q := wp_go rfl
theorem i175_1 {w0 w2 w3 : Value} {x : Int32} : WP V 175 1 [w0, .int x, w2, w3] st t I L R Q = WP V 175 2 [w0, .int x, w2, w3] (.int x :: st) t I L R Q := wp_go rfl
theorem i175_2 {x y : Int32} : WP V 175 2 ls (.int y :: .int x :: st) t I L R Q = WP V 175 3 ls (.int (x * y) :: st) t I L R Q := wp_go rfl
theorem i175_3 {p : Int32} {w0 w2 w3 : Value} {x : Int32} : WP V 175 3 [w0, .int p, w2, w3] (.int x :: st) t I L R Q = WP V 175 4 [w0, .int p, .int x, w3] st t I L R Q := wp_go rfl
theorem i175_4  : WP V 175 4 ls st t I L R Q = WP V 175 5 ls (.int (nI 0) :: st) t I L R Q := wp_go rfl
theorem i175_5 {p : Int32} {w0 w1 w3 : Value} {x : Int32} : WP V 175 5 [w0, w1, .int p, w3] (.int x :: st) t I L R Q = WP V 175 6 [w0, w1, .int p, .int x] st t I L R Q := wp_go rfl
theorem i175_6 {w0 w1 w2 : Value} {x : Int32} : WP V 175 6 [w0, w1, w2, .int x] st t I L R Q = WP V 175 7 [w0, w1, w2, .int x] (.int x :: st) t I L R Q := wp_go rfl
theorem i175_7  : WP V 175 7 ls st t I L R Q = WP V 175 8 ls (.int (nI 612) :: st) t I L R Q := wp_go rfl
theorem i175_8 {x y : Int32} : WP V 175 8 ls (.int y :: .int x :: st) t I L R Q = if y ≤ x then WP V 175 27 ls st t I L R Q else WP V 175 9 ls st t I L R Q := wp_br (c := m_cc .ge x y) rfl rfl
theorem i175_9 {w1 w2 w3 : Value} {x : Nat} : WP V 175 9 [.ref x, w1, w2, w3] st t I L R Q = WP V 175 10 [.ref x, w1, w2, w3] (.ref x :: st) t I L R Q := wp_go rfl
theorem i175_10 {k : Nat} (h1 : k < t) (h2 : m_ob k 8 = true) : WP V 175 10 ls (.ref k :: st) t I L R Q = WP V 175 11 ls (m_rv (R k 26) :: st) t I L R Q := wp_getR rfl (by decide) h1 h2
theorem i175_11 {w0 w1 w3 : Value} {x : Int32} : WP V 175 11 [w0, w1, .int x, w3] st t I L R Q = WP V 175 12 [w0, w1, .int x, w3] (.int x :: st) t I L R Q := wp_go rfl
theorem i175_12 {w0 w1 w2 : Value} {x : Int32} : WP V 175 12 [w0, w1, w2, .int x] st t I L R Q = WP V 175 13 [w0, w1, w2, .int x] (.int x :: st) t I L R Q := wp_go rfl
theorem i175_13 {x y : Int32} : WP V 175 13 ls (.int y :: .int x :: st) t I L R Q = WP V 175 14 ls (.int (x + y) :: st) t I L R Q := wp_go rfl
theorem i175_14 {k j : Nat} (h2 : m_ar k 2 246000 = true) (h1 : k < t) (h3 : j < 246000) : WP V 175 14 ls (.int (nI j) :: .ref k :: st) t I L R Q = WP V 175 15 ls (.int (I k j) :: st) t I L R Q := wp_iaload rfl (by decide) h1 h2 h3
theorem i175_15 {w1 w2 w3 : Value} {x : Nat} : WP V 175 15 [.ref x, w1, w2, w3] st t I L R Q = WP V 175 16 [.ref x, w1, w2, w3] (.ref x :: st) t I L R Q := wp_go rfl
theorem i175_16 {k : Nat} (h1 : k < t) (h2 : m_ob k 8 = true) : WP V 175 16 ls (.ref k :: st) t I L R Q = WP V 175 17 ls (m_rv (R k 0) :: st) t I L R Q := wp_getR rfl (by decide) h1 h2
theorem i175_17 {w0 w1 w2 : Value} {x : Int32} : WP V 175 17 [w0, w1, w2, .int x] st t I L R Q = WP V 175 18 [w0, w1, w2, .int x] (.int x :: st) t I L R Q := wp_go rfl
theorem i175_18 {k j : Nat} (h2 : m_ar k 2 612 = true) (h1 : k < t) (h3 : j < 612) : WP V 175 18 ls (.int (nI j) :: .ref k :: st) t I L R Q = WP V 175 19 ls (.int (I k j) :: st) t I L R Q := wp_iaload rfl (by decide) h1 h2 h3
theorem i175_19 {x y : Int32} : WP V 175 19 ls (.int y :: .int x :: st) t I L R Q = if x = y then WP V 175 25 ls st t I L R Q else WP V 175 20 ls st t I L R Q := wp_br (c := m_cc .eq x y) rfl rfl
theorem i175_20 {w0 w1 w2 : Value} {x : Int32} : WP V 175 20 [w0, w1, w2, .int x] st t I L R Q = WP V 175 21 [w0, w1, w2, .int x] (.int x :: st) t I L R Q := wp_go rfl
theorem i175_21 {x0 : Int32}  : WP V 175 21 ls [.int x0] t I L R Q = WPC V 173 [.int x0] 175 22 ls [] t I L R Q := wp_cls (wp_ics rfl (by decide)) (by decide) (Nat.le_of_ble_eq_true rfl) rfl rfl (Nat.le_of_ble_eq_true rfl) (Nat.le_of_ble_eq_true rfl)
theorem i175_22 {x : Int32} : WP V 175 22 ls (.int x :: st) t I L R Q = if x = nI 0 then WP V 175 25 ls st t I L R Q else WP V 175 23 ls st t I L R Q := wp_br (c := m_cc .eq x 0) rfl rfl
theorem i175_23  : WP V 175 23 ls st t I L R Q = WP V 175 24 ls (.int (nI 0) :: st) t I L R Q := wp_go rfl
theorem i175_24 {x : Int32} (h : m_01 x = true) : WP V 175 24 ls [.int x] t I L R Q = Q (some (.int x)) t I L R := wp_rtz rfl rfl h
theorem i175_25 {p : Int32} {w0 w1 : Value} {x : Int32} : WP V 175 25 [w0, w1, .int p, .int x] st t I L R Q = WP V 175 26 [w0, w1, .int p, .int (x + (nI 1))] st t I L R Q := wp_go rfl
theorem i175_26  : WP V 175 26 ls st t I L R Q = WP V 175 6 ls st t I L R Q := wp_go rfl
theorem i175_27 {w1 w2 w3 : Value} {x : Nat} : WP V 175 27 [.ref x, w1, w2, w3] st t I L R Q = WP V 175 28 [.ref x, w1, w2, w3] (.ref x :: st) t I L R Q := wp_go rfl
theorem i175_28 {k : Nat} (h1 : k < t) (h2 : m_ob k 8 = true) : WP V 175 28 ls (.ref k :: st) t I L R Q = WP V 175 29 ls (m_rv (R k 26) :: st) t I L R Q := wp_getR rfl (by decide) h1 h2
theorem i175_29 {w0 w1 w3 : Value} {x : Int32} : WP V 175 29 [w0, w1, .int x, w3] st t I L R Q = WP V 175 30 [w0, w1, .int x, w3] (.int x :: st) t I L R Q := wp_go rfl
theorem i175_30  : WP V 175 30 ls st t I L R Q = WP V 175 31 ls (.int (nI 0) :: st) t I L R Q := wp_go rfl
theorem i175_31  : WP V 175 31 ls st t I L R Q = WP V 175 32 ls (.int (nI 1) :: st) t I L R Q := wp_go rfl
theorem i175_32 {x0 : Int32} {x1 : Int32} {x2 : Int32} {x3 : Nat}  : WP V 175 32 ls [.int x0, .int x1, .int x2, .ref x3] t I L R Q = WPC V 174 [.ref x3, .int x2, .int x1, .int x0] 175 33 ls [] t I L R Q := wp_cls (wp_ics rfl (by decide)) (by decide) (Nat.le_of_ble_eq_true rfl) rfl rfl (Nat.le_of_ble_eq_true rfl) (Nat.le_of_ble_eq_true rfl)
theorem i175_33 {w1 w2 w3 : Value} {x : Nat} : WP V 175 33 [.ref x, w1, w2, w3] st t I L R Q = WP V 175 34 [.ref x, w1, w2, w3] (.ref x :: st) t I L R Q := wp_go rfl
theorem i175_34 {k : Nat} (h1 : k < t) (h2 : m_ob k 8 = true) : WP V 175 34 ls (.ref k :: st) t I L R Q = WP V 175 35 ls (m_rv (R k 0) :: st) t I L R Q := wp_getR rfl (by decide) h1 h2
theorem i175_35  : WP V 175 35 ls st t I L R Q = WP V 175 36 ls (.int (nI 0) :: st) t I L R Q := wp_go rfl
theorem i175_36  : WP V 175 36 ls st t I L R Q = WP V 175 37 ls (.int (nI 0) :: st) t I L R Q := wp_go rfl
theorem i175_37  : WP V 175 37 ls st t I L R Q = WP V 175 38 ls (.int (nI 1) :: st) t I L R Q := wp_go rfl
theorem i175_38 {x0 : Int32} {x1 : Int32} {x2 : Int32} {x3 : Nat} {r0 : Int32} : WP V 175 38 ls [.int x0, .int x1, .int x2, .ref x3, .int r0] t I L R Q = WPC V 174 [.ref x3, .int x2, .int x1, .int x0] 175 39 ls [.int r0] t I L R Q := wp_cls (wp_ics rfl (by decide)) (by decide) (Nat.le_of_ble_eq_true rfl) rfl rfl (Nat.le_of_ble_eq_true rfl) (Nat.le_of_ble_eq_true rfl)
theorem i175_39 {x y : Int32} : WP V 175 39 ls (.int y :: .int x :: st) t I L R Q = if x = y then WP V 175 40 ls st t I L R Q else WP V 175 68 ls st t I L R Q := wp_brn (c := m_cc .ne x y) rfl rfl
theorem i175_40 {w1 w2 w3 : Value} {x : Nat} : WP V 175 40 [.ref x, w1, w2, w3] st t I L R Q = WP V 175 41 [.ref x, w1, w2, w3] (.ref x :: st) t I L R Q := wp_go rfl
theorem i175_41 {k : Nat} (h1 : k < t) (h2 : m_ob k 8 = true) : WP V 175 41 ls (.ref k :: st) t I L R Q = WP V 175 42 ls (m_rv (R k 26) :: st) t I L R Q := wp_getR rfl (by decide) h1 h2
theorem i175_42 {w0 w1 w3 : Value} {x : Int32} : WP V 175 42 [w0, w1, .int x, w3] st t I L R Q = WP V 175 43 [w0, w1, .int x, w3] (.int x :: st) t I L R Q := wp_go rfl
theorem i175_43  : WP V 175 43 ls st t I L R Q = WP V 175 44 ls (.int (nI 0) :: st) t I L R Q := wp_go rfl
theorem i175_44  : WP V 175 44 ls st t I L R Q = WP V 175 45 ls (.int (nI 2) :: st) t I L R Q := wp_go rfl
theorem i175_45 {x0 : Int32} {x1 : Int32} {x2 : Int32} {x3 : Nat}  : WP V 175 45 ls [.int x0, .int x1, .int x2, .ref x3] t I L R Q = WPC V 174 [.ref x3, .int x2, .int x1, .int x0] 175 46 ls [] t I L R Q := wp_cls (wp_ics rfl (by decide)) (by decide) (Nat.le_of_ble_eq_true rfl) rfl rfl (Nat.le_of_ble_eq_true rfl) (Nat.le_of_ble_eq_true rfl)
theorem i175_46 {w1 w2 w3 : Value} {x : Nat} : WP V 175 46 [.ref x, w1, w2, w3] st t I L R Q = WP V 175 47 [.ref x, w1, w2, w3] (.ref x :: st) t I L R Q := wp_go rfl
theorem i175_47 {k : Nat} (h1 : k < t) (h2 : m_ob k 8 = true) : WP V 175 47 ls (.ref k :: st) t I L R Q = WP V 175 48 ls (m_rv (R k 0) :: st) t I L R Q := wp_getR rfl (by decide) h1 h2
theorem i175_48  : WP V 175 48 ls st t I L R Q = WP V 175 49 ls (.int (nI 0) :: st) t I L R Q := wp_go rfl
theorem i175_49  : WP V 175 49 ls st t I L R Q = WP V 175 50 ls (.int (nI 0) :: st) t I L R Q := wp_go rfl
theorem i175_50  : WP V 175 50 ls st t I L R Q = WP V 175 51 ls (.int (nI 2) :: st) t I L R Q := wp_go rfl
theorem i175_51 {x0 : Int32} {x1 : Int32} {x2 : Int32} {x3 : Nat} {r0 : Int32} : WP V 175 51 ls [.int x0, .int x1, .int x2, .ref x3, .int r0] t I L R Q = WPC V 174 [.ref x3, .int x2, .int x1, .int x0] 175 52 ls [.int r0] t I L R Q := wp_cls (wp_ics rfl (by decide)) (by decide) (Nat.le_of_ble_eq_true rfl) rfl rfl (Nat.le_of_ble_eq_true rfl) (Nat.le_of_ble_eq_true rfl)
theorem i175_52 {x y : Int32} : WP V 175 52 ls (.int y :: .int x :: st) t I L R Q = if x = y then WP V 175 53 ls st t I L R Q else WP V 175 68 ls st t I L R Q := wp_brn (c := m_cc .ne x y) rfl rfl
theorem i175_53 {w1 w2 w3 : Value} {x : Nat} : WP V 175 53 [.ref x, w1, w2, w3] st t I L R Q = WP V 175 54 [.ref x, w1, w2, w3] (.ref x :: st) t I L R Q := wp_go rfl
theorem i175_54 {k : Nat} (h1 : k < t) (h2 : m_ob k 8 = true) : WP V 175 54 ls (.ref k :: st) t I L R Q = WP V 175 55 ls (m_rv (R k 26) :: st) t I L R Q := wp_getR rfl (by decide) h1 h2
theorem i175_55 {w0 w1 w3 : Value} {x : Int32} : WP V 175 55 [w0, w1, .int x, w3] st t I L R Q = WP V 175 56 [w0, w1, .int x, w3] (.int x :: st) t I L R Q := wp_go rfl
theorem i175_56  : WP V 175 56 ls st t I L R Q = WP V 175 57 ls (.int (nI 1) :: st) t I L R Q := wp_go rfl
theorem i175_57  : WP V 175 57 ls st t I L R Q = WP V 175 58 ls (.int (nI 2) :: st) t I L R Q := wp_go rfl
theorem i175_58 {x0 : Int32} {x1 : Int32} {x2 : Int32} {x3 : Nat}  : WP V 175 58 ls [.int x0, .int x1, .int x2, .ref x3] t I L R Q = WPC V 174 [.ref x3, .int x2, .int x1, .int x0] 175 59 ls [] t I L R Q := wp_cls (wp_ics rfl (by decide)) (by decide) (Nat.le_of_ble_eq_true rfl) rfl rfl (Nat.le_of_ble_eq_true rfl) (Nat.le_of_ble_eq_true rfl)
theorem i175_59 {w1 w2 w3 : Value} {x : Nat} : WP V 175 59 [.ref x, w1, w2, w3] st t I L R Q = WP V 175 60 [.ref x, w1, w2, w3] (.ref x :: st) t I L R Q := wp_go rfl
theorem i175_60 {k : Nat} (h1 : k < t) (h2 : m_ob k 8 = true) : WP V 175 60 ls (.ref k :: st) t I L R Q = WP V 175 61 ls (m_rv (R k 0) :: st) t I L R Q := wp_getR rfl (by decide) h1 h2
theorem i175_61  : WP V 175 61 ls st t I L R Q = WP V 175 62 ls (.int (nI 0) :: st) t I L R Q := wp_go rfl
theorem i175_62  : WP V 175 62 ls st t I L R Q = WP V 175 63 ls (.int (nI 1) :: st) t I L R Q := wp_go rfl
theorem i175_63  : WP V 175 63 ls st t I L R Q = WP V 175 64 ls (.int (nI 2) :: st) t I L R Q := wp_go rfl
theorem i175_64 {x0 : Int32} {x1 : Int32} {x2 : Int32} {x3 : Nat} {r0 : Int32} : WP V 175 64 ls [.int x0, .int x1, .int x2, .ref x3, .int r0] t I L R Q = WPC V 174 [.ref x3, .int x2, .int x1, .int x0] 175 65 ls [.int r0] t I L R Q := wp_cls (wp_ics rfl (by decide)) (by decide) (Nat.le_of_ble_eq_true rfl) rfl rfl (Nat.le_of_ble_eq_true rfl) (Nat.le_of_ble_eq_true rfl)
theorem i175_65 {x y : Int32} : WP V 175 65 ls (.int y :: .int x :: st) t I L R Q = if x = y then WP V 175 66 ls st t I L R Q else WP V 175 68 ls st t I L R Q := wp_brn (c := m_cc .ne x y) rfl rfl
theorem i175_66  : WP V 175 66 ls st t I L R Q = WP V 175 67 ls (.int (nI 1) :: st) t I L R Q := wp_go rfl
theorem i175_67  : WP V 175 67 ls st t I L R Q = WP V 175 69 ls st t I L R Q := wp_go rfl
theorem i175_68  : WP V 175 68 ls st t I L R Q = WP V 175 69 ls (.int (nI 0) :: st) t I L R Q := wp_go rfl
theorem i175_69 {x : Int32} (h : m_01 x = true) : WP V 175 69 ls [.int x] t I L R Q = Q (some (.int x)) t I L R := wp_rtz rfl rfl h
-- TransactionCellsModel.isMet()Z
theorem i176_0  : WP V 176 0 ls st t I L R Q = WP V 176 1 ls (.int (nI 0) :: st) t I L R Q := wp_go rfl
theorem i176_1 {p : Nat} {w1 w2 : Value} {x : Int32} : WP V 176 1 [.ref p, w1, w2] (.int x :: st) t I L R Q = WP V 176 2 [.ref p, .int x, w2] st t I L R Q := wp_go rfl
theorem i176_2  : WP V 176 2 ls st t I L R Q = WP V 176 3 ls (.int (nI 0) :: st) t I L R Q := wp_go rfl
theorem i176_3 {p : Int32} {w0 w2 : Value} {x : Int32} : WP V 176 3 [w0, .int p, w2] (.int x :: st) t I L R Q = WP V 176 4 [w0, .int p, .int x] st t I L R Q := wp_go rfl
theorem i176_4 {w0 w1 : Value} {x : Int32} : WP V 176 4 [w0, w1, .int x] st t I L R Q = WP V 176 5 [w0, w1, .int x] (.int x :: st) t I L R Q := wp_go rfl
theorem i176_5 {w1 w2 : Value} {x : Nat} : WP V 176 5 [.ref x, w1, w2] st t I L R Q = WP V 176 6 [.ref x, w1, w2] (.ref x :: st) t I L R Q := wp_go rfl
theorem i176_6 {k : Nat} (h1 : k < t) (h2 : m_ob k 8 = true) : WP V 176 6 ls (.ref k :: st) t I L R Q = WP V 176 7 ls (.int (I k 27) :: st) t I L R Q := wp_getI rfl (by decide) h1 h2
theorem i176_7 {x y : Int32} : WP V 176 7 ls (.int y :: .int x :: st) t I L R Q = if y ≤ x then WP V 176 16 ls st t I L R Q else WP V 176 8 ls st t I L R Q := wp_br (c := m_cc .ge x y) rfl rfl
theorem i176_8 {w0 w2 : Value} {x : Int32} : WP V 176 8 [w0, .int x, w2] st t I L R Q = WP V 176 9 [w0, .int x, w2] (.int x :: st) t I L R Q := wp_go rfl
theorem i176_9 {x : Int32} : WP V 176 9 ls (.int x :: st) t I L R Q = if x = nI 0 then WP V 176 10 ls st t I L R Q else WP V 176 16 ls st t I L R Q := wp_brn (c := m_cc .ne x 0) rfl rfl
theorem i176_10 {w1 w2 : Value} {x : Nat} : WP V 176 10 [.ref x, w1, w2] st t I L R Q = WP V 176 11 [.ref x, w1, w2] (.ref x :: st) t I L R Q := wp_go rfl
theorem i176_11 {w0 w1 : Value} {x : Int32} : WP V 176 11 [w0, w1, .int x] st t I L R Q = WP V 176 12 [w0, w1, .int x] (.int x :: st) t I L R Q := wp_go rfl
theorem i176_12 {x0 : Int32} {x1 : Nat}  (h1 : x1 < t) (h2 : m_ob x1 8 = true) : WP V 176 12 ls [.int x0, .ref x1] t I L R Q = WPC V 175 [.ref x1, .int x0] 176 13 ls [] t I L R Q := wp_cls (wp_icv rfl rfl h1 h2) (by decide) (Nat.le_of_ble_eq_true rfl) rfl rfl (Nat.le_of_ble_eq_true rfl) (Nat.le_of_ble_eq_true rfl)
theorem i176_13 {p : Nat} {w1 w2 : Value} {x : Int32} : WP V 176 13 [.ref p, w1, w2] (.int x :: st) t I L R Q = WP V 176 14 [.ref p, .int x, w2] st t I L R Q := wp_go rfl
theorem i176_14 {p : Int32} {w0 : Value} {x : Int32} : WP V 176 14 [w0, .int p, .int x] st t I L R Q = WP V 176 15 [w0, .int p, .int (x + (nI 1))] st t I L R Q := wp_go rfl
theorem i176_15  : WP V 176 15 ls st t I L R Q = WP V 176 4 ls st t I L R Q := wp_go rfl
theorem i176_16 {w0 w2 : Value} {x : Int32} : WP V 176 16 [w0, .int x, w2] st t I L R Q = WP V 176 17 [w0, .int x, w2] (.int x :: st) t I L R Q := wp_go rfl
theorem i176_17 {x : Int32} (h : m_01 x = true) : WP V 176 17 ls [.int x] t I L R Q = Q (some (.int x)) t I L R := wp_rtz rfl rfl h
-- TransactionCellsModel.take(I)V
theorem i177_0  : WP V 177 0 ls st t I L R Q = WP V 177 1 ls (.int (nI 0) :: st) t I L R Q := wp_go rfl
theorem i177_1 {p : Int32} {w0 w2 : Value} {x : Int32} : WP V 177 1 [w0, .int p, w2] (.int x :: st) t I L R Q = WP V 177 2 [w0, .int p, .int x] st t I L R Q := wp_go rfl
theorem i177_2 {w0 w1 : Value} {x : Int32} : WP V 177 2 [w0, w1, .int x] st t I L R Q = WP V 177 3 [w0, w1, .int x] (.int x :: st) t I L R Q := wp_go rfl
theorem i177_3  : WP V 177 3 ls st t I L R Q = WP V 177 4 ls (.int (nI 612) :: st) t I L R Q := wp_go rfl
theorem i177_4 {x y : Int32} : WP V 177 4 ls (.int y :: .int x :: st) t I L R Q = if y ≤ x then WP V 177 19 ls st t I L R Q else WP V 177 5 ls st t I L R Q := wp_br (c := m_cc .ge x y) rfl rfl
theorem i177_5 {w1 w2 : Value} {x : Nat} : WP V 177 5 [.ref x, w1, w2] st t I L R Q = WP V 177 6 [.ref x, w1, w2] (.ref x :: st) t I L R Q := wp_go rfl
theorem i177_6 {k : Nat} (h1 : k < t) (h2 : m_ob k 8 = true) : WP V 177 6 ls (.ref k :: st) t I L R Q = WP V 177 7 ls (m_rv (R k 0) :: st) t I L R Q := wp_getR rfl (by decide) h1 h2
theorem i177_7 {w0 w1 : Value} {x : Int32} : WP V 177 7 [w0, w1, .int x] st t I L R Q = WP V 177 8 [w0, w1, .int x] (.int x :: st) t I L R Q := wp_go rfl
theorem i177_8 {w1 w2 : Value} {x : Nat} : WP V 177 8 [.ref x, w1, w2] st t I L R Q = WP V 177 9 [.ref x, w1, w2] (.ref x :: st) t I L R Q := wp_go rfl
theorem i177_9 {k : Nat} (h1 : k < t) (h2 : m_ob k 8 = true) : WP V 177 9 ls (.ref k :: st) t I L R Q = WP V 177 10 ls (m_rv (R k 26) :: st) t I L R Q := wp_getR rfl (by decide) h1 h2
theorem i177_10  : WP V 177 10 ls st t I L R Q = WP V 177 11 ls (.int (nI 612) :: st) t I L R Q := wp_go rfl
theorem i177_11 {w0 w2 : Value} {x : Int32} : WP V 177 11 [w0, .int x, w2] st t I L R Q = WP V 177 12 [w0, .int x, w2] (.int x :: st) t I L R Q := wp_go rfl
theorem i177_12 {x y : Int32} : WP V 177 12 ls (.int y :: .int x :: st) t I L R Q = WP V 177 13 ls (.int (x * y) :: st) t I L R Q := wp_go rfl
theorem i177_13 {w0 w1 : Value} {x : Int32} : WP V 177 13 [w0, w1, .int x] st t I L R Q = WP V 177 14 [w0, w1, .int x] (.int x :: st) t I L R Q := wp_go rfl
theorem i177_14 {x y : Int32} : WP V 177 14 ls (.int y :: .int x :: st) t I L R Q = WP V 177 15 ls (.int (x + y) :: st) t I L R Q := wp_go rfl
theorem i177_15 {k j : Nat} (h2 : m_ar k 2 246000 = true) (h1 : k < t) (h3 : j < 246000) : WP V 177 15 ls (.int (nI j) :: .ref k :: st) t I L R Q = WP V 177 16 ls (.int (I k j) :: st) t I L R Q := wp_iaload rfl (by decide) h1 h2 h3
theorem i177_16 {k j : Nat} {x : Int32} (h2 : m_ar k 2 612 = true) (h1 : k < t) (h3 : j < 612) : WP V 177 16 ls (.int x :: .int (nI j) :: .ref k :: st) t I L R Q = WP V 177 17 ls st t (m_sc I k (m_sc (I k) j x)) L R Q := wp_iastore rfl (by decide) h1 h2 h3
theorem i177_17 {p : Int32} {w0 : Value} {x : Int32} : WP V 177 17 [w0, .int p, .int x] st t I L R Q = WP V 177 18 [w0, .int p, .int (x + (nI 1))] st t I L R Q := wp_go rfl
theorem i177_18  : WP V 177 18 ls st t I L R Q = WP V 177 2 ls st t I L R Q := wp_go rfl
theorem i177_19  : WP V 177 19 ls [] t I L R Q = Q none t I L R := wp_rtv rfl rfl
-- TransactionCellsModel.noteEnd(I)V
theorem i178_0  : WP V 178 0 ls st t I L R Q = WP V 178 1 ls (.int (nI 19) :: st) t I L R Q := wp_go rfl
theorem i178_1 {w1 w2 w3 w4 w5 : Value} {x : Nat} : WP V 178 1 [.ref x, w1, w2, w3, w4, w5] st t I L R Q = WP V 178 2 [.ref x, w1, w2, w3, w4, w5] (.ref x :: st) t I L R Q := wp_go rfl
theorem i178_2 {k : Nat} (h1 : k < t) (h2 : m_ob k 8 = true) : WP V 178 2 ls (.ref k :: st) t I L R Q = WP V 178 3 ls (.int (I k 32) :: st) t I L R Q := wp_getI rfl (by decide) h1 h2
theorem i178_3 {x y : Int32} : WP V 178 3 ls (.int y :: .int x :: st) t I L R Q = WP V 178 4 ls (.int (x * y) :: st) t I L R Q := wp_go rfl
theorem i178_4 {p : Int32} {w0 w2 w3 w4 w5 : Value} {x : Int32} : WP V 178 4 [w0, .int p, w2, w3, w4, w5] (.int x :: st) t I L R Q = WP V 178 5 [w0, .int p, .int x, w3, w4, w5] st t I L R Q := wp_go rfl
theorem i178_5  : WP V 178 5 ls st t I L R Q = WP V 178 6 ls (.int (nI 0) :: st) t I L R Q := wp_go rfl
theorem i178_6 {p : Int32} {w0 w1 w3 w4 w5 : Value} {x : Int32} : WP V 178 6 [w0, w1, .int p, w3, w4, w5] (.int x :: st) t I L R Q = WP V 178 7 [w0, w1, .int p, .int x, w4, w5] st t I L R Q := wp_go rfl
theorem i178_7 {w0 w1 w2 w4 w5 : Value} {x : Int32} : WP V 178 7 [w0, w1, w2, .int x, w4, w5] st t I L R Q = WP V 178 8 [w0, w1, w2, .int x, w4, w5] (.int x :: st) t I L R Q := wp_go rfl
theorem i178_8  : WP V 178 8 ls st t I L R Q = WP V 178 9 ls (.int (nI 8) :: st) t I L R Q := wp_go rfl
theorem i178_9 {x y : Int32} : WP V 178 9 ls (.int y :: .int x :: st) t I L R Q = if y ≤ x then WP V 178 46 ls st t I L R Q else WP V 178 10 ls st t I L R Q := wp_br (c := m_cc .ge x y) rfl rfl
theorem i178_10 {w1 w2 w3 w4 w5 : Value} {x : Nat} : WP V 178 10 [.ref x, w1, w2, w3, w4, w5] st t I L R Q = WP V 178 11 [.ref x, w1, w2, w3, w4, w5] (.ref x :: st) t I L R Q := wp_go rfl
theorem i178_11 {k : Nat} (h1 : k < t) (h2 : m_ob k 8 = true) : WP V 178 11 ls (.ref k :: st) t I L R Q = WP V 178 12 ls (m_rv (R k 31) :: st) t I L R Q := wp_getR rfl (by decide) h1 h2
theorem i178_12 {w0 w1 w3 w4 w5 : Value} {x : Int32} : WP V 178 12 [w0, w1, .int x, w3, w4, w5] st t I L R Q = WP V 178 13 [w0, w1, .int x, w3, w4, w5] (.int x :: st) t I L R Q := wp_go rfl
theorem i178_13 {w0 w1 w2 w4 w5 : Value} {x : Int32} : WP V 178 13 [w0, w1, w2, .int x, w4, w5] st t I L R Q = WP V 178 14 [w0, w1, w2, .int x, w4, w5] (.int x :: st) t I L R Q := wp_go rfl
theorem i178_14 {x y : Int32} : WP V 178 14 ls (.int y :: .int x :: st) t I L R Q = WP V 178 15 ls (.int (x + y) :: st) t I L R Q := wp_go rfl
theorem i178_15 {w1 w2 w3 w4 w5 : Value} {x : Nat} : WP V 178 15 [.ref x, w1, w2, w3, w4, w5] st t I L R Q = WP V 178 16 [.ref x, w1, w2, w3, w4, w5] (.ref x :: st) t I L R Q := wp_go rfl
theorem i178_16 {k : Nat} (h1 : k < t) (h2 : m_ob k 8 = true) : WP V 178 16 ls (.ref k :: st) t I L R Q = WP V 178 17 ls (m_rv (R k 26) :: st) t I L R Q := wp_getR rfl (by decide) h1 h2
theorem i178_17  : WP V 178 17 ls st t I L R Q = WP V 178 18 ls (.int (nI 612) :: st) t I L R Q := wp_go rfl
theorem i178_18 {w0 w2 w3 w4 w5 : Value} {x : Int32} : WP V 178 18 [w0, .int x, w2, w3, w4, w5] st t I L R Q = WP V 178 19 [w0, .int x, w2, w3, w4, w5] (.int x :: st) t I L R Q := wp_go rfl
theorem i178_19 {x y : Int32} : WP V 178 19 ls (.int y :: .int x :: st) t I L R Q = WP V 178 20 ls (.int (x * y) :: st) t I L R Q := wp_go rfl
theorem i178_20 {w0 w1 w2 w4 w5 : Value} {x : Int32} : WP V 178 20 [w0, w1, w2, .int x, w4, w5] st t I L R Q = WP V 178 21 [w0, w1, w2, .int x, w4, w5] (.int x :: st) t I L R Q := wp_go rfl
theorem i178_21 {x0 : Int32} {r0 : Int32} {r1 : Nat} {r2 : Int32} {r3 : Nat} : WP V 178 21 ls [.int x0, .int r0, .ref r1, .int r2, .ref r3] t I L R Q = WPC V 112 [.int x0] 178 22 ls [.int r0, .ref r1, .int r2, .ref r3] t I L R Q := wp_cls (wp_ics rfl (by decide)) (by decide) (Nat.le_of_ble_eq_true rfl) rfl rfl (Nat.le_of_ble_eq_true rfl) (Nat.le_of_ble_eq_true rfl)
theorem i178_22 {x y : Int32} : WP V 178 22 ls (.int y :: .int x :: st) t I L R Q = WP V 178 23 ls (.int (x + y) :: st) t I L R Q := wp_go rfl
theorem i178_23 {k j : Nat} (h2 : m_ar k 2 246000 = true) (h1 : k < t) (h3 : j < 246000) : WP V 178 23 ls (.int (nI j) :: .ref k :: st) t I L R Q = WP V 178 24 ls (.int (I k j) :: st) t I L R Q := wp_iaload rfl (by decide) h1 h2 h3
theorem i178_24 {k j : Nat} {x : Int32} (h2 : m_ar k 2 7700 = true) (h1 : k < t) (h3 : j < 7700) : WP V 178 24 ls (.int x :: .int (nI j) :: .ref k :: st) t I L R Q = WP V 178 25 ls st t (m_sc I k (m_sc (I k) j x)) L R Q := wp_iastore rfl (by decide) h1 h2 h3
theorem i178_25 {w1 w2 w3 w4 w5 : Value} {x : Nat} : WP V 178 25 [.ref x, w1, w2, w3, w4, w5] st t I L R Q = WP V 178 26 [.ref x, w1, w2, w3, w4, w5] (.ref x :: st) t I L R Q := wp_go rfl
theorem i178_26 {k : Nat} (h1 : k < t) (h2 : m_ob k 8 = true) : WP V 178 26 ls (.ref k :: st) t I L R Q = WP V 178 27 ls (m_rv (R k 31) :: st) t I L R Q := wp_getR rfl (by decide) h1 h2
theorem i178_27 {w0 w1 w3 w4 w5 : Value} {x : Int32} : WP V 178 27 [w0, w1, .int x, w3, w4, w5] st t I L R Q = WP V 178 28 [w0, w1, .int x, w3, w4, w5] (.int x :: st) t I L R Q := wp_go rfl
theorem i178_28  : WP V 178 28 ls st t I L R Q = WP V 178 29 ls (.int (nI 8) :: st) t I L R Q := wp_go rfl
theorem i178_29 {x y : Int32} : WP V 178 29 ls (.int y :: .int x :: st) t I L R Q = WP V 178 30 ls (.int (x + y) :: st) t I L R Q := wp_go rfl
theorem i178_30 {w0 w1 w2 w4 w5 : Value} {x : Int32} : WP V 178 30 [w0, w1, w2, .int x, w4, w5] st t I L R Q = WP V 178 31 [w0, w1, w2, .int x, w4, w5] (.int x :: st) t I L R Q := wp_go rfl
theorem i178_31 {x y : Int32} : WP V 178 31 ls (.int y :: .int x :: st) t I L R Q = WP V 178 32 ls (.int (x + y) :: st) t I L R Q := wp_go rfl
theorem i178_32 {w1 w2 w3 w4 w5 : Value} {x : Nat} : WP V 178 32 [.ref x, w1, w2, w3, w4, w5] st t I L R Q = WP V 178 33 [.ref x, w1, w2, w3, w4, w5] (.ref x :: st) t I L R Q := wp_go rfl
theorem i178_33 {k : Nat} (h1 : k < t) (h2 : m_ob k 8 = true) : WP V 178 33 ls (.ref k :: st) t I L R Q = WP V 178 34 ls (m_rv (R k 26) :: st) t I L R Q := wp_getR rfl (by decide) h1 h2
theorem i178_34  : WP V 178 34 ls st t I L R Q = WP V 178 35 ls (.int (nI 612) :: st) t I L R Q := wp_go rfl
theorem i178_35 {w0 w2 w3 w4 w5 : Value} {x : Int32} : WP V 178 35 [w0, .int x, w2, w3, w4, w5] st t I L R Q = WP V 178 36 [w0, .int x, w2, w3, w4, w5] (.int x :: st) t I L R Q := wp_go rfl
theorem i178_36 {x y : Int32} : WP V 178 36 ls (.int y :: .int x :: st) t I L R Q = WP V 178 37 ls (.int (x * y) :: st) t I L R Q := wp_go rfl
theorem i178_37 {w0 w1 w2 w4 w5 : Value} {x : Int32} : WP V 178 37 [w0, w1, w2, .int x, w4, w5] st t I L R Q = WP V 178 38 [w0, w1, w2, .int x, w4, w5] (.int x :: st) t I L R Q := wp_go rfl
theorem i178_38 {x0 : Int32} {r0 : Int32} {r1 : Nat} {r2 : Int32} {r3 : Nat} : WP V 178 38 ls [.int x0, .int r0, .ref r1, .int r2, .ref r3] t I L R Q = WPC V 112 [.int x0] 178 39 ls [.int r0, .ref r1, .int r2, .ref r3] t I L R Q := wp_cls (wp_ics rfl (by decide)) (by decide) (Nat.le_of_ble_eq_true rfl) rfl rfl (Nat.le_of_ble_eq_true rfl) (Nat.le_of_ble_eq_true rfl)
theorem i178_39 {x y : Int32} : WP V 178 39 ls (.int y :: .int x :: st) t I L R Q = WP V 178 40 ls (.int (x + y) :: st) t I L R Q := wp_go rfl
theorem i178_40  : WP V 178 40 ls st t I L R Q = WP V 178 41 ls (.int (nI 1) :: st) t I L R Q := wp_go rfl
theorem i178_41 {x y : Int32} : WP V 178 41 ls (.int y :: .int x :: st) t I L R Q = WP V 178 42 ls (.int (x + y) :: st) t I L R Q := wp_go rfl
theorem i178_42 {k j : Nat} (h2 : m_ar k 2 246000 = true) (h1 : k < t) (h3 : j < 246000) : WP V 178 42 ls (.int (nI j) :: .ref k :: st) t I L R Q = WP V 178 43 ls (.int (I k j) :: st) t I L R Q := wp_iaload rfl (by decide) h1 h2 h3
theorem i178_43 {k j : Nat} {x : Int32} (h2 : m_ar k 2 7700 = true) (h1 : k < t) (h3 : j < 7700) : WP V 178 43 ls (.int x :: .int (nI j) :: .ref k :: st) t I L R Q = WP V 178 44 ls st t (m_sc I k (m_sc (I k) j x)) L R Q := wp_iastore rfl (by decide) h1 h2 h3
theorem i178_44 {p : Int32} {w0 w1 w4 w5 : Value} {x : Int32} : WP V 178 44 [w0, w1, .int p, .int x, w4, w5] st t I L R Q = WP V 178 45 [w0, w1, .int p, .int (x + (nI 1)), w4, w5] st t I L R Q := wp_go rfl
theorem i178_45  : WP V 178 45 ls st t I L R Q = WP V 178 7 ls st t I L R Q := wp_go rfl
theorem i178_46  : WP V 178 46 ls st t I L R Q = WP V 178 47 ls (.int (nI 0) :: st) t I L R Q := wp_go rfl
theorem i178_47 {p : Int32} {w0 w1 w3 w4 w5 : Value} {x : Int32} : WP V 178 47 [w0, w1, .int p, w3, w4, w5] (.int x :: st) t I L R Q = WP V 178 48 [w0, w1, .int p, .int x, w4, w5] st t I L R Q := wp_go rfl
theorem i178_48 {w0 w1 w2 w4 w5 : Value} {x : Int32} : WP V 178 48 [w0, w1, w2, .int x, w4, w5] st t I L R Q = WP V 178 49 [w0, w1, w2, .int x, w4, w5] (.int x :: st) t I L R Q := wp_go rfl
theorem i178_49  : WP V 178 49 ls st t I L R Q = WP V 178 50 ls (.int (nI 3) :: st) t I L R Q := wp_go rfl
theorem i178_50 {x y : Int32} : WP V 178 50 ls (.int y :: .int x :: st) t I L R Q = if y ≤ x then WP V 178 72 ls st t I L R Q else WP V 178 51 ls st t I L R Q := wp_br (c := m_cc .ge x y) rfl rfl
theorem i178_51 {w1 w2 w3 w4 w5 : Value} {x : Nat} : WP V 178 51 [.ref x, w1, w2, w3, w4, w5] st t I L R Q = WP V 178 52 [.ref x, w1, w2, w3, w4, w5] (.ref x :: st) t I L R Q := wp_go rfl
theorem i178_52 {k : Nat} (h1 : k < t) (h2 : m_ob k 8 = true) : WP V 178 52 ls (.ref k :: st) t I L R Q = WP V 178 53 ls (m_rv (R k 31) :: st) t I L R Q := wp_getR rfl (by decide) h1 h2
theorem i178_53 {w0 w1 w3 w4 w5 : Value} {x : Int32} : WP V 178 53 [w0, w1, .int x, w3, w4, w5] st t I L R Q = WP V 178 54 [w0, w1, .int x, w3, w4, w5] (.int x :: st) t I L R Q := wp_go rfl
theorem i178_54  : WP V 178 54 ls st t I L R Q = WP V 178 55 ls (.int (nI 16) :: st) t I L R Q := wp_go rfl
theorem i178_55 {x y : Int32} : WP V 178 55 ls (.int y :: .int x :: st) t I L R Q = WP V 178 56 ls (.int (x + y) :: st) t I L R Q := wp_go rfl
theorem i178_56 {w0 w1 w2 w4 w5 : Value} {x : Int32} : WP V 178 56 [w0, w1, w2, .int x, w4, w5] st t I L R Q = WP V 178 57 [w0, w1, w2, .int x, w4, w5] (.int x :: st) t I L R Q := wp_go rfl
theorem i178_57 {x y : Int32} : WP V 178 57 ls (.int y :: .int x :: st) t I L R Q = WP V 178 58 ls (.int (x + y) :: st) t I L R Q := wp_go rfl
theorem i178_58 {w1 w2 w3 w4 w5 : Value} {x : Nat} : WP V 178 58 [.ref x, w1, w2, w3, w4, w5] st t I L R Q = WP V 178 59 [.ref x, w1, w2, w3, w4, w5] (.ref x :: st) t I L R Q := wp_go rfl
theorem i178_59 {k : Nat} (h1 : k < t) (h2 : m_ob k 8 = true) : WP V 178 59 ls (.ref k :: st) t I L R Q = WP V 178 60 ls (m_rv (R k 26) :: st) t I L R Q := wp_getR rfl (by decide) h1 h2
theorem i178_60  : WP V 178 60 ls st t I L R Q = WP V 178 61 ls (.int (nI 612) :: st) t I L R Q := wp_go rfl
theorem i178_61 {w0 w2 w3 w4 w5 : Value} {x : Int32} : WP V 178 61 [w0, .int x, w2, w3, w4, w5] st t I L R Q = WP V 178 62 [w0, .int x, w2, w3, w4, w5] (.int x :: st) t I L R Q := wp_go rfl
theorem i178_62 {x y : Int32} : WP V 178 62 ls (.int y :: .int x :: st) t I L R Q = WP V 178 63 ls (.int (x * y) :: st) t I L R Q := wp_go rfl
theorem i178_63 {w0 w1 w2 w4 w5 : Value} {x : Int32} : WP V 178 63 [w0, w1, w2, .int x, w4, w5] st t I L R Q = WP V 178 64 [w0, w1, w2, .int x, w4, w5] (.int x :: st) t I L R Q := wp_go rfl
theorem i178_64 {x0 : Int32} {r0 : Int32} {r1 : Nat} {r2 : Int32} {r3 : Nat} : WP V 178 64 ls [.int x0, .int r0, .ref r1, .int r2, .ref r3] t I L R Q = WPC V 113 [.int x0] 178 65 ls [.int r0, .ref r1, .int r2, .ref r3] t I L R Q := wp_cls (wp_ics rfl (by decide)) (by decide) (Nat.le_of_ble_eq_true rfl) rfl rfl (Nat.le_of_ble_eq_true rfl) (Nat.le_of_ble_eq_true rfl)
theorem i178_65 {x y : Int32} : WP V 178 65 ls (.int y :: .int x :: st) t I L R Q = WP V 178 66 ls (.int (x + y) :: st) t I L R Q := wp_go rfl
theorem i178_66  : WP V 178 66 ls st t I L R Q = WP V 178 67 ls (.int (nI 0) :: st) t I L R Q := wp_go rfl
theorem i178_67 {x y : Int32} : WP V 178 67 ls (.int y :: .int x :: st) t I L R Q = WP V 178 68 ls (.int (x + y) :: st) t I L R Q := wp_go rfl
theorem i178_68 {k j : Nat} (h2 : m_ar k 2 246000 = true) (h1 : k < t) (h3 : j < 246000) : WP V 178 68 ls (.int (nI j) :: .ref k :: st) t I L R Q = WP V 178 69 ls (.int (I k j) :: st) t I L R Q := wp_iaload rfl (by decide) h1 h2 h3
theorem i178_69 {k j : Nat} {x : Int32} (h2 : m_ar k 2 7700 = true) (h1 : k < t) (h3 : j < 7700) : WP V 178 69 ls (.int x :: .int (nI j) :: .ref k :: st) t I L R Q = WP V 178 70 ls st t (m_sc I k (m_sc (I k) j x)) L R Q := wp_iastore rfl (by decide) h1 h2 h3
theorem i178_70 {p : Int32} {w0 w1 w4 w5 : Value} {x : Int32} : WP V 178 70 [w0, w1, .int p, .int x, w4, w5] st t I L R Q = WP V 178 71 [w0, w1, .int p, .int (x + (nI 1)), w4, w5] st t I L R Q := wp_go rfl
theorem i178_71  : WP V 178 71 ls st t I L R Q = WP V 178 48 ls st t I L R Q := wp_go rfl
theorem i178_72  : WP V 178 72 ls st t I L R Q = WP V 178 73 ls (.int (nI 0) :: st) t I L R Q := wp_go rfl
theorem i178_73 {p : Int32} {w0 w1 w3 w4 w5 : Value} {x : Int32} : WP V 178 73 [w0, w1, .int p, w3, w4, w5] (.int x :: st) t I L R Q = WP V 178 74 [w0, w1, .int p, .int x, w4, w5] st t I L R Q := wp_go rfl
theorem i178_74 {w0 w1 w2 w4 w5 : Value} {x : Int32} : WP V 178 74 [w0, w1, w2, .int x, w4, w5] st t I L R Q = WP V 178 75 [w0, w1, w2, .int x, w4, w5] (.int x :: st) t I L R Q := wp_go rfl
theorem i178_75 {w1 w2 w3 w4 w5 : Value} {x : Nat} : WP V 178 75 [.ref x, w1, w2, w3, w4, w5] st t I L R Q = WP V 178 76 [.ref x, w1, w2, w3, w4, w5] (.ref x :: st) t I L R Q := wp_go rfl
theorem i178_76 {k : Nat} (h1 : k < t) (h2 : m_ob k 8 = true) : WP V 178 76 ls (.ref k :: st) t I L R Q = WP V 178 77 ls (.int (I k 32) :: st) t I L R Q := wp_getI rfl (by decide) h1 h2
theorem i178_77 {x y : Int32} : WP V 178 77 ls (.int y :: .int x :: st) t I L R Q = if y ≤ x then WP V 178 113 ls st t I L R Q else WP V 178 78 ls st t I L R Q := wp_br (c := m_cc .ge x y) rfl rfl
theorem i178_78  : WP V 178 78 ls st t I L R Q = WP V 178 79 ls (.int (nI 1) :: st) t I L R Q := wp_go rfl
theorem i178_79 {p : Int32} {w0 w1 w2 w4 w5 : Value} {x : Int32} : WP V 178 79 [w0, w1, w2, .int p, w4, w5] (.int x :: st) t I L R Q = WP V 178 80 [w0, w1, w2, .int p, .int x, w5] st t I L R Q := wp_go rfl
theorem i178_80  : WP V 178 80 ls st t I L R Q = WP V 178 81 ls (.int (nI 0) :: st) t I L R Q := wp_go rfl
theorem i178_81 {p : Int32} {w0 w1 w2 w3 w5 : Value} {x : Int32} : WP V 178 81 [w0, w1, w2, w3, .int p, w5] (.int x :: st) t I L R Q = WP V 178 82 [w0, w1, w2, w3, .int p, .int x] st t I L R Q := wp_go rfl
theorem i178_82 {w0 w1 w2 w3 w4 : Value} {x : Int32} : WP V 178 82 [w0, w1, w2, w3, w4, .int x] st t I L R Q = WP V 178 83 [w0, w1, w2, w3, w4, .int x] (.int x :: st) t I L R Q := wp_go rfl
theorem i178_83  : WP V 178 83 ls st t I L R Q = WP V 178 84 ls (.int (nI 19) :: st) t I L R Q := wp_go rfl
theorem i178_84 {x y : Int32} : WP V 178 84 ls (.int y :: .int x :: st) t I L R Q = if y ≤ x then WP V 178 108 ls st t I L R Q else WP V 178 85 ls st t I L R Q := wp_br (c := m_cc .ge x y) rfl rfl
theorem i178_85 {w0 w1 w2 w3 w5 : Value} {x : Int32} : WP V 178 85 [w0, w1, w2, w3, .int x, w5] st t I L R Q = WP V 178 86 [w0, w1, w2, w3, .int x, w5] (.int x :: st) t I L R Q := wp_go rfl
theorem i178_86 {x : Int32} : WP V 178 86 ls (.int x :: st) t I L R Q = if x = nI 0 then WP V 178 104 ls st t I L R Q else WP V 178 87 ls st t I L R Q := wp_br (c := m_cc .eq x 0) rfl rfl
theorem i178_87 {w1 w2 w3 w4 w5 : Value} {x : Nat} : WP V 178 87 [.ref x, w1, w2, w3, w4, w5] st t I L R Q = WP V 178 88 [.ref x, w1, w2, w3, w4, w5] (.ref x :: st) t I L R Q := wp_go rfl
theorem i178_88 {k : Nat} (h1 : k < t) (h2 : m_ob k 8 = true) : WP V 178 88 ls (.ref k :: st) t I L R Q = WP V 178 89 ls (m_rv (R k 31) :: st) t I L R Q := wp_getR rfl (by decide) h1 h2
theorem i178_89  : WP V 178 89 ls st t I L R Q = WP V 178 90 ls (.int (nI 19) :: st) t I L R Q := wp_go rfl
theorem i178_90 {w0 w1 w2 w4 w5 : Value} {x : Int32} : WP V 178 90 [w0, w1, w2, .int x, w4, w5] st t I L R Q = WP V 178 91 [w0, w1, w2, .int x, w4, w5] (.int x :: st) t I L R Q := wp_go rfl
theorem i178_91 {x y : Int32} : WP V 178 91 ls (.int y :: .int x :: st) t I L R Q = WP V 178 92 ls (.int (x * y) :: st) t I L R Q := wp_go rfl
theorem i178_92 {w0 w1 w2 w3 w4 : Value} {x : Int32} : WP V 178 92 [w0, w1, w2, w3, w4, .int x] st t I L R Q = WP V 178 93 [w0, w1, w2, w3, w4, .int x] (.int x :: st) t I L R Q := wp_go rfl
theorem i178_93 {x y : Int32} : WP V 178 93 ls (.int y :: .int x :: st) t I L R Q = WP V 178 94 ls (.int (x + y) :: st) t I L R Q := wp_go rfl
theorem i178_94 {k j : Nat} (h2 : m_ar k 2 7700 = true) (h1 : k < t) (h3 : j < 7700) : WP V 178 94 ls (.int (nI j) :: .ref k :: st) t I L R Q = WP V 178 95 ls (.int (I k j) :: st) t I L R Q := wp_iaload rfl (by decide) h1 h2 h3
theorem i178_95 {w1 w2 w3 w4 w5 : Value} {x : Nat} : WP V 178 95 [.ref x, w1, w2, w3, w4, w5] st t I L R Q = WP V 178 96 [.ref x, w1, w2, w3, w4, w5] (.ref x :: st) t I L R Q := wp_go rfl
theorem i178_96 {k : Nat} (h1 : k < t) (h2 : m_ob k 8 = true) : WP V 178 96 ls (.ref k :: st) t I L R Q = WP V 178 97 ls (m_rv (R k 31) :: st) t I L R Q := wp_getR rfl (by decide) h1 h2
theorem i178_97 {w0 w1 w3 w4 w5 : Value} {x : Int32} : WP V 178 97 [w0, w1, .int x, w3, w4, w5] st t I L R Q = WP V 178 98 [w0, w1, .int x, w3, w4, w5] (.int x :: st) t I L R Q := wp_go rfl
theorem i178_98 {w0 w1 w2 w3 w4 : Value} {x : Int32} : WP V 178 98 [w0, w1, w2, w3, w4, .int x] st t I L R Q = WP V 178 99 [w0, w1, w2, w3, w4, .int x] (.int x :: st) t I L R Q := wp_go rfl
theorem i178_99 {x y : Int32} : WP V 178 99 ls (.int y :: .int x :: st) t I L R Q = WP V 178 100 ls (.int (x + y) :: st) t I L R Q := wp_go rfl
theorem i178_100 {k j : Nat} (h2 : m_ar k 2 7700 = true) (h1 : k < t) (h3 : j < 7700) : WP V 178 100 ls (.int (nI j) :: .ref k :: st) t I L R Q = WP V 178 101 ls (.int (I k j) :: st) t I L R Q := wp_iaload rfl (by decide) h1 h2 h3
theorem i178_101 {x y : Int32} : WP V 178 101 ls (.int y :: .int x :: st) t I L R Q = if x = y then WP V 178 102 ls st t I L R Q else WP V 178 104 ls st t I L R Q := wp_brn (c := m_cc .ne x y) rfl rfl
theorem i178_102  : WP V 178 102 ls st t I L R Q = WP V 178 103 ls (.int (nI 1) :: st) t I L R Q := wp_go rfl
theorem i178_103  : WP V 178 103 ls st t I L R Q = WP V 178 105 ls st t I L R Q := wp_go rfl
theorem i178_104  : WP V 178 104 ls st t I L R Q = WP V 178 105 ls (.int (nI 0) :: st) t I L R Q := wp_go rfl
theorem i178_105 {p : Int32} {w0 w1 w2 w4 w5 : Value} {x : Int32} : WP V 178 105 [w0, w1, w2, .int p, w4, w5] (.int x :: st) t I L R Q = WP V 178 106 [w0, w1, w2, .int p, .int x, w5] st t I L R Q := wp_go rfl
theorem i178_106 {p : Int32} {w0 w1 w2 w3 : Value} {x : Int32} : WP V 178 106 [w0, w1, w2, w3, .int p, .int x] st t I L R Q = WP V 178 107 [w0, w1, w2, w3, .int p, .int (x + (nI 1))] st t I L R Q := wp_go rfl
theorem i178_107  : WP V 178 107 ls st t I L R Q = WP V 178 82 ls st t I L R Q := wp_go rfl
theorem i178_108 {w0 w1 w2 w3 w5 : Value} {x : Int32} : WP V 178 108 [w0, w1, w2, w3, .int x, w5] st t I L R Q = WP V 178 109 [w0, w1, w2, w3, .int x, w5] (.int x :: st) t I L R Q := wp_go rfl
theorem i178_109 {x : Int32} : WP V 178 109 ls (.int x :: st) t I L R Q = if x = nI 0 then WP V 178 111 ls st t I L R Q else WP V 178 110 ls st t I L R Q := wp_br (c := m_cc .eq x 0) rfl rfl
theorem i178_110  : WP V 178 110 ls [] t I L R Q = Q none t I L R := wp_rtv rfl rfl
theorem i178_111 {p : Int32} {w0 w1 w4 w5 : Value} {x : Int32} : WP V 178 111 [w0, w1, .int p, .int x, w4, w5] st t I L R Q = WP V 178 112 [w0, w1, .int p, .int (x + (nI 1)), w4, w5] st t I L R Q := wp_go rfl
theorem i178_112  : WP V 178 112 ls st t I L R Q = WP V 178 74 ls st t I L R Q := wp_go rfl
theorem i178_113 {w1 w2 w3 w4 w5 : Value} {x : Nat} : WP V 178 113 [.ref x, w1, w2, w3, w4, w5] st t I L R Q = WP V 178 114 [.ref x, w1, w2, w3, w4, w5] (.ref x :: st) t I L R Q := wp_go rfl
theorem i178_114 {v0 : Nat} : WP V 178 114 ls (.ref v0 :: st) t I L R Q = WP V 178 115 ls (.ref v0 :: .ref v0 :: st) t I L R Q := wp_go rfl
theorem i178_115 {k : Nat} (h1 : k < t) (h2 : m_ob k 8 = true) : WP V 178 115 ls (.ref k :: st) t I L R Q = WP V 178 116 ls (.int (I k 32) :: st) t I L R Q := wp_getI rfl (by decide) h1 h2
theorem i178_116  : WP V 178 116 ls st t I L R Q = WP V 178 117 ls (.int (nI 1) :: st) t I L R Q := wp_go rfl
theorem i178_117 {x y : Int32} : WP V 178 117 ls (.int y :: .int x :: st) t I L R Q = WP V 178 118 ls (.int (x + y) :: st) t I L R Q := wp_go rfl
theorem i178_118 {k : Nat} {x : Int32} (h1 : k < t) (h2 : m_ob k 8 = true) : WP V 178 118 ls (.int x :: .ref k :: st) t I L R Q = WP V 178 119 ls st t (m_sc I k (m_sc (I k) 32 x)) L R Q := wp_putI rfl (by decide) h1 h2
theorem i178_119  : WP V 178 119 ls [] t I L R Q = Q none t I L R := wp_rtv rfl rfl
-- TransactionCellsModel.explore(I)I
theorem i179_0 {w0 w2 w3 w4 w5 w6 w7 : Value} {x : Int32} : WP V 179 0 [w0, .int x, w2, w3, w4, w5, w6, w7] st t I L R Q = WP V 179 1 [w0, .int x, w2, w3, w4, w5, w6, w7] (.int x :: st) t I L R Q := wp_go rfl
theorem i179_1  : WP V 179 1 ls st t I L R Q = WP V 179 2 ls (.int (nI 1) :: st) t I L R Q := wp_go rfl
theorem i179_2  : WP V 179 2 ls st t I L R Q = WP V 179 3 ls (.int (nI 400) :: st) t I L R Q := wp_go rfl
theorem i179_3 {x0 : Int32} {x1 : Int32} {x2 : Int32}  : WP V 179 3 ls [.int x0, .int x1, .int x2] t I L R Q = WPC V 111 [.int x2, .int x1, .int x0] 179 4 ls [] t I L R Q := wp_cls (wp_ics rfl (by decide)) (by decide) (Nat.le_of_ble_eq_true rfl) rfl rfl (Nat.le_of_ble_eq_true rfl) (Nat.le_of_ble_eq_true rfl)
theorem i179_4 {x : Int32} : WP V 179 4 ls (.int x :: st) t I L R Q = if x = nI 0 then WP V 179 5 ls st t I L R Q else WP V 179 7 ls st t I L R Q := wp_brn (c := m_cc .ne x 0) rfl rfl
theorem i179_5  : WP V 179 5 ls st t I L R Q = WP V 179 6 ls (.int (-102) :: st) t I L R Q := wp_go rfl
theorem i179_6 {x : Int32} : WP V 179 6 ls [.int x] t I L R Q = Q (some (.int x)) t I L R := wp_rti rfl rfl
theorem i179_7 {w1 w2 w3 w4 w5 w6 w7 : Value} {x : Nat} : WP V 179 7 [.ref x, w1, w2, w3, w4, w5, w6, w7] st t I L R Q = WP V 179 8 [.ref x, w1, w2, w3, w4, w5, w6, w7] (.ref x :: st) t I L R Q := wp_go rfl
theorem i179_8 {k : Nat} (h1 : k < t) (h2 : m_ob k 8 = true) : WP V 179 8 ls (.ref k :: st) t I L R Q = WP V 179 9 ls (.int (I k 25) :: st) t I L R Q := wp_getI rfl (by decide) h1 h2
theorem i179_9 {w0 w2 w3 w4 w5 w6 w7 : Value} {x : Int32} : WP V 179 9 [w0, .int x, w2, w3, w4, w5, w6, w7] st t I L R Q = WP V 179 10 [w0, .int x, w2, w3, w4, w5, w6, w7] (.int x :: st) t I L R Q := wp_go rfl
theorem i179_10 {x y : Int32} : WP V 179 10 ls (.int y :: .int x :: st) t I L R Q = if y ≤ x then WP V 179 13 ls st t I L R Q else WP V 179 11 ls st t I L R Q := wp_br (c := m_cc .ge x y) rfl rfl
theorem i179_11  : WP V 179 11 ls st t I L R Q = WP V 179 12 ls (.int (-103) :: st) t I L R Q := wp_go rfl
theorem i179_12 {x : Int32} : WP V 179 12 ls [.int x] t I L R Q = Q (some (.int x)) t I L R := wp_rti rfl rfl
theorem i179_13 {w1 w2 w3 w4 w5 w6 w7 : Value} {x : Nat} : WP V 179 13 [.ref x, w1, w2, w3, w4, w5, w6, w7] st t I L R Q = WP V 179 14 [.ref x, w1, w2, w3, w4, w5, w6, w7] (.ref x :: st) t I L R Q := wp_go rfl
theorem i179_14 {v0 : Nat} : WP V 179 14 ls (.ref v0 :: st) t I L R Q = WP V 179 15 ls (.ref v0 :: .ref v0 :: st) t I L R Q := wp_go rfl
theorem i179_15 {k : Nat} (h1 : k < t) (h2 : m_ob k 8 = true) : WP V 179 15 ls (.ref k :: st) t I L R Q = WP V 179 16 ls (.int (I k 25) :: st) t I L R Q := wp_getI rfl (by decide) h1 h2
theorem i179_16 {w0 w2 w3 w4 w5 w6 w7 : Value} {x : Int32} : WP V 179 16 [w0, .int x, w2, w3, w4, w5, w6, w7] st t I L R Q = WP V 179 17 [w0, .int x, w2, w3, w4, w5, w6, w7] (.int x :: st) t I L R Q := wp_go rfl
theorem i179_17 {x y : Int32} : WP V 179 17 ls (.int y :: .int x :: st) t I L R Q = WP V 179 18 ls (.int (x - y) :: st) t I L R Q := wp_go rfl
theorem i179_18 {k : Nat} {x : Int32} (h1 : k < t) (h2 : m_ob k 8 = true) : WP V 179 18 ls (.int x :: .ref k :: st) t I L R Q = WP V 179 19 ls st t (m_sc I k (m_sc (I k) 25 x)) L R Q := wp_putI rfl (by decide) h1 h2
theorem i179_19 {w1 w2 w3 w4 w5 w6 w7 : Value} {x : Nat} : WP V 179 19 [.ref x, w1, w2, w3, w4, w5, w6, w7] st t I L R Q = WP V 179 20 [.ref x, w1, w2, w3, w4, w5, w6, w7] (.ref x :: st) t I L R Q := wp_go rfl
theorem i179_20 {k : Nat} (h1 : k < t) (h2 : m_ob k 8 = true) : WP V 179 20 ls (.ref k :: st) t I L R Q = WP V 179 21 ls (m_rv (R k 0) :: st) t I L R Q := wp_getR rfl (by decide) h1 h2
theorem i179_21 {p : Int32} {w0 w2 w3 w4 w5 w6 w7 : Value} {x : Nat} : WP V 179 21 [w0, .int p, w2, w3, w4, w5, w6, w7] (.ref x :: st) t I L R Q = WP V 179 22 [w0, .int p, .ref x, w3, w4, w5, w6, w7] st t I L R Q := wp_go rfl
theorem i179_22 {w1 w2 w3 w4 w5 w6 w7 : Value} {x : Nat} : WP V 179 22 [.ref x, w1, w2, w3, w4, w5, w6, w7] st t I L R Q = WP V 179 23 [.ref x, w1, w2, w3, w4, w5, w6, w7] (.ref x :: st) t I L R Q := wp_go rfl
theorem i179_23 {k : Nat} (h1 : k < t) (h2 : m_ob k 8 = true) : WP V 179 23 ls (.ref k :: st) t I L R Q = WP V 179 24 ls (.int (I k 2) :: st) t I L R Q := wp_getI rfl (by decide) h1 h2
theorem i179_24 {p : Nat} {w0 w1 w3 w4 w5 w6 w7 : Value} {x : Int32} : WP V 179 24 [w0, w1, .ref p, w3, w4, w5, w6, w7] (.int x :: st) t I L R Q = WP V 179 25 [w0, w1, .ref p, .int x, w4, w5, w6, w7] st t I L R Q := wp_go rfl
theorem i179_25 {w1 w2 w3 w4 w5 w6 w7 : Value} {x : Nat} : WP V 179 25 [.ref x, w1, w2, w3, w4, w5, w6, w7] st t I L R Q = WP V 179 26 [.ref x, w1, w2, w3, w4, w5, w6, w7] (.ref x :: st) t I L R Q := wp_go rfl
theorem i179_26 {w1 w2 w3 w4 w5 w6 w7 : Value} {x : Nat} : WP V 179 26 [.ref x, w1, w2, w3, w4, w5, w6, w7] st t I L R Q = WP V 179 27 [.ref x, w1, w2, w3, w4, w5, w6, w7] (.ref x :: st) t I L R Q := wp_go rfl
theorem i179_27 {k : Nat} (h1 : k < t) (h2 : m_ob k 8 = true) : WP V 179 27 ls (.ref k :: st) t I L R Q = WP V 179 28 ls (m_rv (R k 33) :: st) t I L R Q := wp_getR rfl (by decide) h1 h2
theorem i179_28 {k x : Nat} (h1 : k < t) (h2 : m_ob k 8 = true) : WP V 179 28 ls (.ref x :: .ref k :: st) t I L R Q = WP V 179 29 ls st t I L (m_sc R k (m_sc (R k) 0 (some x))) Q := wp_putR rfl (by decide) h1 h2
theorem i179_28n {k : Nat} (h1 : k < t) (h2 : m_ob k 8 = true) : WP V 179 28 ls (.null :: .ref k :: st) t I L R Q = WP V 179 29 ls st t I L (m_sc R k (m_sc (R k) 0 none)) Q := wp_putN rfl (by decide) h1 h2
theorem i179_29  : WP V 179 29 ls st t I L R Q = WP V 179 30 ls (.int (nI 0) :: st) t I L R Q := wp_go rfl
theorem i179_30 {p : Int32} {w0 w1 w2 w4 w5 w6 w7 : Value} {x : Int32} : WP V 179 30 [w0, w1, w2, .int p, w4, w5, w6, w7] (.int x :: st) t I L R Q = WP V 179 31 [w0, w1, w2, .int p, .int x, w5, w6, w7] st t I L R Q := wp_go rfl
theorem i179_31 {w0 w1 w2 w3 w5 w6 w7 : Value} {x : Int32} : WP V 179 31 [w0, w1, w2, w3, .int x, w5, w6, w7] st t I L R Q = WP V 179 32 [w0, w1, w2, w3, .int x, w5, w6, w7] (.int x :: st) t I L R Q := wp_go rfl
theorem i179_32  : WP V 179 32 ls st t I L R Q = WP V 179 33 ls (.int (nI 612) :: st) t I L R Q := wp_go rfl
theorem i179_33 {x y : Int32} : WP V 179 33 ls (.int y :: .int x :: st) t I L R Q = if y ≤ x then WP V 179 43 ls st t I L R Q else WP V 179 34 ls st t I L R Q := wp_br (c := m_cc .ge x y) rfl rfl
theorem i179_34 {w1 w2 w3 w4 w5 w6 w7 : Value} {x : Nat} : WP V 179 34 [.ref x, w1, w2, w3, w4, w5, w6, w7] st t I L R Q = WP V 179 35 [.ref x, w1, w2, w3, w4, w5, w6, w7] (.ref x :: st) t I L R Q := wp_go rfl
theorem i179_35 {k : Nat} (h1 : k < t) (h2 : m_ob k 8 = true) : WP V 179 35 ls (.ref k :: st) t I L R Q = WP V 179 36 ls (m_rv (R k 0) :: st) t I L R Q := wp_getR rfl (by decide) h1 h2
theorem i179_36 {w0 w1 w2 w3 w5 w6 w7 : Value} {x : Int32} : WP V 179 36 [w0, w1, w2, w3, .int x, w5, w6, w7] st t I L R Q = WP V 179 37 [w0, w1, w2, w3, .int x, w5, w6, w7] (.int x :: st) t I L R Q := wp_go rfl
theorem i179_37 {w0 w1 w3 w4 w5 w6 w7 : Value} {x : Nat} : WP V 179 37 [w0, w1, .ref x, w3, w4, w5, w6, w7] st t I L R Q = WP V 179 38 [w0, w1, .ref x, w3, w4, w5, w6, w7] (.ref x :: st) t I L R Q := wp_go rfl
theorem i179_38 {w0 w1 w2 w3 w5 w6 w7 : Value} {x : Int32} : WP V 179 38 [w0, w1, w2, w3, .int x, w5, w6, w7] st t I L R Q = WP V 179 39 [w0, w1, w2, w3, .int x, w5, w6, w7] (.int x :: st) t I L R Q := wp_go rfl
theorem i179_39 {k j : Nat} (h2 : m_ar k 2 612 = true) (h1 : k < t) (h3 : j < 612) : WP V 179 39 ls (.int (nI j) :: .ref k :: st) t I L R Q = WP V 179 40 ls (.int (I k j) :: st) t I L R Q := wp_iaload rfl (by decide) h1 h2 h3
theorem i179_40 {k j : Nat} {x : Int32} (h2 : m_ar k 2 612 = true) (h1 : k < t) (h3 : j < 612) : WP V 179 40 ls (.int x :: .int (nI j) :: .ref k :: st) t I L R Q = WP V 179 41 ls st t (m_sc I k (m_sc (I k) j x)) L R Q := wp_iastore rfl (by decide) h1 h2 h3
theorem i179_41 {p : Int32} {w0 w1 w2 w5 w6 w7 : Value} {x : Int32} : WP V 179 41 [w0, w1, w2, .int p, .int x, w5, w6, w7] st t I L R Q = WP V 179 42 [w0, w1, w2, .int p, .int (x + (nI 1)), w5, w6, w7] st t I L R Q := wp_go rfl
theorem i179_42  : WP V 179 42 ls st t I L R Q = WP V 179 31 ls st t I L R Q := wp_go rfl
theorem i179_43 {w1 w2 w3 w4 w5 w6 w7 : Value} {x : Nat} : WP V 179 43 [.ref x, w1, w2, w3, w4, w5, w6, w7] st t I L R Q = WP V 179 44 [.ref x, w1, w2, w3, w4, w5, w6, w7] (.ref x :: st) t I L R Q := wp_go rfl
theorem i179_44  : WP V 179 44 ls st t I L R Q = WP V 179 45 ls (.int (nI 1) :: st) t I L R Q := wp_go rfl
theorem i179_45 {k : Nat} {x : Int32} (h1 : k < t) (h2 : m_ob k 8 = true) (h3 : m_01 x = true) : WP V 179 45 ls (.int x :: .ref k :: st) t I L R Q = WP V 179 46 ls st t (m_sc I k (m_sc (I k) 5 x)) L R Q := wp_putZ rfl (by decide) h1 h2 h3
theorem i179_46 {w1 w2 w3 w4 w5 w6 w7 : Value} {x : Nat} : WP V 179 46 [.ref x, w1, w2, w3, w4, w5, w6, w7] st t I L R Q = WP V 179 47 [.ref x, w1, w2, w3, w4, w5, w6, w7] (.ref x :: st) t I L R Q := wp_go rfl
theorem i179_47  : WP V 179 47 ls st t I L R Q = WP V 179 48 ls (.int (nI 0) :: st) t I L R Q := wp_go rfl
theorem i179_48 {k : Nat} {x : Int32} (h1 : k < t) (h2 : m_ob k 8 = true) : WP V 179 48 ls (.int x :: .ref k :: st) t I L R Q = WP V 179 49 ls st t (m_sc I k (m_sc (I k) 27 x)) L R Q := wp_putI rfl (by decide) h1 h2
theorem i179_49 {w1 w2 w3 w4 w5 w6 w7 : Value} {x : Nat} : WP V 179 49 [.ref x, w1, w2, w3, w4, w5, w6, w7] st t I L R Q = WP V 179 50 [.ref x, w1, w2, w3, w4, w5, w6, w7] (.ref x :: st) t I L R Q := wp_go rfl
theorem i179_50 {w1 w2 w3 w4 w5 w6 w7 : Value} {x : Nat} : WP V 179 50 [.ref x, w1, w2, w3, w4, w5, w6, w7] st t I L R Q = WP V 179 51 [.ref x, w1, w2, w3, w4, w5, w6, w7] (.ref x :: st) t I L R Q := wp_go rfl
theorem i179_51 {k : Nat} (h1 : k < t) (h2 : m_ob k 8 = true) : WP V 179 51 ls (.ref k :: st) t I L R Q = WP V 179 52 ls (m_rv (R k 0) :: st) t I L R Q := wp_getR rfl (by decide) h1 h2
theorem i179_52  : WP V 179 52 ls st t I L R Q = WP V 179 53 ls (.int (nI 0) :: st) t I L R Q := wp_go rfl
theorem i179_53 {x0 : Int32} {x1 : Nat} {x2 : Nat}  (h1 : x2 < t) (h2 : m_ob x2 8 = true) : WP V 179 53 ls [.int x0, .ref x1, .ref x2] t I L R Q = WPC V 172 [.ref x2, .ref x1, .int x0] 179 54 ls [] t I L R Q := wp_cls (wp_icv rfl rfl h1 h2) (by decide) (Nat.le_of_ble_eq_true rfl) rfl rfl (Nat.le_of_ble_eq_true rfl) (Nat.le_of_ble_eq_true rfl)
theorem i179_54 {w1 w2 w3 w4 w5 w6 w7 : Value} {x : Nat} : WP V 179 54 [.ref x, w1, w2, w3, w4, w5, w6, w7] st t I L R Q = WP V 179 55 [.ref x, w1, w2, w3, w4, w5, w6, w7] (.ref x :: st) t I L R Q := wp_go rfl
theorem i179_55  : WP V 179 55 ls st t I L R Q = WP V 179 56 ls (.int (nI 1) :: st) t I L R Q := wp_go rfl
theorem i179_56 {k : Nat} {x : Int32} (h1 : k < t) (h2 : m_ob k 8 = true) : WP V 179 56 ls (.int x :: .ref k :: st) t I L R Q = WP V 179 57 ls st t (m_sc I k (m_sc (I k) 27 x)) L R Q := wp_putI rfl (by decide) h1 h2
theorem i179_57 {w1 w2 w3 w4 w5 w6 w7 : Value} {x : Nat} : WP V 179 57 [.ref x, w1, w2, w3, w4, w5, w6, w7] st t I L R Q = WP V 179 58 [.ref x, w1, w2, w3, w4, w5, w6, w7] (.ref x :: st) t I L R Q := wp_go rfl
theorem i179_58  : WP V 179 58 ls st t I L R Q = WP V 179 59 ls (.int (nI 0) :: st) t I L R Q := wp_go rfl
theorem i179_59 {k : Nat} {x : Int32} (h1 : k < t) (h2 : m_ob k 8 = true) : WP V 179 59 ls (.int x :: .ref k :: st) t I L R Q = WP V 179 60 ls st t (m_sc I k (m_sc (I k) 32 x)) L R Q := wp_putI rfl (by decide) h1 h2
theorem i179_60  : WP V 179 60 ls st t I L R Q = WP V 179 61 ls (.int (nI 0) :: st) t I L R Q := wp_go rfl
theorem i179_61 {p : Int32} {w0 w1 w2 w4 w5 w6 w7 : Value} {x : Int32} : WP V 179 61 [w0, w1, w2, .int p, w4, w5, w6, w7] (.int x :: st) t I L R Q = WP V 179 62 [w0, w1, w2, .int p, .int x, w5, w6, w7] st t I L R Q := wp_go rfl
theorem i179_62  : WP V 179 62 ls st t I L R Q = WP V 179 63 ls (.int (nI 0) :: st) t I L R Q := wp_go rfl
theorem i179_63 {p : Int32} {w0 w1 w2 w3 w5 w6 w7 : Value} {x : Int32} : WP V 179 63 [w0, w1, w2, w3, .int p, w5, w6, w7] (.int x :: st) t I L R Q = WP V 179 64 [w0, w1, w2, w3, .int p, .int x, w6, w7] st t I L R Q := wp_go rfl
theorem i179_64 {w0 w1 w2 w3 w4 w6 w7 : Value} {x : Int32} : WP V 179 64 [w0, w1, w2, w3, w4, .int x, w6, w7] st t I L R Q = WP V 179 65 [w0, w1, w2, w3, w4, .int x, w6, w7] (.int x :: st) t I L R Q := wp_go rfl
theorem i179_65 {w1 w2 w3 w4 w5 w6 w7 : Value} {x : Nat} : WP V 179 65 [.ref x, w1, w2, w3, w4, w5, w6, w7] st t I L R Q = WP V 179 66 [.ref x, w1, w2, w3, w4, w5, w6, w7] (.ref x :: st) t I L R Q := wp_go rfl
theorem i179_66 {k : Nat} (h1 : k < t) (h2 : m_ob k 8 = true) : WP V 179 66 ls (.ref k :: st) t I L R Q = WP V 179 67 ls (.int (I k 27) :: st) t I L R Q := wp_getI rfl (by decide) h1 h2
theorem i179_67 {x y : Int32} : WP V 179 67 ls (.int y :: .int x :: st) t I L R Q = if y ≤ x then WP V 179 139 ls st t I L R Q else WP V 179 68 ls st t I L R Q := wp_br (c := m_cc .ge x y) rfl rfl
theorem i179_68 {w0 w1 w2 w3 w5 w6 w7 : Value} {x : Int32} : WP V 179 68 [w0, w1, w2, w3, .int x, w5, w6, w7] st t I L R Q = WP V 179 69 [w0, w1, w2, w3, .int x, w5, w6, w7] (.int x :: st) t I L R Q := wp_go rfl
theorem i179_69 {x : Int32} : WP V 179 69 ls (.int x :: st) t I L R Q = if x = nI 0 then WP V 179 70 ls st t I L R Q else WP V 179 139 ls st t I L R Q := wp_brn (c := m_cc .ne x 0) rfl rfl
theorem i179_70  : WP V 179 70 ls st t I L R Q = WP V 179 71 ls (.int (nI 1) :: st) t I L R Q := wp_go rfl
theorem i179_71 {p : Int32} {w0 w1 w2 w3 w4 w6 w7 : Value} {x : Int32} : WP V 179 71 [w0, w1, w2, w3, w4, .int p, w6, w7] (.int x :: st) t I L R Q = WP V 179 72 [w0, w1, w2, w3, w4, .int p, .int x, w7] st t I L R Q := wp_go rfl
theorem i179_72  : WP V 179 72 ls st t I L R Q = WP V 179 73 ls (.int (nI 0) :: st) t I L R Q := wp_go rfl
theorem i179_73 {p : Int32} {w0 w1 w2 w3 w4 w5 w7 : Value} {x : Int32} : WP V 179 73 [w0, w1, w2, w3, w4, w5, .int p, w7] (.int x :: st) t I L R Q = WP V 179 74 [w0, w1, w2, w3, w4, w5, .int p, .int x] st t I L R Q := wp_go rfl
theorem i179_74 {w0 w1 w2 w3 w4 w5 w6 : Value} {x : Int32} : WP V 179 74 [w0, w1, w2, w3, w4, w5, w6, .int x] st t I L R Q = WP V 179 75 [w0, w1, w2, w3, w4, w5, w6, .int x] (.int x :: st) t I L R Q := wp_go rfl
theorem i179_75  : WP V 179 75 ls st t I L R Q = WP V 179 76 ls (.int (nI 3) :: st) t I L R Q := wp_go rfl
theorem i179_76 {x y : Int32} : WP V 179 76 ls (.int y :: .int x :: st) t I L R Q = if y ≤ x then WP V 179 130 ls st t I L R Q else WP V 179 77 ls st t I L R Q := wp_br (c := m_cc .ge x y) rfl rfl
theorem i179_77 {w0 w1 w2 w3 w5 w6 w7 : Value} {x : Int32} : WP V 179 77 [w0, w1, w2, w3, .int x, w5, w6, w7] st t I L R Q = WP V 179 78 [w0, w1, w2, w3, .int x, w5, w6, w7] (.int x :: st) t I L R Q := wp_go rfl
theorem i179_78 {x : Int32} : WP V 179 78 ls (.int x :: st) t I L R Q = if x = nI 0 then WP V 179 79 ls st t I L R Q else WP V 179 130 ls st t I L R Q := wp_brn (c := m_cc .ne x 0) rfl rfl
theorem i179_79 {w1 w2 w3 w4 w5 w6 w7 : Value} {x : Nat} : WP V 179 79 [.ref x, w1, w2, w3, w4, w5, w6, w7] st t I L R Q = WP V 179 80 [.ref x, w1, w2, w3, w4, w5, w6, w7] (.ref x :: st) t I L R Q := wp_go rfl
theorem i179_80 {w0 w1 w2 w3 w4 w6 w7 : Value} {x : Int32} : WP V 179 80 [w0, w1, w2, w3, w4, .int x, w6, w7] st t I L R Q = WP V 179 81 [w0, w1, w2, w3, w4, .int x, w6, w7] (.int x :: st) t I L R Q := wp_go rfl
theorem i179_81 {x0 : Int32} {x1 : Nat}  (h1 : x1 < t) (h2 : m_ob x1 8 = true) : WP V 179 81 ls [.int x0, .ref x1] t I L R Q = WPC V 177 [.ref x1, .int x0] 179 82 ls [] t I L R Q := wp_cls (wp_icv rfl rfl h1 h2) (by decide) (Nat.le_of_ble_eq_true rfl) rfl rfl (Nat.le_of_ble_eq_true rfl) (Nat.le_of_ble_eq_true rfl)
theorem i179_82 {w1 w2 w3 w4 w5 w6 w7 : Value} {x : Nat} : WP V 179 82 [.ref x, w1, w2, w3, w4, w5, w6, w7] st t I L R Q = WP V 179 83 [.ref x, w1, w2, w3, w4, w5, w6, w7] (.ref x :: st) t I L R Q := wp_go rfl
theorem i179_83 {w0 w1 w2 w4 w5 w6 w7 : Value} {x : Int32} : WP V 179 83 [w0, w1, w2, .int x, w4, w5, w6, w7] st t I L R Q = WP V 179 84 [w0, w1, w2, .int x, w4, w5, w6, w7] (.int x :: st) t I L R Q := wp_go rfl
theorem i179_84  : WP V 179 84 ls st t I L R Q = WP V 179 85 ls (.int (nI 3) :: st) t I L R Q := wp_go rfl
theorem i179_85 {w0 w1 w2 w3 w4 w6 w7 : Value} {x : Int32} : WP V 179 85 [w0, w1, w2, w3, w4, .int x, w6, w7] st t I L R Q = WP V 179 86 [w0, w1, w2, w3, w4, .int x, w6, w7] (.int x :: st) t I L R Q := wp_go rfl
theorem i179_86 {x y : Int32} : WP V 179 86 ls (.int y :: .int x :: st) t I L R Q = WP V 179 87 ls (.int (x * y) :: st) t I L R Q := wp_go rfl
theorem i179_87 {x y : Int32} : WP V 179 87 ls (.int y :: .int x :: st) t I L R Q = WP V 179 88 ls (.int (x + y) :: st) t I L R Q := wp_go rfl
theorem i179_88  : WP V 179 88 ls st t I L R Q = WP V 179 89 ls (.int (nI 10) :: st) t I L R Q := wp_go rfl
theorem i179_89 {x y : Int32} : WP V 179 89 ls (.int y :: .int x :: st) t I L R Q = WP V 179 90 ls (.int (x + y) :: st) t I L R Q := wp_go rfl
theorem i179_90 {k : Nat} {x : Int32} (h1 : k < t) (h2 : m_ob k 8 = true) : WP V 179 90 ls (.int x :: .ref k :: st) t I L R Q = WP V 179 91 ls st t (m_sc I k (m_sc (I k) 2 x)) L R Q := wp_putI rfl (by decide) h1 h2
theorem i179_91 {w1 w2 w3 w4 w5 w6 w7 : Value} {x : Nat} : WP V 179 91 [.ref x, w1, w2, w3, w4, w5, w6, w7] st t I L R Q = WP V 179 92 [.ref x, w1, w2, w3, w4, w5, w6, w7] (.ref x :: st) t I L R Q := wp_go rfl
theorem i179_92 {w0 w1 w2 w3 w4 w5 w6 : Value} {x : Int32} : WP V 179 92 [w0, w1, w2, w3, w4, w5, w6, .int x] st t I L R Q = WP V 179 93 [w0, w1, w2, w3, w4, w5, w6, .int x] (.int x :: st) t I L R Q := wp_go rfl
theorem i179_93 {x0 : Int32} {x1 : Nat}  (h1 : x1 < t) (h2 : m_ob x1 8 = true) : WP V 179 93 ls [.int x0, .ref x1] t I L R Q = WPC V 168 [.ref x1, .int x0] 179 94 ls [] t I L R Q := wp_cls (wp_icv rfl rfl h1 h2) (by decide) (Nat.le_of_ble_eq_true rfl) rfl rfl (Nat.le_of_ble_eq_true rfl) (Nat.le_of_ble_eq_true rfl)
theorem i179_94 {x : Int32} : WP V 179 94 ls (.int x :: st) t I L R Q = if x = nI 0 then WP V 179 128 ls st t I L R Q else WP V 179 95 ls st t I L R Q := wp_br (c := m_cc .eq x 0) rfl rfl
theorem i179_95 {w1 w2 w3 w4 w5 w6 w7 : Value} {x : Nat} : WP V 179 95 [.ref x, w1, w2, w3, w4, w5, w6, w7] st t I L R Q = WP V 179 96 [.ref x, w1, w2, w3, w4, w5, w6, w7] (.ref x :: st) t I L R Q := wp_go rfl
theorem i179_96 {w0 w1 w2 w3 w4 w5 w6 : Value} {x : Int32} : WP V 179 96 [w0, w1, w2, w3, w4, w5, w6, .int x] st t I L R Q = WP V 179 97 [w0, w1, w2, w3, w4, w5, w6, .int x] (.int x :: st) t I L R Q := wp_go rfl
theorem i179_97 {x0 : Int32} {x1 : Nat}  (h1 : x1 < t) (h2 : m_ob x1 8 = true) : WP V 179 97 ls [.int x0, .ref x1] t I L R Q = WPC V 164 [.ref x1, .int x0] 179 98 ls [] t I L R Q := wp_cls (wp_icv rfl rfl h1 h2) (by decide) (Nat.le_of_ble_eq_true rfl) rfl rfl (Nat.le_of_ble_eq_true rfl) (Nat.le_of_ble_eq_true rfl)
theorem i179_98 {x : Int32} : WP V 179 98 ls (.int x :: st) t I L R Q = if x = nI 0 then WP V 179 128 ls st t I L R Q else WP V 179 99 ls st t I L R Q := wp_br (c := m_cc .eq x 0) rfl rfl
theorem i179_99  : WP V 179 99 ls st t I L R Q = WP V 179 100 ls (.int (nI 0) :: st) t I L R Q := wp_go rfl
theorem i179_100 {p : Int32} {w0 w1 w2 w3 w4 w6 w7 : Value} {x : Int32} : WP V 179 100 [w0, w1, w2, w3, w4, .int p, w6, w7] (.int x :: st) t I L R Q = WP V 179 101 [w0, w1, w2, w3, w4, .int p, .int x, w7] st t I L R Q := wp_go rfl
theorem i179_101 {w1 w2 w3 w4 w5 w6 w7 : Value} {x : Nat} : WP V 179 101 [.ref x, w1, w2, w3, w4, w5, w6, w7] st t I L R Q = WP V 179 102 [.ref x, w1, w2, w3, w4, w5, w6, w7] (.ref x :: st) t I L R Q := wp_go rfl
theorem i179_102 {x0 : Nat}  (h1 : x0 < t) (h2 : m_ob x0 8 = true) : WP V 179 102 ls [.ref x0] t I L R Q = WPC V 180 [.ref x0] 179 103 ls [] t I L R Q := wp_cls (wp_icv rfl rfl h1 h2) (by decide) (Nat.le_of_ble_eq_true rfl) rfl rfl (Nat.le_of_ble_eq_true rfl) (Nat.le_of_ble_eq_true rfl)
theorem i179_103 {w1 w2 w3 w4 w5 w6 w7 : Value} {x : Nat} : WP V 179 103 [.ref x, w1, w2, w3, w4, w5, w6, w7] st t I L R Q = WP V 179 104 [.ref x, w1, w2, w3, w4, w5, w6, w7] (.ref x :: st) t I L R Q := wp_go rfl
theorem i179_104 {x0 : Nat}  (h1 : x0 < t) (h2 : m_ob x0 8 = true) : WP V 179 104 ls [.ref x0] t I L R Q = WPC V 176 [.ref x0] 179 105 ls [] t I L R Q := wp_cls (wp_icv rfl rfl h1 h2) (by decide) (Nat.le_of_ble_eq_true rfl) rfl rfl (Nat.le_of_ble_eq_true rfl) (Nat.le_of_ble_eq_true rfl)
theorem i179_105 {x : Int32} : WP V 179 105 ls (.int x :: st) t I L R Q = if x = nI 0 then WP V 179 106 ls st t I L R Q else WP V 179 128 ls st t I L R Q := wp_brn (c := m_cc .ne x 0) rfl rfl
theorem i179_106 {w1 w2 w3 w4 w5 w6 w7 : Value} {x : Nat} : WP V 179 106 [.ref x, w1, w2, w3, w4, w5, w6, w7] st t I L R Q = WP V 179 107 [.ref x, w1, w2, w3, w4, w5, w6, w7] (.ref x :: st) t I L R Q := wp_go rfl
theorem i179_107 {k : Nat} (h1 : k < t) (h2 : m_ob k 8 = true) : WP V 179 107 ls (.ref k :: st) t I L R Q = WP V 179 108 ls (.int (I k 27) :: st) t I L R Q := wp_getI rfl (by decide) h1 h2
theorem i179_108 {w0 w2 w3 w4 w5 w6 w7 : Value} {x : Int32} : WP V 179 108 [w0, .int x, w2, w3, w4, w5, w6, w7] st t I L R Q = WP V 179 109 [w0, .int x, w2, w3, w4, w5, w6, w7] (.int x :: st) t I L R Q := wp_go rfl
theorem i179_109 {x y : Int32} : WP V 179 109 ls (.int y :: .int x :: st) t I L R Q = if x = y then WP V 179 110 ls st t I L R Q else WP V 179 112 ls st t I L R Q := wp_brn (c := m_cc .ne x y) rfl rfl
theorem i179_110  : WP V 179 110 ls st t I L R Q = WP V 179 111 ls (.int (nI 1) :: st) t I L R Q := wp_go rfl
theorem i179_111  : WP V 179 111 ls st t I L R Q = WP V 179 113 ls st t I L R Q := wp_go rfl
theorem i179_112  : WP V 179 112 ls st t I L R Q = WP V 179 113 ls (.int (nI 0) :: st) t I L R Q := wp_go rfl
theorem i179_113 {p : Int32} {w0 w1 w2 w4 w5 w6 w7 : Value} {x : Int32} : WP V 179 113 [w0, w1, w2, .int p, w4, w5, w6, w7] (.int x :: st) t I L R Q = WP V 179 114 [w0, w1, w2, .int p, .int x, w5, w6, w7] st t I L R Q := wp_go rfl
theorem i179_114 {w0 w1 w2 w3 w5 w6 w7 : Value} {x : Int32} : WP V 179 114 [w0, w1, w2, w3, .int x, w5, w6, w7] st t I L R Q = WP V 179 115 [w0, w1, w2, w3, .int x, w5, w6, w7] (.int x :: st) t I L R Q := wp_go rfl
theorem i179_115 {x : Int32} : WP V 179 115 ls (.int x :: st) t I L R Q = if x = nI 0 then WP V 179 116 ls st t I L R Q else WP V 179 128 ls st t I L R Q := wp_brn (c := m_cc .ne x 0) rfl rfl
theorem i179_116 {w1 w2 w3 w4 w5 w6 w7 : Value} {x : Nat} : WP V 179 116 [.ref x, w1, w2, w3, w4, w5, w6, w7] st t I L R Q = WP V 179 117 [.ref x, w1, w2, w3, w4, w5, w6, w7] (.ref x :: st) t I L R Q := wp_go rfl
theorem i179_117 {w1 w2 w3 w4 w5 w6 w7 : Value} {x : Nat} : WP V 179 117 [.ref x, w1, w2, w3, w4, w5, w6, w7] st t I L R Q = WP V 179 118 [.ref x, w1, w2, w3, w4, w5, w6, w7] (.ref x :: st) t I L R Q := wp_go rfl
theorem i179_118 {k : Nat} (h1 : k < t) (h2 : m_ob k 8 = true) : WP V 179 118 ls (.ref k :: st) t I L R Q = WP V 179 119 ls (m_rv (R k 0) :: st) t I L R Q := wp_getR rfl (by decide) h1 h2
theorem i179_119 {w1 w2 w3 w4 w5 w6 w7 : Value} {x : Nat} : WP V 179 119 [.ref x, w1, w2, w3, w4, w5, w6, w7] st t I L R Q = WP V 179 120 [.ref x, w1, w2, w3, w4, w5, w6, w7] (.ref x :: st) t I L R Q := wp_go rfl
theorem i179_120 {k : Nat} (h1 : k < t) (h2 : m_ob k 8 = true) : WP V 179 120 ls (.ref k :: st) t I L R Q = WP V 179 121 ls (.int (I k 27) :: st) t I L R Q := wp_getI rfl (by decide) h1 h2
theorem i179_121 {x0 : Int32} {x1 : Nat} {x2 : Nat}  (h1 : x2 < t) (h2 : m_ob x2 8 = true) : WP V 179 121 ls [.int x0, .ref x1, .ref x2] t I L R Q = WPC V 172 [.ref x2, .ref x1, .int x0] 179 122 ls [] t I L R Q := wp_cls (wp_icv rfl rfl h1 h2) (by decide) (Nat.le_of_ble_eq_true rfl) rfl rfl (Nat.le_of_ble_eq_true rfl) (Nat.le_of_ble_eq_true rfl)
theorem i179_122 {w1 w2 w3 w4 w5 w6 w7 : Value} {x : Nat} : WP V 179 122 [.ref x, w1, w2, w3, w4, w5, w6, w7] st t I L R Q = WP V 179 123 [.ref x, w1, w2, w3, w4, w5, w6, w7] (.ref x :: st) t I L R Q := wp_go rfl
theorem i179_123 {v0 : Nat} : WP V 179 123 ls (.ref v0 :: st) t I L R Q = WP V 179 124 ls (.ref v0 :: .ref v0 :: st) t I L R Q := wp_go rfl
theorem i179_124 {k : Nat} (h1 : k < t) (h2 : m_ob k 8 = true) : WP V 179 124 ls (.ref k :: st) t I L R Q = WP V 179 125 ls (.int (I k 27) :: st) t I L R Q := wp_getI rfl (by decide) h1 h2
theorem i179_125  : WP V 179 125 ls st t I L R Q = WP V 179 126 ls (.int (nI 1) :: st) t I L R Q := wp_go rfl
theorem i179_126 {x y : Int32} : WP V 179 126 ls (.int y :: .int x :: st) t I L R Q = WP V 179 127 ls (.int (x + y) :: st) t I L R Q := wp_go rfl
theorem i179_127 {k : Nat} {x : Int32} (h1 : k < t) (h2 : m_ob k 8 = true) : WP V 179 127 ls (.int x :: .ref k :: st) t I L R Q = WP V 179 128 ls st t (m_sc I k (m_sc (I k) 27 x)) L R Q := wp_putI rfl (by decide) h1 h2
theorem i179_128 {p : Int32} {w0 w1 w2 w3 w4 w5 : Value} {x : Int32} : WP V 179 128 [w0, w1, w2, w3, w4, w5, .int p, .int x] st t I L R Q = WP V 179 129 [w0, w1, w2, w3, w4, w5, .int p, .int (x + (nI 1))] st t I L R Q := wp_go rfl
theorem i179_129  : WP V 179 129 ls st t I L R Q = WP V 179 74 ls st t I L R Q := wp_go rfl
theorem i179_130 {w0 w1 w2 w3 w4 w5 w7 : Value} {x : Int32} : WP V 179 130 [w0, w1, w2, w3, w4, w5, .int x, w7] st t I L R Q = WP V 179 131 [w0, w1, w2, w3, w4, w5, .int x, w7] (.int x :: st) t I L R Q := wp_go rfl
theorem i179_131 {x : Int32} : WP V 179 131 ls (.int x :: st) t I L R Q = if x = nI 0 then WP V 179 137 ls st t I L R Q else WP V 179 132 ls st t I L R Q := wp_br (c := m_cc .eq x 0) rfl rfl
theorem i179_132 {w0 w1 w2 w3 w5 w6 w7 : Value} {x : Int32} : WP V 179 132 [w0, w1, w2, w3, .int x, w5, w6, w7] st t I L R Q = WP V 179 133 [w0, w1, w2, w3, .int x, w5, w6, w7] (.int x :: st) t I L R Q := wp_go rfl
theorem i179_133 {x : Int32} : WP V 179 133 ls (.int x :: st) t I L R Q = if x = nI 0 then WP V 179 134 ls st t I L R Q else WP V 179 137 ls st t I L R Q := wp_brn (c := m_cc .ne x 0) rfl rfl
theorem i179_134 {w1 w2 w3 w4 w5 w6 w7 : Value} {x : Nat} : WP V 179 134 [.ref x, w1, w2, w3, w4, w5, w6, w7] st t I L R Q = WP V 179 135 [.ref x, w1, w2, w3, w4, w5, w6, w7] (.ref x :: st) t I L R Q := wp_go rfl
theorem i179_135 {w0 w1 w2 w3 w4 w6 w7 : Value} {x : Int32} : WP V 179 135 [w0, w1, w2, w3, w4, .int x, w6, w7] st t I L R Q = WP V 179 136 [w0, w1, w2, w3, w4, .int x, w6, w7] (.int x :: st) t I L R Q := wp_go rfl
theorem i179_136 {x0 : Int32} {x1 : Nat}  (h1 : x1 < t) (h2 : m_ob x1 8 = true) : WP V 179 136 ls [.int x0, .ref x1] t I L R Q = WPC V 178 [.ref x1, .int x0] 179 137 ls [] t I L R Q := wp_cls (wp_icv rfl rfl h1 h2) (by decide) (Nat.le_of_ble_eq_true rfl) rfl rfl (Nat.le_of_ble_eq_true rfl) (Nat.le_of_ble_eq_true rfl)
theorem i179_137 {p : Int32} {w0 w1 w2 w3 w6 w7 : Value} {x : Int32} : WP V 179 137 [w0, w1, w2, w3, .int p, .int x, w6, w7] st t I L R Q = WP V 179 138 [w0, w1, w2, w3, .int p, .int (x + (nI 1)), w6, w7] st t I L R Q := wp_go rfl
theorem i179_138  : WP V 179 138 ls st t I L R Q = WP V 179 64 ls st t I L R Q := wp_go rfl
theorem i179_139 {w1 w2 w3 w4 w5 w6 w7 : Value} {x : Nat} : WP V 179 139 [.ref x, w1, w2, w3, w4, w5, w6, w7] st t I L R Q = WP V 179 140 [.ref x, w1, w2, w3, w4, w5, w6, w7] (.ref x :: st) t I L R Q := wp_go rfl
theorem i179_140  : WP V 179 140 ls st t I L R Q = WP V 179 141 ls (.int (nI 0) :: st) t I L R Q := wp_go rfl
theorem i179_141 {k : Nat} {x : Int32} (h1 : k < t) (h2 : m_ob k 8 = true) (h3 : m_01 x = true) : WP V 179 141 ls (.int x :: .ref k :: st) t I L R Q = WP V 179 142 ls st t (m_sc I k (m_sc (I k) 5 x)) L R Q := wp_putZ rfl (by decide) h1 h2 h3
theorem i179_142 {w1 w2 w3 w4 w5 w6 w7 : Value} {x : Nat} : WP V 179 142 [.ref x, w1, w2, w3, w4, w5, w6, w7] st t I L R Q = WP V 179 143 [.ref x, w1, w2, w3, w4, w5, w6, w7] (.ref x :: st) t I L R Q := wp_go rfl
theorem i179_143 {w0 w1 w2 w4 w5 w6 w7 : Value} {x : Int32} : WP V 179 143 [w0, w1, w2, .int x, w4, w5, w6, w7] st t I L R Q = WP V 179 144 [w0, w1, w2, .int x, w4, w5, w6, w7] (.int x :: st) t I L R Q := wp_go rfl
theorem i179_144 {k : Nat} {x : Int32} (h1 : k < t) (h2 : m_ob k 8 = true) : WP V 179 144 ls (.int x :: .ref k :: st) t I L R Q = WP V 179 145 ls st t (m_sc I k (m_sc (I k) 2 x)) L R Q := wp_putI rfl (by decide) h1 h2
theorem i179_145 {w1 w2 w3 w4 w5 w6 w7 : Value} {x : Nat} : WP V 179 145 [.ref x, w1, w2, w3, w4, w5, w6, w7] st t I L R Q = WP V 179 146 [.ref x, w1, w2, w3, w4, w5, w6, w7] (.ref x :: st) t I L R Q := wp_go rfl
theorem i179_146 {w1 w2 w3 w4 w5 w6 w7 : Value} {x : Nat} : WP V 179 146 [.ref x, w1, w2, w3, w4, w5, w6, w7] st t I L R Q = WP V 179 147 [.ref x, w1, w2, w3, w4, w5, w6, w7] (.ref x :: st) t I L R Q := wp_go rfl
theorem i179_147 {k : Nat} (h1 : k < t) (h2 : m_ob k 8 = true) : WP V 179 147 ls (.ref k :: st) t I L R Q = WP V 179 148 ls (m_rv (R k 0) :: st) t I L R Q := wp_getR rfl (by decide) h1 h2
theorem i179_148 {k x : Nat} (h1 : k < t) (h2 : m_ob k 8 = true) : WP V 179 148 ls (.ref x :: .ref k :: st) t I L R Q = WP V 179 149 ls st t I L (m_sc R k (m_sc (R k) 33 (some x))) Q := wp_putR rfl (by decide) h1 h2
theorem i179_148n {k : Nat} (h1 : k < t) (h2 : m_ob k 8 = true) : WP V 179 148 ls (.null :: .ref k :: st) t I L R Q = WP V 179 149 ls st t I L (m_sc R k (m_sc (R k) 33 none)) Q := wp_putN rfl (by decide) h1 h2
theorem i179_149 {w1 w2 w3 w4 w5 w6 w7 : Value} {x : Nat} : WP V 179 149 [.ref x, w1, w2, w3, w4, w5, w6, w7] st t I L R Q = WP V 179 150 [.ref x, w1, w2, w3, w4, w5, w6, w7] (.ref x :: st) t I L R Q := wp_go rfl
theorem i179_150 {w0 w1 w3 w4 w5 w6 w7 : Value} {x : Nat} : WP V 179 150 [w0, w1, .ref x, w3, w4, w5, w6, w7] st t I L R Q = WP V 179 151 [w0, w1, .ref x, w3, w4, w5, w6, w7] (.ref x :: st) t I L R Q := wp_go rfl
theorem i179_151 {k x : Nat} (h1 : k < t) (h2 : m_ob k 8 = true) : WP V 179 151 ls (.ref x :: .ref k :: st) t I L R Q = WP V 179 152 ls st t I L (m_sc R k (m_sc (R k) 0 (some x))) Q := wp_putR rfl (by decide) h1 h2
theorem i179_151n {k : Nat} (h1 : k < t) (h2 : m_ob k 8 = true) : WP V 179 151 ls (.null :: .ref k :: st) t I L R Q = WP V 179 152 ls st t I L (m_sc R k (m_sc (R k) 0 none)) Q := wp_putN rfl (by decide) h1 h2
theorem i179_152 {w0 w1 w2 w3 w5 w6 w7 : Value} {x : Int32} : WP V 179 152 [w0, w1, w2, w3, .int x, w5, w6, w7] st t I L R Q = WP V 179 153 [w0, w1, w2, w3, .int x, w5, w6, w7] (.int x :: st) t I L R Q := wp_go rfl
theorem i179_153 {x : Int32} : WP V 179 153 ls (.int x :: st) t I L R Q = if x = nI 0 then WP V 179 158 ls st t I L R Q else WP V 179 154 ls st t I L R Q := wp_br (c := m_cc .eq x 0) rfl rfl
theorem i179_154  : WP V 179 154 ls st t I L R Q = WP V 179 155 ls (.int (-1) :: st) t I L R Q := wp_go rfl
theorem i179_155 {w0 w2 w3 w4 w5 w6 w7 : Value} {x : Int32} : WP V 179 155 [w0, .int x, w2, w3, w4, w5, w6, w7] st t I L R Q = WP V 179 156 [w0, .int x, w2, w3, w4, w5, w6, w7] (.int x :: st) t I L R Q := wp_go rfl
theorem i179_156 {x y : Int32} : WP V 179 156 ls (.int y :: .int x :: st) t I L R Q = WP V 179 157 ls (.int (x - y) :: st) t I L R Q := wp_go rfl
theorem i179_157 {x : Int32} : WP V 179 157 ls [.int x] t I L R Q = Q (some (.int x)) t I L R := wp_rti rfl rfl
theorem i179_158 {w1 w2 w3 w4 w5 w6 w7 : Value} {x : Nat} : WP V 179 158 [.ref x, w1, w2, w3, w4, w5, w6, w7] st t I L R Q = WP V 179 159 [.ref x, w1, w2, w3, w4, w5, w6, w7] (.ref x :: st) t I L R Q := wp_go rfl
theorem i179_159  : WP V 179 159 ls st t I L R Q = WP V 179 160 ls (.int (nI 1) :: st) t I L R Q := wp_go rfl
theorem i179_160 {k : Nat} {x : Int32} (h1 : k < t) (h2 : m_ob k 8 = true) (h3 : m_01 x = true) : WP V 179 160 ls (.int x :: .ref k :: st) t I L R Q = WP V 179 161 ls st t (m_sc I k (m_sc (I k) 28 x)) L R Q := wp_putZ rfl (by decide) h1 h2 h3
theorem i179_161 {w1 w2 w3 w4 w5 w6 w7 : Value} {x : Nat} : WP V 179 161 [.ref x, w1, w2, w3, w4, w5, w6, w7] st t I L R Q = WP V 179 162 [.ref x, w1, w2, w3, w4, w5, w6, w7] (.ref x :: st) t I L R Q := wp_go rfl
theorem i179_162 {w1 w2 w3 w4 w5 w6 w7 : Value} {x : Nat} : WP V 179 162 [.ref x, w1, w2, w3, w4, w5, w6, w7] st t I L R Q = WP V 179 163 [.ref x, w1, w2, w3, w4, w5, w6, w7] (.ref x :: st) t I L R Q := wp_go rfl
theorem i179_163 {k : Nat} (h1 : k < t) (h2 : m_ob k 8 = true) : WP V 179 163 ls (.ref k :: st) t I L R Q = WP V 179 164 ls (.int (I k 32) :: st) t I L R Q := wp_getI rfl (by decide) h1 h2
theorem i179_164 {k : Nat} {x : Int32} (h1 : k < t) (h2 : m_ob k 8 = true) : WP V 179 164 ls (.int x :: .ref k :: st) t I L R Q = WP V 179 165 ls st t (m_sc I k (m_sc (I k) 29 x)) L R Q := wp_putI rfl (by decide) h1 h2
theorem i179_165  : WP V 179 165 ls st t I L R Q = WP V 179 166 ls (.int (nI 0) :: st) t I L R Q := wp_go rfl
theorem i179_166 {p : Int32} {w0 w1 w2 w3 w5 w6 w7 : Value} {x : Int32} : WP V 179 166 [w0, w1, w2, w3, .int p, w5, w6, w7] (.int x :: st) t I L R Q = WP V 179 167 [w0, w1, w2, w3, .int p, .int x, w6, w7] st t I L R Q := wp_go rfl
theorem i179_167 {w0 w1 w2 w3 w4 w6 w7 : Value} {x : Int32} : WP V 179 167 [w0, w1, w2, w3, w4, .int x, w6, w7] st t I L R Q = WP V 179 168 [w0, w1, w2, w3, w4, .int x, w6, w7] (.int x :: st) t I L R Q := wp_go rfl
theorem i179_168  : WP V 179 168 ls st t I L R Q = WP V 179 169 ls (.int (nI 19) :: st) t I L R Q := wp_go rfl
theorem i179_169 {w1 w2 w3 w4 w5 w6 w7 : Value} {x : Nat} : WP V 179 169 [.ref x, w1, w2, w3, w4, w5, w6, w7] st t I L R Q = WP V 179 170 [.ref x, w1, w2, w3, w4, w5, w6, w7] (.ref x :: st) t I L R Q := wp_go rfl
theorem i179_170 {k : Nat} (h1 : k < t) (h2 : m_ob k 8 = true) : WP V 179 170 ls (.ref k :: st) t I L R Q = WP V 179 171 ls (.int (I k 29) :: st) t I L R Q := wp_getI rfl (by decide) h1 h2
theorem i179_171 {x y : Int32} : WP V 179 171 ls (.int y :: .int x :: st) t I L R Q = WP V 179 172 ls (.int (x * y) :: st) t I L R Q := wp_go rfl
theorem i179_172 {x y : Int32} : WP V 179 172 ls (.int y :: .int x :: st) t I L R Q = if y ≤ x then WP V 179 183 ls st t I L R Q else WP V 179 173 ls st t I L R Q := wp_br (c := m_cc .ge x y) rfl rfl
theorem i179_173 {w1 w2 w3 w4 w5 w6 w7 : Value} {x : Nat} : WP V 179 173 [.ref x, w1, w2, w3, w4, w5, w6, w7] st t I L R Q = WP V 179 174 [.ref x, w1, w2, w3, w4, w5, w6, w7] (.ref x :: st) t I L R Q := wp_go rfl
theorem i179_174 {k : Nat} (h1 : k < t) (h2 : m_ob k 8 = true) : WP V 179 174 ls (.ref k :: st) t I L R Q = WP V 179 175 ls (m_rv (R k 30) :: st) t I L R Q := wp_getR rfl (by decide) h1 h2
theorem i179_175 {w0 w1 w2 w3 w4 w6 w7 : Value} {x : Int32} : WP V 179 175 [w0, w1, w2, w3, w4, .int x, w6, w7] st t I L R Q = WP V 179 176 [w0, w1, w2, w3, w4, .int x, w6, w7] (.int x :: st) t I L R Q := wp_go rfl
theorem i179_176 {w1 w2 w3 w4 w5 w6 w7 : Value} {x : Nat} : WP V 179 176 [.ref x, w1, w2, w3, w4, w5, w6, w7] st t I L R Q = WP V 179 177 [.ref x, w1, w2, w3, w4, w5, w6, w7] (.ref x :: st) t I L R Q := wp_go rfl
theorem i179_177 {k : Nat} (h1 : k < t) (h2 : m_ob k 8 = true) : WP V 179 177 ls (.ref k :: st) t I L R Q = WP V 179 178 ls (m_rv (R k 31) :: st) t I L R Q := wp_getR rfl (by decide) h1 h2
theorem i179_178 {w0 w1 w2 w3 w4 w6 w7 : Value} {x : Int32} : WP V 179 178 [w0, w1, w2, w3, w4, .int x, w6, w7] st t I L R Q = WP V 179 179 [w0, w1, w2, w3, w4, .int x, w6, w7] (.int x :: st) t I L R Q := wp_go rfl
theorem i179_179 {k j : Nat} (h2 : m_ar k 2 7700 = true) (h1 : k < t) (h3 : j < 7700) : WP V 179 179 ls (.int (nI j) :: .ref k :: st) t I L R Q = WP V 179 180 ls (.int (I k j) :: st) t I L R Q := wp_iaload rfl (by decide) h1 h2 h3
theorem i179_180 {k j : Nat} {x : Int32} (h2 : m_ar k 2 7700 = true) (h1 : k < t) (h3 : j < 7700) : WP V 179 180 ls (.int x :: .int (nI j) :: .ref k :: st) t I L R Q = WP V 179 181 ls st t (m_sc I k (m_sc (I k) j x)) L R Q := wp_iastore rfl (by decide) h1 h2 h3
theorem i179_181 {p : Int32} {w0 w1 w2 w3 w6 w7 : Value} {x : Int32} : WP V 179 181 [w0, w1, w2, w3, .int p, .int x, w6, w7] st t I L R Q = WP V 179 182 [w0, w1, w2, w3, .int p, .int (x + (nI 1)), w6, w7] st t I L R Q := wp_go rfl
theorem i179_182  : WP V 179 182 ls st t I L R Q = WP V 179 167 ls st t I L R Q := wp_go rfl
theorem i179_183 {w1 w2 w3 w4 w5 w6 w7 : Value} {x : Nat} : WP V 179 183 [.ref x, w1, w2, w3, w4, w5, w6, w7] st t I L R Q = WP V 179 184 [.ref x, w1, w2, w3, w4, w5, w6, w7] (.ref x :: st) t I L R Q := wp_go rfl
theorem i179_184 {k : Nat} (h1 : k < t) (h2 : m_ob k 8 = true) : WP V 179 184 ls (.ref k :: st) t I L R Q = WP V 179 185 ls (.int (I k 27) :: st) t I L R Q := wp_getI rfl (by decide) h1 h2
theorem i179_185 {x : Int32} : WP V 179 185 ls [.int x] t I L R Q = Q (some (.int x)) t I L R := wp_rti rfl rfl
-- TransactionCellsModel.ages()V
theorem i180_0 {w1 w2 w3 : Value} {x : Nat} : WP V 180 0 [.ref x, w1, w2, w3] st t I L R Q = WP V 180 1 [.ref x, w1, w2, w3] (.ref x :: st) t I L R Q := wp_go rfl
theorem i180_1 {k : Nat} (h1 : k < t) (h2 : m_ob k 8 = true) : WP V 180 1 ls (.ref k :: st) t I L R Q = WP V 180 2 ls (m_rv (R k 34) :: st) t I L R Q := wp_getR rfl (by decide) h1 h2
theorem i180_2 {p : Nat} {w1 w2 w3 : Value} {x : Nat} : WP V 180 2 [.ref p, w1, w2, w3] (.ref x :: st) t I L R Q = WP V 180 3 [.ref p, .ref x, w2, w3] st t I L R Q := wp_go rfl
theorem i180_3  : WP V 180 3 ls st t I L R Q = WP V 180 4 ls (.int (nI 0) :: st) t I L R Q := wp_go rfl
theorem i180_4 {p : Nat} {w0 w2 w3 : Value} {x : Int32} : WP V 180 4 [w0, .ref p, w2, w3] (.int x :: st) t I L R Q = WP V 180 5 [w0, .ref p, .int x, w3] st t I L R Q := wp_go rfl
theorem i180_5 {w0 w1 w3 : Value} {x : Int32} : WP V 180 5 [w0, w1, .int x, w3] st t I L R Q = WP V 180 6 [w0, w1, .int x, w3] (.int x :: st) t I L R Q := wp_go rfl
theorem i180_6  : WP V 180 6 ls st t I L R Q = WP V 180 7 ls (.int (nI 3) :: st) t I L R Q := wp_go rfl
theorem i180_7 {x y : Int32} : WP V 180 7 ls (.int y :: .int x :: st) t I L R Q = if y ≤ x then WP V 180 54 ls st t I L R Q else WP V 180 8 ls st t I L R Q := wp_br (c := m_cc .ge x y) rfl rfl
theorem i180_8 {w0 w2 w3 : Value} {x : Nat} : WP V 180 8 [w0, .ref x, w2, w3] st t I L R Q = WP V 180 9 [w0, .ref x, w2, w3] (.ref x :: st) t I L R Q := wp_go rfl
theorem i180_9 {w0 w1 w3 : Value} {x : Int32} : WP V 180 9 [w0, w1, .int x, w3] st t I L R Q = WP V 180 10 [w0, w1, .int x, w3] (.int x :: st) t I L R Q := wp_go rfl
theorem i180_10  : WP V 180 10 ls st t I L R Q = WP V 180 11 ls (.int (nI 0) :: st) t I L R Q := wp_go rfl
theorem i180_11 {k j : Nat} {x : Int32} (h2 : m_ar k 2 3 = true) (h1 : k < t) (h3 : j < 3) : WP V 180 11 ls (.int x :: .int (nI j) :: .ref k :: st) t I L R Q = WP V 180 12 ls st t (m_sc I k (m_sc (I k) j x)) L R Q := wp_iastore rfl (by decide) h1 h2 h3
theorem i180_12  : WP V 180 12 ls st t I L R Q = WP V 180 13 ls (.int (nI 0) :: st) t I L R Q := wp_go rfl
theorem i180_13 {p : Int32} {w0 w1 w3 : Value} {x : Int32} : WP V 180 13 [w0, w1, .int p, w3] (.int x :: st) t I L R Q = WP V 180 14 [w0, w1, .int p, .int x] st t I L R Q := wp_go rfl
theorem i180_14 {w0 w1 w2 : Value} {x : Int32} : WP V 180 14 [w0, w1, w2, .int x] st t I L R Q = WP V 180 15 [w0, w1, w2, .int x] (.int x :: st) t I L R Q := wp_go rfl
theorem i180_15  : WP V 180 15 ls st t I L R Q = WP V 180 16 ls (.int (nI 3) :: st) t I L R Q := wp_go rfl
theorem i180_16 {x y : Int32} : WP V 180 16 ls (.int y :: .int x :: st) t I L R Q = if y ≤ x then WP V 180 52 ls st t I L R Q else WP V 180 17 ls st t I L R Q := wp_br (c := m_cc .ge x y) rfl rfl
theorem i180_17 {w0 w2 w3 : Value} {x : Nat} : WP V 180 17 [w0, .ref x, w2, w3] st t I L R Q = WP V 180 18 [w0, .ref x, w2, w3] (.ref x :: st) t I L R Q := wp_go rfl
theorem i180_18 {w0 w1 w3 : Value} {x : Int32} : WP V 180 18 [w0, w1, .int x, w3] st t I L R Q = WP V 180 19 [w0, w1, .int x, w3] (.int x :: st) t I L R Q := wp_go rfl
theorem i180_19 {v0 : Int32} {v1 : Nat} : WP V 180 19 ls (.int v0 :: .ref v1 :: st) t I L R Q = WP V 180 20 ls (.int v0 :: .ref v1 :: .int v0 :: .ref v1 :: st) t I L R Q := wp_go rfl
theorem i180_20 {k j : Nat} (h2 : m_ar k 2 3 = true) (h1 : k < t) (h3 : j < 3) : WP V 180 20 ls (.int (nI j) :: .ref k :: st) t I L R Q = WP V 180 21 ls (.int (I k j) :: st) t I L R Q := wp_iaload rfl (by decide) h1 h2 h3
theorem i180_21 {w1 w2 w3 : Value} {x : Nat} : WP V 180 21 [.ref x, w1, w2, w3] st t I L R Q = WP V 180 22 [.ref x, w1, w2, w3] (.ref x :: st) t I L R Q := wp_go rfl
theorem i180_22 {k : Nat} (h1 : k < t) (h2 : m_ob k 8 = true) : WP V 180 22 ls (.ref k :: st) t I L R Q = WP V 180 23 ls (m_rv (R k 0) :: st) t I L R Q := wp_getR rfl (by decide) h1 h2
theorem i180_23 {w0 w1 w2 : Value} {x : Int32} : WP V 180 23 [w0, w1, w2, .int x] st t I L R Q = WP V 180 24 [w0, w1, w2, .int x] (.int x :: st) t I L R Q := wp_go rfl
theorem i180_24 {x0 : Int32} {r0 : Nat} {r1 : Int32} {r2 : Int32} {r3 : Nat} : WP V 180 24 ls [.int x0, .ref r0, .int r1, .int r2, .ref r3] t I L R Q = WPC V 113 [.int x0] 180 25 ls [.ref r0, .int r1, .int r2, .ref r3] t I L R Q := wp_cls (wp_ics rfl (by decide)) (by decide) (Nat.le_of_ble_eq_true rfl) rfl rfl (Nat.le_of_ble_eq_true rfl) (Nat.le_of_ble_eq_true rfl)
theorem i180_25  : WP V 180 25 ls st t I L R Q = WP V 180 26 ls (.int (nI 101) :: st) t I L R Q := wp_go rfl
theorem i180_26 {x y : Int32} : WP V 180 26 ls (.int y :: .int x :: st) t I L R Q = WP V 180 27 ls (.int (x + y) :: st) t I L R Q := wp_go rfl
theorem i180_27 {k j : Nat} (h2 : m_ar k 2 612 = true) (h1 : k < t) (h3 : j < 612) : WP V 180 27 ls (.int (nI j) :: .ref k :: st) t I L R Q = WP V 180 28 ls (.int (I k j) :: st) t I L R Q := wp_iaload rfl (by decide) h1 h2 h3
theorem i180_28  : WP V 180 28 ls st t I L R Q = WP V 180 29 ls (.int (nI 1) :: st) t I L R Q := wp_go rfl
theorem i180_29 {x y : Int32} : WP V 180 29 ls (.int y :: .int x :: st) t I L R Q = if x = y then WP V 180 30 ls st t I L R Q else WP V 180 47 ls st t I L R Q := wp_brn (c := m_cc .ne x y) rfl rfl
theorem i180_30 {w1 w2 w3 : Value} {x : Nat} : WP V 180 30 [.ref x, w1, w2, w3] st t I L R Q = WP V 180 31 [.ref x, w1, w2, w3] (.ref x :: st) t I L R Q := wp_go rfl
theorem i180_31 {k : Nat} (h1 : k < t) (h2 : m_ob k 8 = true) : WP V 180 31 ls (.ref k :: st) t I L R Q = WP V 180 32 ls (m_rv (R k 0) :: st) t I L R Q := wp_getR rfl (by decide) h1 h2
theorem i180_32 {w0 w1 w2 : Value} {x : Int32} : WP V 180 32 [w0, w1, w2, .int x] st t I L R Q = WP V 180 33 [w0, w1, w2, .int x] (.int x :: st) t I L R Q := wp_go rfl
theorem i180_33 {x0 : Int32} {r0 : Nat} {r1 : Int32} {r2 : Int32} {r3 : Nat} : WP V 180 33 ls [.int x0, .ref r0, .int r1, .int r2, .ref r3] t I L R Q = WPC V 113 [.int x0] 180 34 ls [.ref r0, .int r1, .int r2, .ref r3] t I L R Q := wp_cls (wp_ics rfl (by decide)) (by decide) (Nat.le_of_ble_eq_true rfl) rfl rfl (Nat.le_of_ble_eq_true rfl) (Nat.le_of_ble_eq_true rfl)
theorem i180_34  : WP V 180 34 ls st t I L R Q = WP V 180 35 ls (.int (nI 104) :: st) t I L R Q := wp_go rfl
theorem i180_35 {x y : Int32} : WP V 180 35 ls (.int y :: .int x :: st) t I L R Q = WP V 180 36 ls (.int (x + y) :: st) t I L R Q := wp_go rfl
theorem i180_36 {k j : Nat} (h2 : m_ar k 2 612 = true) (h1 : k < t) (h3 : j < 612) : WP V 180 36 ls (.int (nI j) :: .ref k :: st) t I L R Q = WP V 180 37 ls (.int (I k j) :: st) t I L R Q := wp_iaload rfl (by decide) h1 h2 h3
theorem i180_37 {w1 w2 w3 : Value} {x : Nat} : WP V 180 37 [.ref x, w1, w2, w3] st t I L R Q = WP V 180 38 [.ref x, w1, w2, w3] (.ref x :: st) t I L R Q := wp_go rfl
theorem i180_38 {k : Nat} (h1 : k < t) (h2 : m_ob k 8 = true) : WP V 180 38 ls (.ref k :: st) t I L R Q = WP V 180 39 ls (m_rv (R k 0) :: st) t I L R Q := wp_getR rfl (by decide) h1 h2
theorem i180_39 {w0 w1 w3 : Value} {x : Int32} : WP V 180 39 [w0, w1, .int x, w3] st t I L R Q = WP V 180 40 [w0, w1, .int x, w3] (.int x :: st) t I L R Q := wp_go rfl
theorem i180_40 {x0 : Int32} {r0 : Nat} {r1 : Int32} {r2 : Int32} {r3 : Int32} {r4 : Nat} : WP V 180 40 ls [.int x0, .ref r0, .int r1, .int r2, .int r3, .ref r4] t I L R Q = WPC V 113 [.int x0] 180 41 ls [.ref r0, .int r1, .int r2, .int r3, .ref r4] t I L R Q := wp_cls (wp_ics rfl (by decide)) (by decide) (Nat.le_of_ble_eq_true rfl) rfl rfl (Nat.le_of_ble_eq_true rfl) (Nat.le_of_ble_eq_true rfl)
theorem i180_41  : WP V 180 41 ls st t I L R Q = WP V 180 42 ls (.int (nI 104) :: st) t I L R Q := wp_go rfl
theorem i180_42 {x y : Int32} : WP V 180 42 ls (.int y :: .int x :: st) t I L R Q = WP V 180 43 ls (.int (x + y) :: st) t I L R Q := wp_go rfl
theorem i180_43 {k j : Nat} (h2 : m_ar k 2 612 = true) (h1 : k < t) (h3 : j < 612) : WP V 180 43 ls (.int (nI j) :: .ref k :: st) t I L R Q = WP V 180 44 ls (.int (I k j) :: st) t I L R Q := wp_iaload rfl (by decide) h1 h2 h3
theorem i180_44 {x y : Int32} : WP V 180 44 ls (.int y :: .int x :: st) t I L R Q = if y ≤ x then WP V 180 47 ls st t I L R Q else WP V 180 45 ls st t I L R Q := wp_br (c := m_cc .ge x y) rfl rfl
theorem i180_45  : WP V 180 45 ls st t I L R Q = WP V 180 46 ls (.int (nI 1) :: st) t I L R Q := wp_go rfl
theorem i180_46  : WP V 180 46 ls st t I L R Q = WP V 180 48 ls st t I L R Q := wp_go rfl
theorem i180_47  : WP V 180 47 ls st t I L R Q = WP V 180 48 ls (.int (nI 0) :: st) t I L R Q := wp_go rfl
theorem i180_48 {x y : Int32} : WP V 180 48 ls (.int y :: .int x :: st) t I L R Q = WP V 180 49 ls (.int (x + y) :: st) t I L R Q := wp_go rfl
theorem i180_49 {k j : Nat} {x : Int32} (h2 : m_ar k 2 3 = true) (h1 : k < t) (h3 : j < 3) : WP V 180 49 ls (.int x :: .int (nI j) :: .ref k :: st) t I L R Q = WP V 180 50 ls st t (m_sc I k (m_sc (I k) j x)) L R Q := wp_iastore rfl (by decide) h1 h2 h3
theorem i180_50 {p : Int32} {w0 w1 : Value} {x : Int32} : WP V 180 50 [w0, w1, .int p, .int x] st t I L R Q = WP V 180 51 [w0, w1, .int p, .int (x + (nI 1))] st t I L R Q := wp_go rfl
theorem i180_51  : WP V 180 51 ls st t I L R Q = WP V 180 14 ls st t I L R Q := wp_go rfl
theorem i180_52 {p : Nat} {w0 w3 : Value} {x : Int32} : WP V 180 52 [w0, .ref p, .int x, w3] st t I L R Q = WP V 180 53 [w0, .ref p, .int (x + (nI 1)), w3] st t I L R Q := wp_go rfl
theorem i180_53  : WP V 180 53 ls st t I L R Q = WP V 180 5 ls st t I L R Q := wp_go rfl
theorem i180_54  : WP V 180 54 ls st t I L R Q = WP V 180 55 ls (.int (nI 0) :: st) t I L R Q := wp_go rfl
theorem i180_55 {p : Nat} {w0 w2 w3 : Value} {x : Int32} : WP V 180 55 [w0, .ref p, w2, w3] (.int x :: st) t I L R Q = WP V 180 56 [w0, .ref p, .int x, w3] st t I L R Q := wp_go rfl
theorem i180_56 {w0 w1 w3 : Value} {x : Int32} : WP V 180 56 [w0, w1, .int x, w3] st t I L R Q = WP V 180 57 [w0, w1, .int x, w3] (.int x :: st) t I L R Q := wp_go rfl
theorem i180_57  : WP V 180 57 ls st t I L R Q = WP V 180 58 ls (.int (nI 3) :: st) t I L R Q := wp_go rfl
theorem i180_58 {x y : Int32} : WP V 180 58 ls (.int y :: .int x :: st) t I L R Q = if y ≤ x then WP V 180 82 ls st t I L R Q else WP V 180 59 ls st t I L R Q := wp_br (c := m_cc .ge x y) rfl rfl
theorem i180_59 {w1 w2 w3 : Value} {x : Nat} : WP V 180 59 [.ref x, w1, w2, w3] st t I L R Q = WP V 180 60 [.ref x, w1, w2, w3] (.ref x :: st) t I L R Q := wp_go rfl
theorem i180_60 {k : Nat} (h1 : k < t) (h2 : m_ob k 8 = true) : WP V 180 60 ls (.ref k :: st) t I L R Q = WP V 180 61 ls (m_rv (R k 0) :: st) t I L R Q := wp_getR rfl (by decide) h1 h2
theorem i180_61 {w0 w1 w3 : Value} {x : Int32} : WP V 180 61 [w0, w1, .int x, w3] st t I L R Q = WP V 180 62 [w0, w1, .int x, w3] (.int x :: st) t I L R Q := wp_go rfl
theorem i180_62 {x0 : Int32} {r0 : Nat} : WP V 180 62 ls [.int x0, .ref r0] t I L R Q = WPC V 113 [.int x0] 180 63 ls [.ref r0] t I L R Q := wp_cls (wp_ics rfl (by decide)) (by decide) (Nat.le_of_ble_eq_true rfl) rfl rfl (Nat.le_of_ble_eq_true rfl) (Nat.le_of_ble_eq_true rfl)
theorem i180_63  : WP V 180 63 ls st t I L R Q = WP V 180 64 ls (.int (nI 104) :: st) t I L R Q := wp_go rfl
theorem i180_64 {x y : Int32} : WP V 180 64 ls (.int y :: .int x :: st) t I L R Q = WP V 180 65 ls (.int (x + y) :: st) t I L R Q := wp_go rfl
theorem i180_65 {w1 w2 w3 : Value} {x : Nat} : WP V 180 65 [.ref x, w1, w2, w3] st t I L R Q = WP V 180 66 [.ref x, w1, w2, w3] (.ref x :: st) t I L R Q := wp_go rfl
theorem i180_66 {k : Nat} (h1 : k < t) (h2 : m_ob k 8 = true) : WP V 180 66 ls (.ref k :: st) t I L R Q = WP V 180 67 ls (m_rv (R k 0) :: st) t I L R Q := wp_getR rfl (by decide) h1 h2
theorem i180_67 {w0 w1 w3 : Value} {x : Int32} : WP V 180 67 [w0, w1, .int x, w3] st t I L R Q = WP V 180 68 [w0, w1, .int x, w3] (.int x :: st) t I L R Q := wp_go rfl
theorem i180_68 {x0 : Int32} {r0 : Nat} {r1 : Int32} {r2 : Nat} : WP V 180 68 ls [.int x0, .ref r0, .int r1, .ref r2] t I L R Q = WPC V 113 [.int x0] 180 69 ls [.ref r0, .int r1, .ref r2] t I L R Q := wp_cls (wp_ics rfl (by decide)) (by decide) (Nat.le_of_ble_eq_true rfl) rfl rfl (Nat.le_of_ble_eq_true rfl) (Nat.le_of_ble_eq_true rfl)
theorem i180_69  : WP V 180 69 ls st t I L R Q = WP V 180 70 ls (.int (nI 101) :: st) t I L R Q := wp_go rfl
theorem i180_70 {x y : Int32} : WP V 180 70 ls (.int y :: .int x :: st) t I L R Q = WP V 180 71 ls (.int (x + y) :: st) t I L R Q := wp_go rfl
theorem i180_71 {k j : Nat} (h2 : m_ar k 2 612 = true) (h1 : k < t) (h3 : j < 612) : WP V 180 71 ls (.int (nI j) :: .ref k :: st) t I L R Q = WP V 180 72 ls (.int (I k j) :: st) t I L R Q := wp_iaload rfl (by decide) h1 h2 h3
theorem i180_72  : WP V 180 72 ls st t I L R Q = WP V 180 73 ls (.int (nI 1) :: st) t I L R Q := wp_go rfl
theorem i180_73 {x y : Int32} : WP V 180 73 ls (.int y :: .int x :: st) t I L R Q = if x = y then WP V 180 74 ls st t I L R Q else WP V 180 78 ls st t I L R Q := wp_brn (c := m_cc .ne x y) rfl rfl
theorem i180_74 {w0 w2 w3 : Value} {x : Nat} : WP V 180 74 [w0, .ref x, w2, w3] st t I L R Q = WP V 180 75 [w0, .ref x, w2, w3] (.ref x :: st) t I L R Q := wp_go rfl
theorem i180_75 {w0 w1 w3 : Value} {x : Int32} : WP V 180 75 [w0, w1, .int x, w3] st t I L R Q = WP V 180 76 [w0, w1, .int x, w3] (.int x :: st) t I L R Q := wp_go rfl
theorem i180_76 {k j : Nat} (h2 : m_ar k 2 3 = true) (h1 : k < t) (h3 : j < 3) : WP V 180 76 ls (.int (nI j) :: .ref k :: st) t I L R Q = WP V 180 77 ls (.int (I k j) :: st) t I L R Q := wp_iaload rfl (by decide) h1 h2 h3
theorem i180_77  : WP V 180 77 ls st t I L R Q = WP V 180 79 ls st t I L R Q := wp_go rfl
theorem i180_78  : WP V 180 78 ls st t I L R Q = WP V 180 79 ls (.int (nI 0) :: st) t I L R Q := wp_go rfl
theorem i180_79 {k j : Nat} {x : Int32} (h2 : m_ar k 2 612 = true) (h1 : k < t) (h3 : j < 612) : WP V 180 79 ls (.int x :: .int (nI j) :: .ref k :: st) t I L R Q = WP V 180 80 ls st t (m_sc I k (m_sc (I k) j x)) L R Q := wp_iastore rfl (by decide) h1 h2 h3
theorem i180_80 {p : Nat} {w0 w3 : Value} {x : Int32} : WP V 180 80 [w0, .ref p, .int x, w3] st t I L R Q = WP V 180 81 [w0, .ref p, .int (x + (nI 1)), w3] st t I L R Q := wp_go rfl
theorem i180_81  : WP V 180 81 ls st t I L R Q = WP V 180 56 ls st t I L R Q := wp_go rfl
theorem i180_82  : WP V 180 82 ls [] t I L R Q = Q none t I L R := wp_rtv rfl rfl
-- TransactionCellsModel.end(II)I
theorem i181_0 {w1 w2 : Value} {x : Nat} : WP V 181 0 [.ref x, w1, w2] st t I L R Q = WP V 181 1 [.ref x, w1, w2] (.ref x :: st) t I L R Q := wp_go rfl
theorem i181_1 {k : Nat} (h1 : k < t) (h2 : m_ob k 8 = true) : WP V 181 1 ls (.ref k :: st) t I L R Q = WP V 181 2 ls (.int (I k 28) :: st) t I L R Q := wp_getI rfl (by decide) h1 h2
theorem i181_2 {x : Int32} : WP V 181 2 ls (.int x :: st) t I L R Q = if x = nI 0 then WP V 181 11 ls st t I L R Q else WP V 181 3 ls st t I L R Q := wp_br (c := m_cc .eq x 0) rfl rfl
theorem i181_3 {w0 w2 : Value} {x : Int32} : WP V 181 3 [w0, .int x, w2] st t I L R Q = WP V 181 4 [w0, .int x, w2] (.int x :: st) t I L R Q := wp_go rfl
theorem i181_4  : WP V 181 4 ls st t I L R Q = WP V 181 5 ls (.int (-1) :: st) t I L R Q := wp_go rfl
theorem i181_5 {w1 w2 : Value} {x : Nat} : WP V 181 5 [.ref x, w1, w2] st t I L R Q = WP V 181 6 [.ref x, w1, w2] (.ref x :: st) t I L R Q := wp_go rfl
theorem i181_6 {k : Nat} (h1 : k < t) (h2 : m_ob k 8 = true) : WP V 181 6 ls (.ref k :: st) t I L R Q = WP V 181 7 ls (.int (I k 29) :: st) t I L R Q := wp_getI rfl (by decide) h1 h2
theorem i181_7  : WP V 181 7 ls st t I L R Q = WP V 181 8 ls (.int (nI 1) :: st) t I L R Q := wp_go rfl
theorem i181_8 {x y : Int32} : WP V 181 8 ls (.int y :: .int x :: st) t I L R Q = WP V 181 9 ls (.int (x - y) :: st) t I L R Q := wp_go rfl
theorem i181_9 {x0 : Int32} {x1 : Int32} {x2 : Int32}  : WP V 181 9 ls [.int x0, .int x1, .int x2] t I L R Q = WPC V 111 [.int x2, .int x1, .int x0] 181 10 ls [] t I L R Q := wp_cls (wp_ics rfl (by decide)) (by decide) (Nat.le_of_ble_eq_true rfl) rfl rfl (Nat.le_of_ble_eq_true rfl) (Nat.le_of_ble_eq_true rfl)
theorem i181_10 {x : Int32} : WP V 181 10 ls (.int x :: st) t I L R Q = if x = nI 0 then WP V 181 11 ls st t I L R Q else WP V 181 13 ls st t I L R Q := wp_brn (c := m_cc .ne x 0) rfl rfl
theorem i181_11  : WP V 181 11 ls st t I L R Q = WP V 181 12 ls (.int (-101) :: st) t I L R Q := wp_go rfl
theorem i181_12 {x : Int32} : WP V 181 12 ls [.int x] t I L R Q = Q (some (.int x)) t I L R := wp_rti rfl rfl
theorem i181_13 {w0 w2 : Value} {x : Int32} : WP V 181 13 [w0, .int x, w2] st t I L R Q = WP V 181 14 [w0, .int x, w2] (.int x :: st) t I L R Q := wp_go rfl
theorem i181_14  : WP V 181 14 ls st t I L R Q = WP V 181 15 ls (.int (-1) :: st) t I L R Q := wp_go rfl
theorem i181_15 {x y : Int32} : WP V 181 15 ls (.int y :: .int x :: st) t I L R Q = if x = y then WP V 181 16 ls st t I L R Q else WP V 181 19 ls st t I L R Q := wp_brn (c := m_cc .ne x y) rfl rfl
theorem i181_16 {w1 w2 : Value} {x : Nat} : WP V 181 16 [.ref x, w1, w2] st t I L R Q = WP V 181 17 [.ref x, w1, w2] (.ref x :: st) t I L R Q := wp_go rfl
theorem i181_17 {k : Nat} (h1 : k < t) (h2 : m_ob k 8 = true) : WP V 181 17 ls (.ref k :: st) t I L R Q = WP V 181 18 ls (.int (I k 29) :: st) t I L R Q := wp_getI rfl (by decide) h1 h2
theorem i181_18 {x : Int32} : WP V 181 18 ls [.int x] t I L R Q = Q (some (.int x)) t I L R := wp_rti rfl rfl
theorem i181_19 {w0 w1 : Value} {x : Int32} : WP V 181 19 [w0, w1, .int x] st t I L R Q = WP V 181 20 [w0, w1, .int x] (.int x :: st) t I L R Q := wp_go rfl
theorem i181_20  : WP V 181 20 ls st t I L R Q = WP V 181 21 ls (.int (nI 0) :: st) t I L R Q := wp_go rfl
theorem i181_21  : WP V 181 21 ls st t I L R Q = WP V 181 22 ls (.int (nI 18) :: st) t I L R Q := wp_go rfl
theorem i181_22 {x0 : Int32} {x1 : Int32} {x2 : Int32}  : WP V 181 22 ls [.int x0, .int x1, .int x2] t I L R Q = WPC V 111 [.int x2, .int x1, .int x0] 181 23 ls [] t I L R Q := wp_cls (wp_ics rfl (by decide)) (by decide) (Nat.le_of_ble_eq_true rfl) rfl rfl (Nat.le_of_ble_eq_true rfl) (Nat.le_of_ble_eq_true rfl)
theorem i181_23 {x : Int32} : WP V 181 23 ls (.int x :: st) t I L R Q = if x = nI 0 then WP V 181 33 ls st t I L R Q else WP V 181 24 ls st t I L R Q := wp_br (c := m_cc .eq x 0) rfl rfl
theorem i181_24 {w1 w2 : Value} {x : Nat} : WP V 181 24 [.ref x, w1, w2] st t I L R Q = WP V 181 25 [.ref x, w1, w2] (.ref x :: st) t I L R Q := wp_go rfl
theorem i181_25 {k : Nat} (h1 : k < t) (h2 : m_ob k 8 = true) : WP V 181 25 ls (.ref k :: st) t I L R Q = WP V 181 26 ls (m_rv (R k 30) :: st) t I L R Q := wp_getR rfl (by decide) h1 h2
theorem i181_26  : WP V 181 26 ls st t I L R Q = WP V 181 27 ls (.int (nI 19) :: st) t I L R Q := wp_go rfl
theorem i181_27 {w0 w2 : Value} {x : Int32} : WP V 181 27 [w0, .int x, w2] st t I L R Q = WP V 181 28 [w0, .int x, w2] (.int x :: st) t I L R Q := wp_go rfl
theorem i181_28 {x y : Int32} : WP V 181 28 ls (.int y :: .int x :: st) t I L R Q = WP V 181 29 ls (.int (x * y) :: st) t I L R Q := wp_go rfl
theorem i181_29 {w0 w1 : Value} {x : Int32} : WP V 181 29 [w0, w1, .int x] st t I L R Q = WP V 181 30 [w0, w1, .int x] (.int x :: st) t I L R Q := wp_go rfl
theorem i181_30 {x y : Int32} : WP V 181 30 ls (.int y :: .int x :: st) t I L R Q = WP V 181 31 ls (.int (x + y) :: st) t I L R Q := wp_go rfl
theorem i181_31 {k j : Nat} (h2 : m_ar k 2 7700 = true) (h1 : k < t) (h3 : j < 7700) : WP V 181 31 ls (.int (nI j) :: .ref k :: st) t I L R Q = WP V 181 32 ls (.int (I k j) :: st) t I L R Q := wp_iaload rfl (by decide) h1 h2 h3
theorem i181_32  : WP V 181 32 ls st t I L R Q = WP V 181 34 ls st t I L R Q := wp_go rfl
theorem i181_33  : WP V 181 33 ls st t I L R Q = WP V 181 34 ls (.int (-102) :: st) t I L R Q := wp_go rfl
theorem i181_34 {x : Int32} : WP V 181 34 ls [.int x] t I L R Q = Q (some (.int x)) t I L R := wp_rti rfl rfl
-- TransactionCellsModel.thread(II)I
theorem i182_0 {w0 w2 w3 : Value} {x : Int32} : WP V 182 0 [w0, .int x, w2, w3] st t I L R Q = WP V 182 1 [w0, .int x, w2, w3] (.int x :: st) t I L R Q := wp_go rfl
theorem i182_1 {x0 : Int32}  : WP V 182 1 ls [.int x0] t I L R Q = WPC V 122 [.int x0] 182 2 ls [] t I L R Q := wp_cls (wp_ics rfl (by decide)) (by decide) (Nat.le_of_ble_eq_true rfl) rfl rfl (Nat.le_of_ble_eq_true rfl) (Nat.le_of_ble_eq_true rfl)
theorem i182_2 {x : Int32} : WP V 182 2 ls (.int x :: st) t I L R Q = if x = nI 0 then WP V 182 3 ls st t I L R Q else WP V 182 5 ls st t I L R Q := wp_brn (c := m_cc .ne x 0) rfl rfl
theorem i182_3  : WP V 182 3 ls st t I L R Q = WP V 182 4 ls (.int (-101) :: st) t I L R Q := wp_go rfl
theorem i182_4 {x : Int32} : WP V 182 4 ls [.int x] t I L R Q = Q (some (.int x)) t I L R := wp_rti rfl rfl
theorem i182_5 {w0 w2 w3 : Value} {x : Int32} : WP V 182 5 [w0, .int x, w2, w3] st t I L R Q = WP V 182 6 [w0, .int x, w2, w3] (.int x :: st) t I L R Q := wp_go rfl
theorem i182_6 {x0 : Int32}  : WP V 182 6 ls [.int x0] t I L R Q = WPC V 113 [.int x0] 182 7 ls [] t I L R Q := wp_cls (wp_ics rfl (by decide)) (by decide) (Nat.le_of_ble_eq_true rfl) rfl rfl (Nat.le_of_ble_eq_true rfl) (Nat.le_of_ble_eq_true rfl)
theorem i182_7 {p : Int32} {w0 w1 w3 : Value} {x : Int32} : WP V 182 7 [w0, w1, .int p, w3] (.int x :: st) t I L R Q = WP V 182 8 [w0, w1, .int p, .int x] st t I L R Q := wp_go rfl
theorem i182_8 {w0 w1 w3 : Value} {x : Int32} : WP V 182 8 [w0, w1, .int x, w3] st t I L R Q = WP V 182 9 [w0, w1, .int x, w3] (.int x :: st) t I L R Q := wp_go rfl
theorem i182_9s0  : WP V 182 9 ls (.int (nI 0) :: st) t I L R Q = WP V 182 10 ls st t I L R Q := wp_sw rfl (by decide) (by decide) (by decide) rfl
theorem i182_9s1  : WP V 182 9 ls (.int (nI 1) :: st) t I L R Q = WP V 182 17 ls st t I L R Q := wp_sw rfl (by decide) (by decide) (by decide) rfl
theorem i182_9s2  : WP V 182 9 ls (.int (nI 2) :: st) t I L R Q = WP V 182 24 ls st t I L R Q := wp_sw rfl (by decide) (by decide) (by decide) rfl
theorem i182_9s3  : WP V 182 9 ls (.int (nI 3) :: st) t I L R Q = WP V 182 31 ls st t I L R Q := wp_sw rfl (by decide) (by decide) (by decide) rfl
theorem i182_9s4  : WP V 182 9 ls (.int (nI 4) :: st) t I L R Q = WP V 182 48 ls st t I L R Q := wp_sw rfl (by decide) (by decide) (by decide) rfl
theorem i182_9s5  : WP V 182 9 ls (.int (nI 5) :: st) t I L R Q = WP V 182 55 ls st t I L R Q := wp_sw rfl (by decide) (by decide) (by decide) rfl
theorem i182_9s6  : WP V 182 9 ls (.int (nI 6) :: st) t I L R Q = WP V 182 62 ls st t I L R Q := wp_sw rfl (by decide) (by decide) (by decide) rfl
theorem i182_9s7  : WP V 182 9 ls (.int (nI 7) :: st) t I L R Q = WP V 182 69 ls st t I L R Q := wp_sw rfl (by decide) (by decide) (by decide) rfl
theorem i182_9sd {x : Int32} (h : x.toInt < 0 ∨ 7 < x.toInt) : WP V 182 9 ls (.int x :: st) t I L R Q = WP V 182 76 ls st t I L R Q := wp_swd rfl h
theorem i182_10 {w1 w2 w3 : Value} {x : Nat} : WP V 182 10 [.ref x, w1, w2, w3] st t I L R Q = WP V 182 11 [.ref x, w1, w2, w3] (.ref x :: st) t I L R Q := wp_go rfl
theorem i182_11 {k : Nat} (h1 : k < t) (h2 : m_ob k 8 = true) : WP V 182 11 ls (.ref k :: st) t I L R Q = WP V 182 12 ls (m_rv (R k 0) :: st) t I L R Q := wp_getR rfl (by decide) h1 h2
theorem i182_12 {w0 w1 w2 : Value} {x : Int32} : WP V 182 12 [w0, w1, w2, .int x] st t I L R Q = WP V 182 13 [w0, w1, w2, .int x] (.int x :: st) t I L R Q := wp_go rfl
theorem i182_13  : WP V 182 13 ls st t I L R Q = WP V 182 14 ls (.int (nI 0) :: st) t I L R Q := wp_go rfl
theorem i182_14 {x y : Int32} : WP V 182 14 ls (.int y :: .int x :: st) t I L R Q = WP V 182 15 ls (.int (x + y) :: st) t I L R Q := wp_go rfl
theorem i182_15 {k j : Nat} (h2 : m_ar k 2 612 = true) (h1 : k < t) (h3 : j < 612) : WP V 182 15 ls (.int (nI j) :: .ref k :: st) t I L R Q = WP V 182 16 ls (.int (I k j) :: st) t I L R Q := wp_iaload rfl (by decide) h1 h2 h3
theorem i182_16 {x : Int32} : WP V 182 16 ls [.int x] t I L R Q = Q (some (.int x)) t I L R := wp_rti rfl rfl
theorem i182_17 {w1 w2 w3 : Value} {x : Nat} : WP V 182 17 [.ref x, w1, w2, w3] st t I L R Q = WP V 182 18 [.ref x, w1, w2, w3] (.ref x :: st) t I L R Q := wp_go rfl
theorem i182_18 {k : Nat} (h1 : k < t) (h2 : m_ob k 8 = true) : WP V 182 18 ls (.ref k :: st) t I L R Q = WP V 182 19 ls (m_rv (R k 0) :: st) t I L R Q := wp_getR rfl (by decide) h1 h2
theorem i182_19 {w0 w1 w2 : Value} {x : Int32} : WP V 182 19 [w0, w1, w2, .int x] st t I L R Q = WP V 182 20 [w0, w1, w2, .int x] (.int x :: st) t I L R Q := wp_go rfl
theorem i182_20  : WP V 182 20 ls st t I L R Q = WP V 182 21 ls (.int (nI 1) :: st) t I L R Q := wp_go rfl
theorem i182_21 {x y : Int32} : WP V 182 21 ls (.int y :: .int x :: st) t I L R Q = WP V 182 22 ls (.int (x + y) :: st) t I L R Q := wp_go rfl
theorem i182_22 {k j : Nat} (h2 : m_ar k 2 612 = true) (h1 : k < t) (h3 : j < 612) : WP V 182 22 ls (.int (nI j) :: .ref k :: st) t I L R Q = WP V 182 23 ls (.int (I k j) :: st) t I L R Q := wp_iaload rfl (by decide) h1 h2 h3
theorem i182_23 {x : Int32} : WP V 182 23 ls [.int x] t I L R Q = Q (some (.int x)) t I L R := wp_rti rfl rfl
theorem i182_24 {w1 w2 w3 : Value} {x : Nat} : WP V 182 24 [.ref x, w1, w2, w3] st t I L R Q = WP V 182 25 [.ref x, w1, w2, w3] (.ref x :: st) t I L R Q := wp_go rfl
theorem i182_25 {k : Nat} (h1 : k < t) (h2 : m_ob k 8 = true) : WP V 182 25 ls (.ref k :: st) t I L R Q = WP V 182 26 ls (m_rv (R k 0) :: st) t I L R Q := wp_getR rfl (by decide) h1 h2
theorem i182_26 {w0 w1 w2 : Value} {x : Int32} : WP V 182 26 [w0, w1, w2, .int x] st t I L R Q = WP V 182 27 [w0, w1, w2, .int x] (.int x :: st) t I L R Q := wp_go rfl
theorem i182_27  : WP V 182 27 ls st t I L R Q = WP V 182 28 ls (.int (nI 2) :: st) t I L R Q := wp_go rfl
theorem i182_28 {x y : Int32} : WP V 182 28 ls (.int y :: .int x :: st) t I L R Q = WP V 182 29 ls (.int (x + y) :: st) t I L R Q := wp_go rfl
theorem i182_29 {k j : Nat} (h2 : m_ar k 2 612 = true) (h1 : k < t) (h3 : j < 612) : WP V 182 29 ls (.int (nI j) :: .ref k :: st) t I L R Q = WP V 182 30 ls (.int (I k j) :: st) t I L R Q := wp_iaload rfl (by decide) h1 h2 h3
theorem i182_30 {x : Int32} : WP V 182 30 ls [.int x] t I L R Q = Q (some (.int x)) t I L R := wp_rti rfl rfl
theorem i182_31 {w1 w2 w3 : Value} {x : Nat} : WP V 182 31 [.ref x, w1, w2, w3] st t I L R Q = WP V 182 32 [.ref x, w1, w2, w3] (.ref x :: st) t I L R Q := wp_go rfl
theorem i182_32 {k : Nat} (h1 : k < t) (h2 : m_ob k 8 = true) : WP V 182 32 ls (.ref k :: st) t I L R Q = WP V 182 33 ls (m_rv (R k 0) :: st) t I L R Q := wp_getR rfl (by decide) h1 h2
theorem i182_33 {w0 w1 w2 : Value} {x : Int32} : WP V 182 33 [w0, w1, w2, .int x] st t I L R Q = WP V 182 34 [w0, w1, w2, .int x] (.int x :: st) t I L R Q := wp_go rfl
theorem i182_34  : WP V 182 34 ls st t I L R Q = WP V 182 35 ls (.int (nI 101) :: st) t I L R Q := wp_go rfl
theorem i182_35 {x y : Int32} : WP V 182 35 ls (.int y :: .int x :: st) t I L R Q = WP V 182 36 ls (.int (x + y) :: st) t I L R Q := wp_go rfl
theorem i182_36 {k j : Nat} (h2 : m_ar k 2 612 = true) (h1 : k < t) (h3 : j < 612) : WP V 182 36 ls (.int (nI j) :: .ref k :: st) t I L R Q = WP V 182 37 ls (.int (I k j) :: st) t I L R Q := wp_iaload rfl (by decide) h1 h2 h3
theorem i182_37  : WP V 182 37 ls st t I L R Q = WP V 182 38 ls (.int (nI 1) :: st) t I L R Q := wp_go rfl
theorem i182_38 {x y : Int32} : WP V 182 38 ls (.int y :: .int x :: st) t I L R Q = if x = y then WP V 182 39 ls st t I L R Q else WP V 182 46 ls st t I L R Q := wp_brn (c := m_cc .ne x y) rfl rfl
theorem i182_39 {w1 w2 w3 : Value} {x : Nat} : WP V 182 39 [.ref x, w1, w2, w3] st t I L R Q = WP V 182 40 [.ref x, w1, w2, w3] (.ref x :: st) t I L R Q := wp_go rfl
theorem i182_40 {k : Nat} (h1 : k < t) (h2 : m_ob k 8 = true) : WP V 182 40 ls (.ref k :: st) t I L R Q = WP V 182 41 ls (m_rv (R k 0) :: st) t I L R Q := wp_getR rfl (by decide) h1 h2
theorem i182_41 {w0 w1 w2 : Value} {x : Int32} : WP V 182 41 [w0, w1, w2, .int x] st t I L R Q = WP V 182 42 [w0, w1, w2, .int x] (.int x :: st) t I L R Q := wp_go rfl
theorem i182_42  : WP V 182 42 ls st t I L R Q = WP V 182 43 ls (.int (nI 102) :: st) t I L R Q := wp_go rfl
theorem i182_43 {x y : Int32} : WP V 182 43 ls (.int y :: .int x :: st) t I L R Q = WP V 182 44 ls (.int (x + y) :: st) t I L R Q := wp_go rfl
theorem i182_44 {k j : Nat} (h2 : m_ar k 2 612 = true) (h1 : k < t) (h3 : j < 612) : WP V 182 44 ls (.int (nI j) :: .ref k :: st) t I L R Q = WP V 182 45 ls (.int (I k j) :: st) t I L R Q := wp_iaload rfl (by decide) h1 h2 h3
theorem i182_45  : WP V 182 45 ls st t I L R Q = WP V 182 47 ls st t I L R Q := wp_go rfl
theorem i182_46  : WP V 182 46 ls st t I L R Q = WP V 182 47 ls (.int (-1) :: st) t I L R Q := wp_go rfl
theorem i182_47 {x : Int32} : WP V 182 47 ls [.int x] t I L R Q = Q (some (.int x)) t I L R := wp_rti rfl rfl
theorem i182_48 {w1 w2 w3 : Value} {x : Nat} : WP V 182 48 [.ref x, w1, w2, w3] st t I L R Q = WP V 182 49 [.ref x, w1, w2, w3] (.ref x :: st) t I L R Q := wp_go rfl
theorem i182_49 {k : Nat} (h1 : k < t) (h2 : m_ob k 8 = true) : WP V 182 49 ls (.ref k :: st) t I L R Q = WP V 182 50 ls (m_rv (R k 0) :: st) t I L R Q := wp_getR rfl (by decide) h1 h2
theorem i182_50 {w0 w1 w2 : Value} {x : Int32} : WP V 182 50 [w0, w1, w2, .int x] st t I L R Q = WP V 182 51 [w0, w1, w2, .int x] (.int x :: st) t I L R Q := wp_go rfl
theorem i182_51  : WP V 182 51 ls st t I L R Q = WP V 182 52 ls (.int (nI 151) :: st) t I L R Q := wp_go rfl
theorem i182_52 {x y : Int32} : WP V 182 52 ls (.int y :: .int x :: st) t I L R Q = WP V 182 53 ls (.int (x + y) :: st) t I L R Q := wp_go rfl
theorem i182_53 {k j : Nat} (h2 : m_ar k 2 612 = true) (h1 : k < t) (h3 : j < 612) : WP V 182 53 ls (.int (nI j) :: .ref k :: st) t I L R Q = WP V 182 54 ls (.int (I k j) :: st) t I L R Q := wp_iaload rfl (by decide) h1 h2 h3
theorem i182_54 {x : Int32} : WP V 182 54 ls [.int x] t I L R Q = Q (some (.int x)) t I L R := wp_rti rfl rfl
theorem i182_55 {w1 w2 w3 : Value} {x : Nat} : WP V 182 55 [.ref x, w1, w2, w3] st t I L R Q = WP V 182 56 [.ref x, w1, w2, w3] (.ref x :: st) t I L R Q := wp_go rfl
theorem i182_56 {k : Nat} (h1 : k < t) (h2 : m_ob k 8 = true) : WP V 182 56 ls (.ref k :: st) t I L R Q = WP V 182 57 ls (m_rv (R k 0) :: st) t I L R Q := wp_getR rfl (by decide) h1 h2
theorem i182_57 {w0 w1 w2 : Value} {x : Int32} : WP V 182 57 [w0, w1, w2, .int x] st t I L R Q = WP V 182 58 [w0, w1, w2, .int x] (.int x :: st) t I L R Q := wp_go rfl
theorem i182_58  : WP V 182 58 ls st t I L R Q = WP V 182 59 ls (.int (nI 152) :: st) t I L R Q := wp_go rfl
theorem i182_59 {x y : Int32} : WP V 182 59 ls (.int y :: .int x :: st) t I L R Q = WP V 182 60 ls (.int (x + y) :: st) t I L R Q := wp_go rfl
theorem i182_60 {k j : Nat} (h2 : m_ar k 2 612 = true) (h1 : k < t) (h3 : j < 612) : WP V 182 60 ls (.int (nI j) :: .ref k :: st) t I L R Q = WP V 182 61 ls (.int (I k j) :: st) t I L R Q := wp_iaload rfl (by decide) h1 h2 h3
theorem i182_61 {x : Int32} : WP V 182 61 ls [.int x] t I L R Q = Q (some (.int x)) t I L R := wp_rti rfl rfl
theorem i182_62 {w1 w2 w3 : Value} {x : Nat} : WP V 182 62 [.ref x, w1, w2, w3] st t I L R Q = WP V 182 63 [.ref x, w1, w2, w3] (.ref x :: st) t I L R Q := wp_go rfl
theorem i182_63 {k : Nat} (h1 : k < t) (h2 : m_ob k 8 = true) : WP V 182 63 ls (.ref k :: st) t I L R Q = WP V 182 64 ls (m_rv (R k 0) :: st) t I L R Q := wp_getR rfl (by decide) h1 h2
theorem i182_64 {w0 w1 w2 : Value} {x : Int32} : WP V 182 64 [w0, w1, w2, .int x] st t I L R Q = WP V 182 65 [w0, w1, w2, .int x] (.int x :: st) t I L R Q := wp_go rfl
theorem i182_65  : WP V 182 65 ls st t I L R Q = WP V 182 66 ls (.int (nI 153) :: st) t I L R Q := wp_go rfl
theorem i182_66 {x y : Int32} : WP V 182 66 ls (.int y :: .int x :: st) t I L R Q = WP V 182 67 ls (.int (x + y) :: st) t I L R Q := wp_go rfl
theorem i182_67 {k j : Nat} (h2 : m_ar k 2 612 = true) (h1 : k < t) (h3 : j < 612) : WP V 182 67 ls (.int (nI j) :: .ref k :: st) t I L R Q = WP V 182 68 ls (.int (I k j) :: st) t I L R Q := wp_iaload rfl (by decide) h1 h2 h3
theorem i182_68 {x : Int32} : WP V 182 68 ls [.int x] t I L R Q = Q (some (.int x)) t I L R := wp_rti rfl rfl
theorem i182_69 {w1 w2 w3 : Value} {x : Nat} : WP V 182 69 [.ref x, w1, w2, w3] st t I L R Q = WP V 182 70 [.ref x, w1, w2, w3] (.ref x :: st) t I L R Q := wp_go rfl
theorem i182_70 {k : Nat} (h1 : k < t) (h2 : m_ob k 8 = true) : WP V 182 70 ls (.ref k :: st) t I L R Q = WP V 182 71 ls (m_rv (R k 0) :: st) t I L R Q := wp_getR rfl (by decide) h1 h2
theorem i182_71 {w0 w1 w2 : Value} {x : Int32} : WP V 182 71 [w0, w1, w2, .int x] st t I L R Q = WP V 182 72 [w0, w1, w2, .int x] (.int x :: st) t I L R Q := wp_go rfl
theorem i182_72  : WP V 182 72 ls st t I L R Q = WP V 182 73 ls (.int (nI 8) :: st) t I L R Q := wp_go rfl
theorem i182_73 {x y : Int32} : WP V 182 73 ls (.int y :: .int x :: st) t I L R Q = WP V 182 74 ls (.int (x + y) :: st) t I L R Q := wp_go rfl
theorem i182_74 {k j : Nat} (h2 : m_ar k 2 612 = true) (h1 : k < t) (h3 : j < 612) : WP V 182 74 ls (.int (nI j) :: .ref k :: st) t I L R Q = WP V 182 75 ls (.int (I k j) :: st) t I L R Q := wp_iaload rfl (by decide) h1 h2 h3
theorem i182_75 {x : Int32} : WP V 182 75 ls [.int x] t I L R Q = Q (some (.int x)) t I L R := wp_rti rfl rfl
theorem i182_76 {w0 w1 w3 : Value} {x : Int32} : WP V 182 76 [w0, w1, .int x, w3] st t I L R Q = WP V 182 77 [w0, w1, .int x, w3] (.int x :: st) t I L R Q := wp_go rfl
theorem i182_77  : WP V 182 77 ls st t I L R Q = WP V 182 78 ls (.int (nI 8) :: st) t I L R Q := wp_go rfl
theorem i182_78  : WP V 182 78 ls st t I L R Q = WP V 182 79 ls (.int (nI 11) :: st) t I L R Q := wp_go rfl
theorem i182_79 {x0 : Int32} {x1 : Int32} {x2 : Int32}  : WP V 182 79 ls [.int x0, .int x1, .int x2] t I L R Q = WPC V 111 [.int x2, .int x1, .int x0] 182 80 ls [] t I L R Q := wp_cls (wp_ics rfl (by decide)) (by decide) (Nat.le_of_ble_eq_true rfl) rfl rfl (Nat.le_of_ble_eq_true rfl) (Nat.le_of_ble_eq_true rfl)
theorem i182_80 {x : Int32} : WP V 182 80 ls (.int x :: st) t I L R Q = if x = nI 0 then WP V 182 92 ls st t I L R Q else WP V 182 81 ls st t I L R Q := wp_br (c := m_cc .eq x 0) rfl rfl
theorem i182_81 {w1 w2 w3 : Value} {x : Nat} : WP V 182 81 [.ref x, w1, w2, w3] st t I L R Q = WP V 182 82 [.ref x, w1, w2, w3] (.ref x :: st) t I L R Q := wp_go rfl
theorem i182_82 {k : Nat} (h1 : k < t) (h2 : m_ob k 8 = true) : WP V 182 82 ls (.ref k :: st) t I L R Q = WP V 182 83 ls (m_rv (R k 0) :: st) t I L R Q := wp_getR rfl (by decide) h1 h2
theorem i182_83 {w0 w1 w2 : Value} {x : Int32} : WP V 182 83 [w0, w1, w2, .int x] st t I L R Q = WP V 182 84 [w0, w1, w2, .int x] (.int x :: st) t I L R Q := wp_go rfl
theorem i182_84  : WP V 182 84 ls st t I L R Q = WP V 182 85 ls (.int (nI 3) :: st) t I L R Q := wp_go rfl
theorem i182_85 {x y : Int32} : WP V 182 85 ls (.int y :: .int x :: st) t I L R Q = WP V 182 86 ls (.int (x + y) :: st) t I L R Q := wp_go rfl
theorem i182_86 {w0 w1 w3 : Value} {x : Int32} : WP V 182 86 [w0, w1, .int x, w3] st t I L R Q = WP V 182 87 [w0, w1, .int x, w3] (.int x :: st) t I L R Q := wp_go rfl
theorem i182_87 {x y : Int32} : WP V 182 87 ls (.int y :: .int x :: st) t I L R Q = WP V 182 88 ls (.int (x + y) :: st) t I L R Q := wp_go rfl
theorem i182_88  : WP V 182 88 ls st t I L R Q = WP V 182 89 ls (.int (nI 8) :: st) t I L R Q := wp_go rfl
theorem i182_89 {x y : Int32} : WP V 182 89 ls (.int y :: .int x :: st) t I L R Q = WP V 182 90 ls (.int (x - y) :: st) t I L R Q := wp_go rfl
theorem i182_90 {k j : Nat} (h2 : m_ar k 2 612 = true) (h1 : k < t) (h3 : j < 612) : WP V 182 90 ls (.int (nI j) :: .ref k :: st) t I L R Q = WP V 182 91 ls (.int (I k j) :: st) t I L R Q := wp_iaload rfl (by decide) h1 h2 h3
theorem i182_91  : WP V 182 91 ls st t I L R Q = WP V 182 93 ls st t I L R Q := wp_go rfl
theorem i182_92  : WP V 182 92 ls st t I L R Q = WP V 182 93 ls (.int (-102) :: st) t I L R Q := wp_go rfl
theorem i182_93 {x : Int32} : WP V 182 93 ls [.int x] t I L R Q = Q (some (.int x)) t I L R := wp_rti rfl rfl
-- TransactionCellsModel.told(II)I
theorem i183_0 {w0 w2 w3 : Value} {x : Int32} : WP V 183 0 [w0, .int x, w2, w3] st t I L R Q = WP V 183 1 [w0, .int x, w2, w3] (.int x :: st) t I L R Q := wp_go rfl
theorem i183_1 {x0 : Int32}  : WP V 183 1 ls [.int x0] t I L R Q = WPC V 121 [.int x0] 183 2 ls [] t I L R Q := wp_cls (wp_ics rfl (by decide)) (by decide) (Nat.le_of_ble_eq_true rfl) rfl rfl (Nat.le_of_ble_eq_true rfl) (Nat.le_of_ble_eq_true rfl)
theorem i183_2 {x : Int32} : WP V 183 2 ls (.int x :: st) t I L R Q = if x = nI 0 then WP V 183 3 ls st t I L R Q else WP V 183 5 ls st t I L R Q := wp_brn (c := m_cc .ne x 0) rfl rfl
theorem i183_3  : WP V 183 3 ls st t I L R Q = WP V 183 4 ls (.int (-101) :: st) t I L R Q := wp_go rfl
theorem i183_4 {x : Int32} : WP V 183 4 ls [.int x] t I L R Q = Q (some (.int x)) t I L R := wp_rti rfl rfl
theorem i183_5 {w0 w2 w3 : Value} {x : Int32} : WP V 183 5 [w0, .int x, w2, w3] st t I L R Q = WP V 183 6 [w0, .int x, w2, w3] (.int x :: st) t I L R Q := wp_go rfl
theorem i183_6 {x0 : Int32}  : WP V 183 6 ls [.int x0] t I L R Q = WPC V 112 [.int x0] 183 7 ls [] t I L R Q := wp_cls (wp_ics rfl (by decide)) (by decide) (Nat.le_of_ble_eq_true rfl) rfl rfl (Nat.le_of_ble_eq_true rfl) (Nat.le_of_ble_eq_true rfl)
theorem i183_7 {p : Int32} {w0 w1 w3 : Value} {x : Int32} : WP V 183 7 [w0, w1, .int p, w3] (.int x :: st) t I L R Q = WP V 183 8 [w0, w1, .int p, .int x] st t I L R Q := wp_go rfl
theorem i183_8 {w0 w1 w3 : Value} {x : Int32} : WP V 183 8 [w0, w1, .int x, w3] st t I L R Q = WP V 183 9 [w0, w1, .int x, w3] (.int x :: st) t I L R Q := wp_go rfl
theorem i183_9  : WP V 183 9 ls st t I L R Q = WP V 183 10 ls (.int (nI 0) :: st) t I L R Q := wp_go rfl
theorem i183_10  : WP V 183 10 ls st t I L R Q = WP V 183 11 ls (.int (nI 2) :: st) t I L R Q := wp_go rfl
theorem i183_11 {x0 : Int32} {x1 : Int32} {x2 : Int32}  : WP V 183 11 ls [.int x0, .int x1, .int x2] t I L R Q = WPC V 111 [.int x2, .int x1, .int x0] 183 12 ls [] t I L R Q := wp_cls (wp_ics rfl (by decide)) (by decide) (Nat.le_of_ble_eq_true rfl) rfl rfl (Nat.le_of_ble_eq_true rfl) (Nat.le_of_ble_eq_true rfl)
theorem i183_12 {x : Int32} : WP V 183 12 ls (.int x :: st) t I L R Q = if x = nI 0 then WP V 183 20 ls st t I L R Q else WP V 183 13 ls st t I L R Q := wp_br (c := m_cc .eq x 0) rfl rfl
theorem i183_13 {w1 w2 w3 : Value} {x : Nat} : WP V 183 13 [.ref x, w1, w2, w3] st t I L R Q = WP V 183 14 [.ref x, w1, w2, w3] (.ref x :: st) t I L R Q := wp_go rfl
theorem i183_14 {k : Nat} (h1 : k < t) (h2 : m_ob k 8 = true) : WP V 183 14 ls (.ref k :: st) t I L R Q = WP V 183 15 ls (m_rv (R k 0) :: st) t I L R Q := wp_getR rfl (by decide) h1 h2
theorem i183_15 {w0 w1 w2 : Value} {x : Int32} : WP V 183 15 [w0, w1, w2, .int x] st t I L R Q = WP V 183 16 [w0, w1, w2, .int x] (.int x :: st) t I L R Q := wp_go rfl
theorem i183_16 {w0 w1 w3 : Value} {x : Int32} : WP V 183 16 [w0, w1, .int x, w3] st t I L R Q = WP V 183 17 [w0, w1, .int x, w3] (.int x :: st) t I L R Q := wp_go rfl
theorem i183_17 {x y : Int32} : WP V 183 17 ls (.int y :: .int x :: st) t I L R Q = WP V 183 18 ls (.int (x + y) :: st) t I L R Q := wp_go rfl
theorem i183_18 {k j : Nat} (h2 : m_ar k 2 612 = true) (h1 : k < t) (h3 : j < 612) : WP V 183 18 ls (.int (nI j) :: .ref k :: st) t I L R Q = WP V 183 19 ls (.int (I k j) :: st) t I L R Q := wp_iaload rfl (by decide) h1 h2 h3
theorem i183_19 {x : Int32} : WP V 183 19 ls [.int x] t I L R Q = Q (some (.int x)) t I L R := wp_rti rfl rfl
theorem i183_20 {w0 w1 w3 : Value} {x : Int32} : WP V 183 20 [w0, w1, .int x, w3] st t I L R Q = WP V 183 21 [w0, w1, .int x, w3] (.int x :: st) t I L R Q := wp_go rfl
theorem i183_21  : WP V 183 21 ls st t I L R Q = WP V 183 22 ls (.int (nI 3) :: st) t I L R Q := wp_go rfl
theorem i183_22 {x y : Int32} : WP V 183 22 ls (.int y :: .int x :: st) t I L R Q = if x = y then WP V 183 26 ls st t I L R Q else WP V 183 23 ls st t I L R Q := wp_br (c := m_cc .eq x y) rfl rfl
theorem i183_23 {w0 w1 w3 : Value} {x : Int32} : WP V 183 23 [w0, w1, .int x, w3] st t I L R Q = WP V 183 24 [w0, w1, .int x, w3] (.int x :: st) t I L R Q := wp_go rfl
theorem i183_24  : WP V 183 24 ls st t I L R Q = WP V 183 25 ls (.int (nI 4) :: st) t I L R Q := wp_go rfl
theorem i183_25 {x y : Int32} : WP V 183 25 ls (.int y :: .int x :: st) t I L R Q = if x = y then WP V 183 26 ls st t I L R Q else WP V 183 37 ls st t I L R Q := wp_brn (c := m_cc .ne x y) rfl rfl
theorem i183_26 {w1 w2 w3 : Value} {x : Nat} : WP V 183 26 [.ref x, w1, w2, w3] st t I L R Q = WP V 183 27 [.ref x, w1, w2, w3] (.ref x :: st) t I L R Q := wp_go rfl
theorem i183_27 {k : Nat} (h1 : k < t) (h2 : m_ob k 8 = true) : WP V 183 27 ls (.ref k :: st) t I L R Q = WP V 183 28 ls (m_rv (R k 0) :: st) t I L R Q := wp_getR rfl (by decide) h1 h2
theorem i183_28 {w0 w1 w2 : Value} {x : Int32} : WP V 183 28 [w0, w1, w2, .int x] st t I L R Q = WP V 183 29 [w0, w1, w2, .int x] (.int x :: st) t I L R Q := wp_go rfl
theorem i183_29  : WP V 183 29 ls st t I L R Q = WP V 183 30 ls (.int (nI 16) :: st) t I L R Q := wp_go rfl
theorem i183_30 {x y : Int32} : WP V 183 30 ls (.int y :: .int x :: st) t I L R Q = WP V 183 31 ls (.int (x + y) :: st) t I L R Q := wp_go rfl
theorem i183_31 {w0 w1 w3 : Value} {x : Int32} : WP V 183 31 [w0, w1, .int x, w3] st t I L R Q = WP V 183 32 [w0, w1, .int x, w3] (.int x :: st) t I L R Q := wp_go rfl
theorem i183_32 {x y : Int32} : WP V 183 32 ls (.int y :: .int x :: st) t I L R Q = WP V 183 33 ls (.int (x + y) :: st) t I L R Q := wp_go rfl
theorem i183_33  : WP V 183 33 ls st t I L R Q = WP V 183 34 ls (.int (nI 3) :: st) t I L R Q := wp_go rfl
theorem i183_34 {x y : Int32} : WP V 183 34 ls (.int y :: .int x :: st) t I L R Q = WP V 183 35 ls (.int (x - y) :: st) t I L R Q := wp_go rfl
theorem i183_35 {k j : Nat} (h2 : m_ar k 2 612 = true) (h1 : k < t) (h3 : j < 612) : WP V 183 35 ls (.int (nI j) :: .ref k :: st) t I L R Q = WP V 183 36 ls (.int (I k j) :: st) t I L R Q := wp_iaload rfl (by decide) h1 h2 h3
theorem i183_36 {x : Int32} : WP V 183 36 ls [.int x] t I L R Q = Q (some (.int x)) t I L R := wp_rti rfl rfl
theorem i183_37 {w0 w1 w3 : Value} {x : Int32} : WP V 183 37 [w0, w1, .int x, w3] st t I L R Q = WP V 183 38 [w0, w1, .int x, w3] (.int x :: st) t I L R Q := wp_go rfl
theorem i183_38  : WP V 183 38 ls st t I L R Q = WP V 183 39 ls (.int (nI 5) :: st) t I L R Q := wp_go rfl
theorem i183_39  : WP V 183 39 ls st t I L R Q = WP V 183 40 ls (.int (nI 7) :: st) t I L R Q := wp_go rfl
theorem i183_40 {x0 : Int32} {x1 : Int32} {x2 : Int32}  : WP V 183 40 ls [.int x0, .int x1, .int x2] t I L R Q = WPC V 111 [.int x2, .int x1, .int x0] 183 41 ls [] t I L R Q := wp_cls (wp_ics rfl (by decide)) (by decide) (Nat.le_of_ble_eq_true rfl) rfl rfl (Nat.le_of_ble_eq_true rfl) (Nat.le_of_ble_eq_true rfl)
theorem i183_41 {x : Int32} : WP V 183 41 ls (.int x :: st) t I L R Q = if x = nI 0 then WP V 183 54 ls st t I L R Q else WP V 183 42 ls st t I L R Q := wp_br (c := m_cc .eq x 0) rfl rfl
theorem i183_42 {w1 w2 w3 : Value} {x : Nat} : WP V 183 42 [.ref x, w1, w2, w3] st t I L R Q = WP V 183 43 [.ref x, w1, w2, w3] (.ref x :: st) t I L R Q := wp_go rfl
theorem i183_43 {k : Nat} (h1 : k < t) (h2 : m_ob k 8 = true) : WP V 183 43 ls (.ref k :: st) t I L R Q = WP V 183 44 ls (m_rv (R k 0) :: st) t I L R Q := wp_getR rfl (by decide) h1 h2
theorem i183_44 {w0 w1 w3 : Value} {x : Int32} : WP V 183 44 [w0, w1, .int x, w3] st t I L R Q = WP V 183 45 [w0, w1, .int x, w3] (.int x :: st) t I L R Q := wp_go rfl
theorem i183_45  : WP V 183 45 ls st t I L R Q = WP V 183 46 ls (.int (nI 5) :: st) t I L R Q := wp_go rfl
theorem i183_46 {x y : Int32} : WP V 183 46 ls (.int y :: .int x :: st) t I L R Q = WP V 183 47 ls (.int (x - y) :: st) t I L R Q := wp_go rfl
theorem i183_47 {x0 : Int32} {r0 : Nat} : WP V 183 47 ls [.int x0, .ref r0] t I L R Q = WPC V 113 [.int x0] 183 48 ls [.ref r0] t I L R Q := wp_cls (wp_ics rfl (by decide)) (by decide) (Nat.le_of_ble_eq_true rfl) rfl rfl (Nat.le_of_ble_eq_true rfl) (Nat.le_of_ble_eq_true rfl)
theorem i183_48  : WP V 183 48 ls st t I L R Q = WP V 183 49 ls (.int (nI 111) :: st) t I L R Q := wp_go rfl
theorem i183_49 {x y : Int32} : WP V 183 49 ls (.int y :: .int x :: st) t I L R Q = WP V 183 50 ls (.int (x + y) :: st) t I L R Q := wp_go rfl
theorem i183_50 {w0 w2 w3 : Value} {x : Int32} : WP V 183 50 [w0, .int x, w2, w3] st t I L R Q = WP V 183 51 [w0, .int x, w2, w3] (.int x :: st) t I L R Q := wp_go rfl
theorem i183_51 {x y : Int32} : WP V 183 51 ls (.int y :: .int x :: st) t I L R Q = WP V 183 52 ls (.int (x + y) :: st) t I L R Q := wp_go rfl
theorem i183_52 {k j : Nat} (h2 : m_ar k 2 612 = true) (h1 : k < t) (h3 : j < 612) : WP V 183 52 ls (.int (nI j) :: .ref k :: st) t I L R Q = WP V 183 53 ls (.int (I k j) :: st) t I L R Q := wp_iaload rfl (by decide) h1 h2 h3
theorem i183_53 {x : Int32} : WP V 183 53 ls [.int x] t I L R Q = Q (some (.int x)) t I L R := wp_rti rfl rfl
theorem i183_54 {w0 w1 w3 : Value} {x : Int32} : WP V 183 54 [w0, w1, .int x, w3] st t I L R Q = WP V 183 55 [w0, w1, .int x, w3] (.int x :: st) t I L R Q := wp_go rfl
theorem i183_55  : WP V 183 55 ls st t I L R Q = WP V 183 56 ls (.int (nI 8) :: st) t I L R Q := wp_go rfl
theorem i183_56  : WP V 183 56 ls st t I L R Q = WP V 183 57 ls (.int (nI 10) :: st) t I L R Q := wp_go rfl
theorem i183_57 {x0 : Int32} {x1 : Int32} {x2 : Int32}  : WP V 183 57 ls [.int x0, .int x1, .int x2] t I L R Q = WPC V 111 [.int x2, .int x1, .int x0] 183 58 ls [] t I L R Q := wp_cls (wp_ics rfl (by decide)) (by decide) (Nat.le_of_ble_eq_true rfl) rfl rfl (Nat.le_of_ble_eq_true rfl) (Nat.le_of_ble_eq_true rfl)
theorem i183_58 {x : Int32} : WP V 183 58 ls (.int x :: st) t I L R Q = if x = nI 0 then WP V 183 73 ls st t I L R Q else WP V 183 59 ls st t I L R Q := wp_br (c := m_cc .eq x 0) rfl rfl
theorem i183_59 {w1 w2 w3 : Value} {x : Nat} : WP V 183 59 [.ref x, w1, w2, w3] st t I L R Q = WP V 183 60 [.ref x, w1, w2, w3] (.ref x :: st) t I L R Q := wp_go rfl
theorem i183_60 {k : Nat} (h1 : k < t) (h2 : m_ob k 8 = true) : WP V 183 60 ls (.ref k :: st) t I L R Q = WP V 183 61 ls (m_rv (R k 0) :: st) t I L R Q := wp_getR rfl (by decide) h1 h2
theorem i183_61 {w0 w1 w3 : Value} {x : Int32} : WP V 183 61 [w0, w1, .int x, w3] st t I L R Q = WP V 183 62 [w0, w1, .int x, w3] (.int x :: st) t I L R Q := wp_go rfl
theorem i183_62  : WP V 183 62 ls st t I L R Q = WP V 183 63 ls (.int (nI 8) :: st) t I L R Q := wp_go rfl
theorem i183_63 {x y : Int32} : WP V 183 63 ls (.int y :: .int x :: st) t I L R Q = WP V 183 64 ls (.int (x - y) :: st) t I L R Q := wp_go rfl
theorem i183_64 {x0 : Int32} {r0 : Nat} : WP V 183 64 ls [.int x0, .ref r0] t I L R Q = WPC V 113 [.int x0] 183 65 ls [.ref r0] t I L R Q := wp_cls (wp_ics rfl (by decide)) (by decide) (Nat.le_of_ble_eq_true rfl) rfl rfl (Nat.le_of_ble_eq_true rfl) (Nat.le_of_ble_eq_true rfl)
theorem i183_65  : WP V 183 65 ls st t I L R Q = WP V 183 66 ls (.int (nI 135) :: st) t I L R Q := wp_go rfl
theorem i183_66 {x y : Int32} : WP V 183 66 ls (.int y :: .int x :: st) t I L R Q = WP V 183 67 ls (.int (x + y) :: st) t I L R Q := wp_go rfl
theorem i183_67  : WP V 183 67 ls st t I L R Q = WP V 183 68 ls (.int (nI 2) :: st) t I L R Q := wp_go rfl
theorem i183_68 {w0 w2 w3 : Value} {x : Int32} : WP V 183 68 [w0, .int x, w2, w3] st t I L R Q = WP V 183 69 [w0, .int x, w2, w3] (.int x :: st) t I L R Q := wp_go rfl
theorem i183_69 {x y : Int32} : WP V 183 69 ls (.int y :: .int x :: st) t I L R Q = WP V 183 70 ls (.int (x * y) :: st) t I L R Q := wp_go rfl
theorem i183_70 {x y : Int32} : WP V 183 70 ls (.int y :: .int x :: st) t I L R Q = WP V 183 71 ls (.int (x + y) :: st) t I L R Q := wp_go rfl
theorem i183_71 {k j : Nat} (h2 : m_ar k 2 612 = true) (h1 : k < t) (h3 : j < 612) : WP V 183 71 ls (.int (nI j) :: .ref k :: st) t I L R Q = WP V 183 72 ls (.int (I k j) :: st) t I L R Q := wp_iaload rfl (by decide) h1 h2 h3
theorem i183_72 {x : Int32} : WP V 183 72 ls [.int x] t I L R Q = Q (some (.int x)) t I L R := wp_rti rfl rfl
theorem i183_73 {w0 w1 w3 : Value} {x : Int32} : WP V 183 73 [w0, w1, .int x, w3] st t I L R Q = WP V 183 74 [w0, w1, .int x, w3] (.int x :: st) t I L R Q := wp_go rfl
theorem i183_74  : WP V 183 74 ls st t I L R Q = WP V 183 75 ls (.int (nI 11) :: st) t I L R Q := wp_go rfl
theorem i183_75  : WP V 183 75 ls st t I L R Q = WP V 183 76 ls (.int (nI 13) :: st) t I L R Q := wp_go rfl
theorem i183_76 {x0 : Int32} {x1 : Int32} {x2 : Int32}  : WP V 183 76 ls [.int x0, .int x1, .int x2] t I L R Q = WPC V 111 [.int x2, .int x1, .int x0] 183 77 ls [] t I L R Q := wp_cls (wp_ics rfl (by decide)) (by decide) (Nat.le_of_ble_eq_true rfl) rfl rfl (Nat.le_of_ble_eq_true rfl) (Nat.le_of_ble_eq_true rfl)
theorem i183_77 {x : Int32} : WP V 183 77 ls (.int x :: st) t I L R Q = if x = nI 0 then WP V 183 94 ls st t I L R Q else WP V 183 78 ls st t I L R Q := wp_br (c := m_cc .eq x 0) rfl rfl
theorem i183_78 {w1 w2 w3 : Value} {x : Nat} : WP V 183 78 [.ref x, w1, w2, w3] st t I L R Q = WP V 183 79 [.ref x, w1, w2, w3] (.ref x :: st) t I L R Q := wp_go rfl
theorem i183_79 {k : Nat} (h1 : k < t) (h2 : m_ob k 8 = true) : WP V 183 79 ls (.ref k :: st) t I L R Q = WP V 183 80 ls (m_rv (R k 0) :: st) t I L R Q := wp_getR rfl (by decide) h1 h2
theorem i183_80 {w0 w1 w3 : Value} {x : Int32} : WP V 183 80 [w0, w1, .int x, w3] st t I L R Q = WP V 183 81 [w0, w1, .int x, w3] (.int x :: st) t I L R Q := wp_go rfl
theorem i183_81  : WP V 183 81 ls st t I L R Q = WP V 183 82 ls (.int (nI 11) :: st) t I L R Q := wp_go rfl
theorem i183_82 {x y : Int32} : WP V 183 82 ls (.int y :: .int x :: st) t I L R Q = WP V 183 83 ls (.int (x - y) :: st) t I L R Q := wp_go rfl
theorem i183_83 {x0 : Int32} {r0 : Nat} : WP V 183 83 ls [.int x0, .ref r0] t I L R Q = WPC V 113 [.int x0] 183 84 ls [.ref r0] t I L R Q := wp_cls (wp_ics rfl (by decide)) (by decide) (Nat.le_of_ble_eq_true rfl) rfl rfl (Nat.le_of_ble_eq_true rfl) (Nat.le_of_ble_eq_true rfl)
theorem i183_84  : WP V 183 84 ls st t I L R Q = WP V 183 85 ls (.int (nI 135) :: st) t I L R Q := wp_go rfl
theorem i183_85 {x y : Int32} : WP V 183 85 ls (.int y :: .int x :: st) t I L R Q = WP V 183 86 ls (.int (x + y) :: st) t I L R Q := wp_go rfl
theorem i183_86  : WP V 183 86 ls st t I L R Q = WP V 183 87 ls (.int (nI 2) :: st) t I L R Q := wp_go rfl
theorem i183_87 {w0 w2 w3 : Value} {x : Int32} : WP V 183 87 [w0, .int x, w2, w3] st t I L R Q = WP V 183 88 [w0, .int x, w2, w3] (.int x :: st) t I L R Q := wp_go rfl
theorem i183_88 {x y : Int32} : WP V 183 88 ls (.int y :: .int x :: st) t I L R Q = WP V 183 89 ls (.int (x * y) :: st) t I L R Q := wp_go rfl
theorem i183_89 {x y : Int32} : WP V 183 89 ls (.int y :: .int x :: st) t I L R Q = WP V 183 90 ls (.int (x + y) :: st) t I L R Q := wp_go rfl
theorem i183_90  : WP V 183 90 ls st t I L R Q = WP V 183 91 ls (.int (nI 1) :: st) t I L R Q := wp_go rfl
theorem i183_91 {x y : Int32} : WP V 183 91 ls (.int y :: .int x :: st) t I L R Q = WP V 183 92 ls (.int (x + y) :: st) t I L R Q := wp_go rfl
theorem i183_92 {k j : Nat} (h2 : m_ar k 2 612 = true) (h1 : k < t) (h3 : j < 612) : WP V 183 92 ls (.int (nI j) :: .ref k :: st) t I L R Q = WP V 183 93 ls (.int (I k j) :: st) t I L R Q := wp_iaload rfl (by decide) h1 h2 h3
theorem i183_93  : WP V 183 93 ls st t I L R Q = WP V 183 95 ls st t I L R Q := wp_go rfl
theorem i183_94  : WP V 183 94 ls st t I L R Q = WP V 183 95 ls (.int (-102) :: st) t I L R Q := wp_go rfl
theorem i183_95 {x : Int32} : WP V 183 95 ls [.int x] t I L R Q = Q (some (.int x)) t I L R := wp_rti rfl rfl
-- TransactionCellsModel.count(I)I
theorem i184_0 {w0 : Value} {x : Int32} : WP V 184 0 [w0, .int x] st t I L R Q = WP V 184 1 [w0, .int x] (.int x :: st) t I L R Q := wp_go rfl
theorem i184_1s0  : WP V 184 1 ls (.int (nI 0) :: st) t I L R Q = WP V 184 2 ls st t I L R Q := wp_sw rfl (by decide) (by decide) (by decide) rfl
theorem i184_1s1  : WP V 184 1 ls (.int (nI 1) :: st) t I L R Q = WP V 184 7 ls st t I L R Q := wp_sw rfl (by decide) (by decide) (by decide) rfl
theorem i184_1s2  : WP V 184 1 ls (.int (nI 2) :: st) t I L R Q = WP V 184 10 ls st t I L R Q := wp_sw rfl (by decide) (by decide) (by decide) rfl
theorem i184_1s3  : WP V 184 1 ls (.int (nI 3) :: st) t I L R Q = WP V 184 13 ls st t I L R Q := wp_sw rfl (by decide) (by decide) (by decide) rfl
theorem i184_1s4  : WP V 184 1 ls (.int (nI 4) :: st) t I L R Q = WP V 184 16 ls st t I L R Q := wp_sw rfl (by decide) (by decide) (by decide) rfl
theorem i184_1s5  : WP V 184 1 ls (.int (nI 5) :: st) t I L R Q = WP V 184 19 ls st t I L R Q := wp_sw rfl (by decide) (by decide) (by decide) rfl
theorem i184_1s6  : WP V 184 1 ls (.int (nI 6) :: st) t I L R Q = WP V 184 24 ls st t I L R Q := wp_sw rfl (by decide) (by decide) (by decide) rfl
theorem i184_1s7  : WP V 184 1 ls (.int (nI 7) :: st) t I L R Q = WP V 184 29 ls st t I L R Q := wp_sw rfl (by decide) (by decide) (by decide) rfl
theorem i184_1sd {x : Int32} (h : x.toInt < 0 ∨ 7 < x.toInt) : WP V 184 1 ls (.int x :: st) t I L R Q = WP V 184 32 ls st t I L R Q := wp_swd rfl h
theorem i184_2 {w1 : Value} {x : Nat} : WP V 184 2 [.ref x, w1] st t I L R Q = WP V 184 3 [.ref x, w1] (.ref x :: st) t I L R Q := wp_go rfl
theorem i184_3 {k : Nat} (h1 : k < t) (h2 : m_ob k 8 = true) : WP V 184 3 ls (.ref k :: st) t I L R Q = WP V 184 4 ls (m_rv (R k 0) :: st) t I L R Q := wp_getR rfl (by decide) h1 h2
theorem i184_4  : WP V 184 4 ls st t I L R Q = WP V 184 5 ls (.int (nI 144) :: st) t I L R Q := wp_go rfl
theorem i184_5 {k j : Nat} (h2 : m_ar k 2 612 = true) (h1 : k < t) (h3 : j < 612) : WP V 184 5 ls (.int (nI j) :: .ref k :: st) t I L R Q = WP V 184 6 ls (.int (I k j) :: st) t I L R Q := wp_iaload rfl (by decide) h1 h2 h3
theorem i184_6 {x : Int32} : WP V 184 6 ls [.int x] t I L R Q = Q (some (.int x)) t I L R := wp_rti rfl rfl
theorem i184_7 {w1 : Value} {x : Nat} : WP V 184 7 [.ref x, w1] st t I L R Q = WP V 184 8 [.ref x, w1] (.ref x :: st) t I L R Q := wp_go rfl
theorem i184_8 {k : Nat} (h1 : k < t) (h2 : m_ob k 8 = true) : WP V 184 8 ls (.ref k :: st) t I L R Q = WP V 184 9 ls (.int (I k 4) :: st) t I L R Q := wp_getI rfl (by decide) h1 h2
theorem i184_9 {x : Int32} : WP V 184 9 ls [.int x] t I L R Q = Q (some (.int x)) t I L R := wp_rti rfl rfl
theorem i184_10 {w1 : Value} {x : Nat} : WP V 184 10 [.ref x, w1] st t I L R Q = WP V 184 11 [.ref x, w1] (.ref x :: st) t I L R Q := wp_go rfl
theorem i184_11 {k : Nat} (h1 : k < t) (h2 : m_ob k 8 = true) : WP V 184 11 ls (.ref k :: st) t I L R Q = WP V 184 12 ls (.int (I k 17) :: st) t I L R Q := wp_getI rfl (by decide) h1 h2
theorem i184_12 {x : Int32} : WP V 184 12 ls [.int x] t I L R Q = Q (some (.int x)) t I L R := wp_rti rfl rfl
theorem i184_13 {w1 : Value} {x : Nat} : WP V 184 13 [.ref x, w1] st t I L R Q = WP V 184 14 [.ref x, w1] (.ref x :: st) t I L R Q := wp_go rfl
theorem i184_14 {k : Nat} (h1 : k < t) (h2 : m_ob k 8 = true) : WP V 184 14 ls (.ref k :: st) t I L R Q = WP V 184 15 ls (.int (I k 2) :: st) t I L R Q := wp_getI rfl (by decide) h1 h2
theorem i184_15 {x : Int32} : WP V 184 15 ls [.int x] t I L R Q = Q (some (.int x)) t I L R := wp_rti rfl rfl
theorem i184_16 {w1 : Value} {x : Nat} : WP V 184 16 [.ref x, w1] st t I L R Q = WP V 184 17 [.ref x, w1] (.ref x :: st) t I L R Q := wp_go rfl
theorem i184_17 {k : Nat} (h1 : k < t) (h2 : m_ob k 8 = true) : WP V 184 17 ls (.ref k :: st) t I L R Q = WP V 184 18 ls (.int (I k 3) :: st) t I L R Q := wp_getI rfl (by decide) h1 h2
theorem i184_18 {x : Int32} : WP V 184 18 ls [.int x] t I L R Q = Q (some (.int x)) t I L R := wp_rti rfl rfl
theorem i184_19 {w1 : Value} {x : Nat} : WP V 184 19 [.ref x, w1] st t I L R Q = WP V 184 20 [.ref x, w1] (.ref x :: st) t I L R Q := wp_go rfl
theorem i184_20 {k : Nat} (h1 : k < t) (h2 : m_ob k 8 = true) : WP V 184 20 ls (.ref k :: st) t I L R Q = WP V 184 21 ls (m_rv (R k 0) :: st) t I L R Q := wp_getR rfl (by decide) h1 h2
theorem i184_21  : WP V 184 21 ls st t I L R Q = WP V 184 22 ls (.int (nI 145) :: st) t I L R Q := wp_go rfl
theorem i184_22 {k j : Nat} (h2 : m_ar k 2 612 = true) (h1 : k < t) (h3 : j < 612) : WP V 184 22 ls (.int (nI j) :: .ref k :: st) t I L R Q = WP V 184 23 ls (.int (I k j) :: st) t I L R Q := wp_iaload rfl (by decide) h1 h2 h3
theorem i184_23 {x : Int32} : WP V 184 23 ls [.int x] t I L R Q = Q (some (.int x)) t I L R := wp_rti rfl rfl
theorem i184_24 {w1 : Value} {x : Nat} : WP V 184 24 [.ref x, w1] st t I L R Q = WP V 184 25 [.ref x, w1] (.ref x :: st) t I L R Q := wp_go rfl
theorem i184_25 {k : Nat} (h1 : k < t) (h2 : m_ob k 8 = true) : WP V 184 25 ls (.ref k :: st) t I L R Q = WP V 184 26 ls (m_rv (R k 0) :: st) t I L R Q := wp_getR rfl (by decide) h1 h2
theorem i184_26  : WP V 184 26 ls st t I L R Q = WP V 184 27 ls (.int (nI 146) :: st) t I L R Q := wp_go rfl
theorem i184_27 {k j : Nat} (h2 : m_ar k 2 612 = true) (h1 : k < t) (h3 : j < 612) : WP V 184 27 ls (.int (nI j) :: .ref k :: st) t I L R Q = WP V 184 28 ls (.int (I k j) :: st) t I L R Q := wp_iaload rfl (by decide) h1 h2 h3
theorem i184_28 {x : Int32} : WP V 184 28 ls [.int x] t I L R Q = Q (some (.int x)) t I L R := wp_rti rfl rfl
theorem i184_29 {w1 : Value} {x : Nat} : WP V 184 29 [.ref x, w1] st t I L R Q = WP V 184 30 [.ref x, w1] (.ref x :: st) t I L R Q := wp_go rfl
theorem i184_30 {k : Nat} (h1 : k < t) (h2 : m_ob k 8 = true) : WP V 184 30 ls (.ref k :: st) t I L R Q = WP V 184 31 ls (.int (I k 1) :: st) t I L R Q := wp_getI rfl (by decide) h1 h2
theorem i184_31 {x : Int32} : WP V 184 31 ls [.int x] t I L R Q = Q (some (.int x)) t I L R := wp_rti rfl rfl
theorem i184_32  : WP V 184 32 ls st t I L R Q = WP V 184 33 ls (.int (-102) :: st) t I L R Q := wp_go rfl
theorem i184_33 {x : Int32} : WP V 184 33 ls [.int x] t I L R Q = Q (some (.int x)) t I L R := wp_rti rfl rfl
-- TransactionCellsModel.order(II)I
theorem i185_0 {w0 w2 : Value} {x : Int32} : WP V 185 0 [w0, .int x, w2] st t I L R Q = WP V 185 1 [w0, .int x, w2] (.int x :: st) t I L R Q := wp_go rfl
theorem i185_1  : WP V 185 1 ls st t I L R Q = WP V 185 2 ls (.int (nI 0) :: st) t I L R Q := wp_go rfl
theorem i185_2 {w1 w2 : Value} {x : Nat} : WP V 185 2 [.ref x, w1, w2] st t I L R Q = WP V 185 3 [.ref x, w1, w2] (.ref x :: st) t I L R Q := wp_go rfl
theorem i185_3 {k : Nat} (h1 : k < t) (h2 : m_ob k 8 = true) : WP V 185 3 ls (.ref k :: st) t I L R Q = WP V 185 4 ls (.int (I k 17) :: st) t I L R Q := wp_getI rfl (by decide) h1 h2
theorem i185_4  : WP V 185 4 ls st t I L R Q = WP V 185 5 ls (.int (nI 1) :: st) t I L R Q := wp_go rfl
theorem i185_5 {x y : Int32} : WP V 185 5 ls (.int y :: .int x :: st) t I L R Q = WP V 185 6 ls (.int (x - y) :: st) t I L R Q := wp_go rfl
theorem i185_6 {x0 : Int32} {x1 : Int32} {x2 : Int32}  : WP V 185 6 ls [.int x0, .int x1, .int x2] t I L R Q = WPC V 111 [.int x2, .int x1, .int x0] 185 7 ls [] t I L R Q := wp_cls (wp_ics rfl (by decide)) (by decide) (Nat.le_of_ble_eq_true rfl) rfl rfl (Nat.le_of_ble_eq_true rfl) (Nat.le_of_ble_eq_true rfl)
theorem i185_7 {x : Int32} : WP V 185 7 ls (.int x :: st) t I L R Q = if x = nI 0 then WP V 185 8 ls st t I L R Q else WP V 185 10 ls st t I L R Q := wp_brn (c := m_cc .ne x 0) rfl rfl
theorem i185_8  : WP V 185 8 ls st t I L R Q = WP V 185 9 ls (.int (-101) :: st) t I L R Q := wp_go rfl
theorem i185_9 {x : Int32} : WP V 185 9 ls [.int x] t I L R Q = Q (some (.int x)) t I L R := wp_rti rfl rfl
theorem i185_10 {w0 w1 : Value} {x : Int32} : WP V 185 10 [w0, w1, .int x] st t I L R Q = WP V 185 11 [w0, w1, .int x] (.int x :: st) t I L R Q := wp_go rfl
theorem i185_11 {x : Int32} : WP V 185 11 ls (.int x :: st) t I L R Q = if x = nI 0 then WP V 185 12 ls st t I L R Q else WP V 185 17 ls st t I L R Q := wp_brn (c := m_cc .ne x 0) rfl rfl
theorem i185_12 {w1 w2 : Value} {x : Nat} : WP V 185 12 [.ref x, w1, w2] st t I L R Q = WP V 185 13 [.ref x, w1, w2] (.ref x :: st) t I L R Q := wp_go rfl
theorem i185_13 {k : Nat} (h1 : k < t) (h2 : m_ob k 8 = true) : WP V 185 13 ls (.ref k :: st) t I L R Q = WP V 185 14 ls (m_rv (R k 18) :: st) t I L R Q := wp_getR rfl (by decide) h1 h2
theorem i185_14 {w0 w2 : Value} {x : Int32} : WP V 185 14 [w0, .int x, w2] st t I L R Q = WP V 185 15 [w0, .int x, w2] (.int x :: st) t I L R Q := wp_go rfl
theorem i185_15 {k j : Nat} (h2 : m_ar k 2 60 = true) (h1 : k < t) (h3 : j < 60) : WP V 185 15 ls (.int (nI j) :: .ref k :: st) t I L R Q = WP V 185 16 ls (.int (I k j) :: st) t I L R Q := wp_iaload rfl (by decide) h1 h2 h3
theorem i185_16  : WP V 185 16 ls st t I L R Q = WP V 185 42 ls st t I L R Q := wp_go rfl
theorem i185_17 {w0 w1 : Value} {x : Int32} : WP V 185 17 [w0, w1, .int x] st t I L R Q = WP V 185 18 [w0, w1, .int x] (.int x :: st) t I L R Q := wp_go rfl
theorem i185_18  : WP V 185 18 ls st t I L R Q = WP V 185 19 ls (.int (nI 1) :: st) t I L R Q := wp_go rfl
theorem i185_19 {x y : Int32} : WP V 185 19 ls (.int y :: .int x :: st) t I L R Q = if x = y then WP V 185 20 ls st t I L R Q else WP V 185 25 ls st t I L R Q := wp_brn (c := m_cc .ne x y) rfl rfl
theorem i185_20 {w1 w2 : Value} {x : Nat} : WP V 185 20 [.ref x, w1, w2] st t I L R Q = WP V 185 21 [.ref x, w1, w2] (.ref x :: st) t I L R Q := wp_go rfl
theorem i185_21 {k : Nat} (h1 : k < t) (h2 : m_ob k 8 = true) : WP V 185 21 ls (.ref k :: st) t I L R Q = WP V 185 22 ls (m_rv (R k 19) :: st) t I L R Q := wp_getR rfl (by decide) h1 h2
theorem i185_22 {w0 w2 : Value} {x : Int32} : WP V 185 22 [w0, .int x, w2] st t I L R Q = WP V 185 23 [w0, .int x, w2] (.int x :: st) t I L R Q := wp_go rfl
theorem i185_23 {k j : Nat} (h2 : m_ar k 2 60 = true) (h1 : k < t) (h3 : j < 60) : WP V 185 23 ls (.int (nI j) :: .ref k :: st) t I L R Q = WP V 185 24 ls (.int (I k j) :: st) t I L R Q := wp_iaload rfl (by decide) h1 h2 h3
theorem i185_24  : WP V 185 24 ls st t I L R Q = WP V 185 42 ls st t I L R Q := wp_go rfl
theorem i185_25 {w0 w1 : Value} {x : Int32} : WP V 185 25 [w0, w1, .int x] st t I L R Q = WP V 185 26 [w0, w1, .int x] (.int x :: st) t I L R Q := wp_go rfl
theorem i185_26  : WP V 185 26 ls st t I L R Q = WP V 185 27 ls (.int (nI 2) :: st) t I L R Q := wp_go rfl
theorem i185_27  : WP V 185 27 ls st t I L R Q = WP V 185 28 ls (.int (nI 33) :: st) t I L R Q := wp_go rfl
theorem i185_28 {x0 : Int32} {x1 : Int32} {x2 : Int32}  : WP V 185 28 ls [.int x0, .int x1, .int x2] t I L R Q = WPC V 111 [.int x2, .int x1, .int x0] 185 29 ls [] t I L R Q := wp_cls (wp_ics rfl (by decide)) (by decide) (Nat.le_of_ble_eq_true rfl) rfl rfl (Nat.le_of_ble_eq_true rfl) (Nat.le_of_ble_eq_true rfl)
theorem i185_29 {x : Int32} : WP V 185 29 ls (.int x :: st) t I L R Q = if x = nI 0 then WP V 185 41 ls st t I L R Q else WP V 185 30 ls st t I L R Q := wp_br (c := m_cc .eq x 0) rfl rfl
theorem i185_30 {w1 w2 : Value} {x : Nat} : WP V 185 30 [.ref x, w1, w2] st t I L R Q = WP V 185 31 [.ref x, w1, w2] (.ref x :: st) t I L R Q := wp_go rfl
theorem i185_31 {k : Nat} (h1 : k < t) (h2 : m_ob k 8 = true) : WP V 185 31 ls (.ref k :: st) t I L R Q = WP V 185 32 ls (m_rv (R k 21) :: st) t I L R Q := wp_getR rfl (by decide) h1 h2
theorem i185_32  : WP V 185 32 ls st t I L R Q = WP V 185 33 ls (.int (nI 32) :: st) t I L R Q := wp_go rfl
theorem i185_33 {w0 w2 : Value} {x : Int32} : WP V 185 33 [w0, .int x, w2] st t I L R Q = WP V 185 34 [w0, .int x, w2] (.int x :: st) t I L R Q := wp_go rfl
theorem i185_34 {x y : Int32} : WP V 185 34 ls (.int y :: .int x :: st) t I L R Q = WP V 185 35 ls (.int (x * y) :: st) t I L R Q := wp_go rfl
theorem i185_35 {w0 w1 : Value} {x : Int32} : WP V 185 35 [w0, w1, .int x] st t I L R Q = WP V 185 36 [w0, w1, .int x] (.int x :: st) t I L R Q := wp_go rfl
theorem i185_36 {x y : Int32} : WP V 185 36 ls (.int y :: .int x :: st) t I L R Q = WP V 185 37 ls (.int (x + y) :: st) t I L R Q := wp_go rfl
theorem i185_37  : WP V 185 37 ls st t I L R Q = WP V 185 38 ls (.int (nI 2) :: st) t I L R Q := wp_go rfl
theorem i185_38 {x y : Int32} : WP V 185 38 ls (.int y :: .int x :: st) t I L R Q = WP V 185 39 ls (.int (x - y) :: st) t I L R Q := wp_go rfl
theorem i185_39 {k j : Nat} (h2 : m_ar k 2 1920 = true) (h1 : k < t) (h3 : j < 1920) : WP V 185 39 ls (.int (nI j) :: .ref k :: st) t I L R Q = WP V 185 40 ls (.int (I k j) :: st) t I L R Q := wp_iaload rfl (by decide) h1 h2 h3
theorem i185_40  : WP V 185 40 ls st t I L R Q = WP V 185 42 ls st t I L R Q := wp_go rfl
theorem i185_41  : WP V 185 41 ls st t I L R Q = WP V 185 42 ls (.int (-102) :: st) t I L R Q := wp_go rfl
theorem i185_42 {x : Int32} : WP V 185 42 ls [.int x] t I L R Q = Q (some (.int x)) t I L R := wp_rti rfl rfl
-- TransactionCellsModel.forge(III)I
theorem i186_0 {w0 w2 w3 w4 : Value} {x : Int32} : WP V 186 0 [w0, .int x, w2, w3, w4] st t I L R Q = WP V 186 1 [w0, .int x, w2, w3, w4] (.int x :: st) t I L R Q := wp_go rfl
theorem i186_1  : WP V 186 1 ls st t I L R Q = WP V 186 2 ls (.int (nI 0) :: st) t I L R Q := wp_go rfl
theorem i186_2 {w1 w2 w3 w4 : Value} {x : Nat} : WP V 186 2 [.ref x, w1, w2, w3, w4] st t I L R Q = WP V 186 3 [.ref x, w1, w2, w3, w4] (.ref x :: st) t I L R Q := wp_go rfl
theorem i186_3 {k : Nat} (h1 : k < t) (h2 : m_ob k 8 = true) : WP V 186 3 ls (.ref k :: st) t I L R Q = WP V 186 4 ls (.int (I k 17) :: st) t I L R Q := wp_getI rfl (by decide) h1 h2
theorem i186_4  : WP V 186 4 ls st t I L R Q = WP V 186 5 ls (.int (nI 1) :: st) t I L R Q := wp_go rfl
theorem i186_5 {x y : Int32} : WP V 186 5 ls (.int y :: .int x :: st) t I L R Q = WP V 186 6 ls (.int (x - y) :: st) t I L R Q := wp_go rfl
theorem i186_6 {x0 : Int32} {x1 : Int32} {x2 : Int32}  : WP V 186 6 ls [.int x0, .int x1, .int x2] t I L R Q = WPC V 111 [.int x2, .int x1, .int x0] 186 7 ls [] t I L R Q := wp_cls (wp_ics rfl (by decide)) (by decide) (Nat.le_of_ble_eq_true rfl) rfl rfl (Nat.le_of_ble_eq_true rfl) (Nat.le_of_ble_eq_true rfl)
theorem i186_7 {x : Int32} : WP V 186 7 ls (.int x :: st) t I L R Q = if x = nI 0 then WP V 186 8 ls st t I L R Q else WP V 186 10 ls st t I L R Q := wp_brn (c := m_cc .ne x 0) rfl rfl
theorem i186_8  : WP V 186 8 ls st t I L R Q = WP V 186 9 ls (.int (-101) :: st) t I L R Q := wp_go rfl
theorem i186_9 {x : Int32} : WP V 186 9 ls [.int x] t I L R Q = Q (some (.int x)) t I L R := wp_rti rfl rfl
theorem i186_10 {w0 w1 w3 w4 : Value} {x : Int32} : WP V 186 10 [w0, w1, .int x, w3, w4] st t I L R Q = WP V 186 11 [w0, w1, .int x, w3, w4] (.int x :: st) t I L R Q := wp_go rfl
theorem i186_11  : WP V 186 11 ls st t I L R Q = WP V 186 12 ls (.int (nI 2) :: st) t I L R Q := wp_go rfl
theorem i186_12  : WP V 186 12 ls st t I L R Q = WP V 186 13 ls (.int (nI 33) :: st) t I L R Q := wp_go rfl
theorem i186_13 {x0 : Int32} {x1 : Int32} {x2 : Int32}  : WP V 186 13 ls [.int x0, .int x1, .int x2] t I L R Q = WPC V 111 [.int x2, .int x1, .int x0] 186 14 ls [] t I L R Q := wp_cls (wp_ics rfl (by decide)) (by decide) (Nat.le_of_ble_eq_true rfl) rfl rfl (Nat.le_of_ble_eq_true rfl) (Nat.le_of_ble_eq_true rfl)
theorem i186_14 {x : Int32} : WP V 186 14 ls (.int x :: st) t I L R Q = if x = nI 0 then WP V 186 30 ls st t I L R Q else WP V 186 15 ls st t I L R Q := wp_br (c := m_cc .eq x 0) rfl rfl
theorem i186_15 {w0 w1 w3 w4 : Value} {x : Int32} : WP V 186 15 [w0, w1, .int x, w3, w4] st t I L R Q = WP V 186 16 [w0, w1, .int x, w3, w4] (.int x :: st) t I L R Q := wp_go rfl
theorem i186_16  : WP V 186 16 ls st t I L R Q = WP V 186 17 ls (.int (nI 2) :: st) t I L R Q := wp_go rfl
theorem i186_17  : WP V 186 17 ls st t I L R Q = WP V 186 18 ls (.int (nI 9) :: st) t I L R Q := wp_go rfl
theorem i186_18 {x0 : Int32} {x1 : Int32} {x2 : Int32}  : WP V 186 18 ls [.int x0, .int x1, .int x2] t I L R Q = WPC V 111 [.int x2, .int x1, .int x0] 186 19 ls [] t I L R Q := wp_cls (wp_ics rfl (by decide)) (by decide) (Nat.le_of_ble_eq_true rfl) rfl rfl (Nat.le_of_ble_eq_true rfl) (Nat.le_of_ble_eq_true rfl)
theorem i186_19 {x : Int32} : WP V 186 19 ls (.int x :: st) t I L R Q = if x = nI 0 then WP V 186 20 ls st t I L R Q else WP V 186 25 ls st t I L R Q := wp_brn (c := m_cc .ne x 0) rfl rfl
theorem i186_20 {w0 w1 w3 w4 : Value} {x : Int32} : WP V 186 20 [w0, w1, .int x, w3, w4] st t I L R Q = WP V 186 21 [w0, w1, .int x, w3, w4] (.int x :: st) t I L R Q := wp_go rfl
theorem i186_21  : WP V 186 21 ls st t I L R Q = WP V 186 22 ls (.int (nI 18) :: st) t I L R Q := wp_go rfl
theorem i186_22  : WP V 186 22 ls st t I L R Q = WP V 186 23 ls (.int (nI 25) :: st) t I L R Q := wp_go rfl
theorem i186_23 {x0 : Int32} {x1 : Int32} {x2 : Int32}  : WP V 186 23 ls [.int x0, .int x1, .int x2] t I L R Q = WPC V 111 [.int x2, .int x1, .int x0] 186 24 ls [] t I L R Q := wp_cls (wp_ics rfl (by decide)) (by decide) (Nat.le_of_ble_eq_true rfl) rfl rfl (Nat.le_of_ble_eq_true rfl) (Nat.le_of_ble_eq_true rfl)
theorem i186_24 {x : Int32} : WP V 186 24 ls (.int x :: st) t I L R Q = if x = nI 0 then WP V 186 32 ls st t I L R Q else WP V 186 25 ls st t I L R Q := wp_br (c := m_cc .eq x 0) rfl rfl
theorem i186_25 {w0 w1 w2 w4 : Value} {x : Int32} : WP V 186 25 [w0, w1, w2, .int x, w4] st t I L R Q = WP V 186 26 [w0, w1, w2, .int x, w4] (.int x :: st) t I L R Q := wp_go rfl
theorem i186_26  : WP V 186 26 ls st t I L R Q = WP V 186 27 ls (.int (-1) :: st) t I L R Q := wp_go rfl
theorem i186_27  : WP V 186 27 ls st t I L R Q = WP V 186 28 ls (.int (nI 2) :: st) t I L R Q := wp_go rfl
theorem i186_28 {x0 : Int32} {x1 : Int32} {x2 : Int32}  : WP V 186 28 ls [.int x0, .int x1, .int x2] t I L R Q = WPC V 111 [.int x2, .int x1, .int x0] 186 29 ls [] t I L R Q := wp_cls (wp_ics rfl (by decide)) (by decide) (Nat.le_of_ble_eq_true rfl) rfl rfl (Nat.le_of_ble_eq_true rfl) (Nat.le_of_ble_eq_true rfl)
theorem i186_29 {x : Int32} : WP V 186 29 ls (.int x :: st) t I L R Q = if x = nI 0 then WP V 186 30 ls st t I L R Q else WP V 186 32 ls st t I L R Q := wp_brn (c := m_cc .ne x 0) rfl rfl
theorem i186_30  : WP V 186 30 ls st t I L R Q = WP V 186 31 ls (.int (-102) :: st) t I L R Q := wp_go rfl
theorem i186_31 {x : Int32} : WP V 186 31 ls [.int x] t I L R Q = Q (some (.int x)) t I L R := wp_rti rfl rfl
theorem i186_32 {w1 w2 w3 w4 : Value} {x : Nat} : WP V 186 32 [.ref x, w1, w2, w3, w4] st t I L R Q = WP V 186 33 [.ref x, w1, w2, w3, w4] (.ref x :: st) t I L R Q := wp_go rfl
theorem i186_33 {k : Nat} (h1 : k < t) (h2 : m_ob k 8 = true) : WP V 186 33 ls (.ref k :: st) t I L R Q = WP V 186 34 ls (m_rv (R k 21) :: st) t I L R Q := wp_getR rfl (by decide) h1 h2
theorem i186_34  : WP V 186 34 ls st t I L R Q = WP V 186 35 ls (.int (nI 32) :: st) t I L R Q := wp_go rfl
theorem i186_35 {w0 w2 w3 w4 : Value} {x : Int32} : WP V 186 35 [w0, .int x, w2, w3, w4] st t I L R Q = WP V 186 36 [w0, .int x, w2, w3, w4] (.int x :: st) t I L R Q := wp_go rfl
theorem i186_36 {x y : Int32} : WP V 186 36 ls (.int y :: .int x :: st) t I L R Q = WP V 186 37 ls (.int (x * y) :: st) t I L R Q := wp_go rfl
theorem i186_37 {w0 w1 w3 w4 : Value} {x : Int32} : WP V 186 37 [w0, w1, .int x, w3, w4] st t I L R Q = WP V 186 38 [w0, w1, .int x, w3, w4] (.int x :: st) t I L R Q := wp_go rfl
theorem i186_38 {x y : Int32} : WP V 186 38 ls (.int y :: .int x :: st) t I L R Q = WP V 186 39 ls (.int (x + y) :: st) t I L R Q := wp_go rfl
theorem i186_39  : WP V 186 39 ls st t I L R Q = WP V 186 40 ls (.int (nI 2) :: st) t I L R Q := wp_go rfl
theorem i186_40 {x y : Int32} : WP V 186 40 ls (.int y :: .int x :: st) t I L R Q = WP V 186 41 ls (.int (x - y) :: st) t I L R Q := wp_go rfl
theorem i186_41 {k j : Nat} (h2 : m_ar k 2 1920 = true) (h1 : k < t) (h3 : j < 1920) : WP V 186 41 ls (.int (nI j) :: .ref k :: st) t I L R Q = WP V 186 42 ls (.int (I k j) :: st) t I L R Q := wp_iaload rfl (by decide) h1 h2 h3
theorem i186_42 {p : Int32} {w0 w1 w2 w4 : Value} {x : Int32} : WP V 186 42 [w0, w1, w2, .int p, w4] (.int x :: st) t I L R Q = WP V 186 43 [w0, w1, w2, .int p, .int x] st t I L R Q := wp_go rfl
theorem i186_43 {w1 w2 w3 w4 : Value} {x : Nat} : WP V 186 43 [.ref x, w1, w2, w3, w4] st t I L R Q = WP V 186 44 [.ref x, w1, w2, w3, w4] (.ref x :: st) t I L R Q := wp_go rfl
theorem i186_44 {k : Nat} (h1 : k < t) (h2 : m_ob k 8 = true) : WP V 186 44 ls (.ref k :: st) t I L R Q = WP V 186 45 ls (m_rv (R k 21) :: st) t I L R Q := wp_getR rfl (by decide) h1 h2
theorem i186_45  : WP V 186 45 ls st t I L R Q = WP V 186 46 ls (.int (nI 32) :: st) t I L R Q := wp_go rfl
theorem i186_46 {w0 w2 w3 w4 : Value} {x : Int32} : WP V 186 46 [w0, .int x, w2, w3, w4] st t I L R Q = WP V 186 47 [w0, .int x, w2, w3, w4] (.int x :: st) t I L R Q := wp_go rfl
theorem i186_47 {x y : Int32} : WP V 186 47 ls (.int y :: .int x :: st) t I L R Q = WP V 186 48 ls (.int (x * y) :: st) t I L R Q := wp_go rfl
theorem i186_48 {w0 w1 w3 w4 : Value} {x : Int32} : WP V 186 48 [w0, w1, .int x, w3, w4] st t I L R Q = WP V 186 49 [w0, w1, .int x, w3, w4] (.int x :: st) t I L R Q := wp_go rfl
theorem i186_49 {x y : Int32} : WP V 186 49 ls (.int y :: .int x :: st) t I L R Q = WP V 186 50 ls (.int (x + y) :: st) t I L R Q := wp_go rfl
theorem i186_50  : WP V 186 50 ls st t I L R Q = WP V 186 51 ls (.int (nI 2) :: st) t I L R Q := wp_go rfl
theorem i186_51 {x y : Int32} : WP V 186 51 ls (.int y :: .int x :: st) t I L R Q = WP V 186 52 ls (.int (x - y) :: st) t I L R Q := wp_go rfl
theorem i186_52 {w0 w1 w2 w4 : Value} {x : Int32} : WP V 186 52 [w0, w1, w2, .int x, w4] st t I L R Q = WP V 186 53 [w0, w1, w2, .int x, w4] (.int x :: st) t I L R Q := wp_go rfl
theorem i186_53 {k j : Nat} {x : Int32} (h2 : m_ar k 2 1920 = true) (h1 : k < t) (h3 : j < 1920) : WP V 186 53 ls (.int x :: .int (nI j) :: .ref k :: st) t I L R Q = WP V 186 54 ls st t (m_sc I k (m_sc (I k) j x)) L R Q := wp_iastore rfl (by decide) h1 h2 h3
theorem i186_54 {w0 w1 w2 w3 : Value} {x : Int32} : WP V 186 54 [w0, w1, w2, w3, .int x] st t I L R Q = WP V 186 55 [w0, w1, w2, w3, .int x] (.int x :: st) t I L R Q := wp_go rfl
theorem i186_55 {x : Int32} : WP V 186 55 ls [.int x] t I L R Q = Q (some (.int x)) t I L R := wp_rti rfl rfl
-- TransactionCellsModel.check()I
theorem i187_0 {w1 w2 w3 w4 : Value} {x : Nat} : WP V 187 0 [.ref x, w1, w2, w3, w4] st t I L R Q = WP V 187 1 [.ref x, w1, w2, w3, w4] (.ref x :: st) t I L R Q := wp_go rfl
theorem i187_1 {k : Nat} (h1 : k < t) (h2 : m_ob k 8 = true) : WP V 187 1 ls (.ref k :: st) t I L R Q = WP V 187 2 ls (.int (I k 4) :: st) t I L R Q := wp_getI rfl (by decide) h1 h2
theorem i187_2  : WP V 187 2 ls st t I L R Q = WP V 187 3 ls (.int (nI 60) :: st) t I L R Q := wp_go rfl
theorem i187_3 {x y : Int32} : WP V 187 3 ls (.int y :: .int x :: st) t I L R Q = if x ≤ y then WP V 187 6 ls st t I L R Q else WP V 187 4 ls st t I L R Q := wp_br (c := m_cc .le x y) rfl rfl
theorem i187_4  : WP V 187 4 ls st t I L R Q = WP V 187 5 ls (.int (-103) :: st) t I L R Q := wp_go rfl
theorem i187_5 {x : Int32} : WP V 187 5 ls [.int x] t I L R Q = Q (some (.int x)) t I L R := wp_rti rfl rfl
theorem i187_6  : WP V 187 6 ls st t I L R Q = WP V 187 7 ls (.int (nI 0) :: st) t I L R Q := wp_go rfl
theorem i187_7 {p : Nat} {w1 w2 w3 w4 : Value} {x : Int32} : WP V 187 7 [.ref p, w1, w2, w3, w4] (.int x :: st) t I L R Q = WP V 187 8 [.ref p, .int x, w2, w3, w4] st t I L R Q := wp_go rfl
theorem i187_8 {w0 w2 w3 w4 : Value} {x : Int32} : WP V 187 8 [w0, .int x, w2, w3, w4] st t I L R Q = WP V 187 9 [w0, .int x, w2, w3, w4] (.int x :: st) t I L R Q := wp_go rfl
theorem i187_9  : WP V 187 9 ls st t I L R Q = WP V 187 10 ls (.int (nI 8) :: st) t I L R Q := wp_go rfl
theorem i187_10 {x y : Int32} : WP V 187 10 ls (.int y :: .int x :: st) t I L R Q = if y ≤ x then WP V 187 29 ls st t I L R Q else WP V 187 11 ls st t I L R Q := wp_br (c := m_cc .ge x y) rfl rfl
theorem i187_11 {w1 w2 w3 w4 : Value} {x : Nat} : WP V 187 11 [.ref x, w1, w2, w3, w4] st t I L R Q = WP V 187 12 [.ref x, w1, w2, w3, w4] (.ref x :: st) t I L R Q := wp_go rfl
theorem i187_12 {k : Nat} (h1 : k < t) (h2 : m_ob k 8 = true) : WP V 187 12 ls (.ref k :: st) t I L R Q = WP V 187 13 ls (m_rv (R k 35) :: st) t I L R Q := wp_getR rfl (by decide) h1 h2
theorem i187_13 {w0 w2 w3 w4 : Value} {x : Int32} : WP V 187 13 [w0, .int x, w2, w3, w4] st t I L R Q = WP V 187 14 [w0, .int x, w2, w3, w4] (.int x :: st) t I L R Q := wp_go rfl
theorem i187_14 {w1 w2 w3 w4 : Value} {x : Nat} : WP V 187 14 [.ref x, w1, w2, w3, w4] st t I L R Q = WP V 187 15 [.ref x, w1, w2, w3, w4] (.ref x :: st) t I L R Q := wp_go rfl
theorem i187_15 {k : Nat} (h1 : k < t) (h2 : m_ob k 8 = true) : WP V 187 15 ls (.ref k :: st) t I L R Q = WP V 187 16 ls (m_rv (R k 15) :: st) t I L R Q := wp_getR rfl (by decide) h1 h2
theorem i187_16 {w0 w2 w3 w4 : Value} {x : Int32} : WP V 187 16 [w0, .int x, w2, w3, w4] st t I L R Q = WP V 187 17 [w0, .int x, w2, w3, w4] (.int x :: st) t I L R Q := wp_go rfl
theorem i187_17 {k j : Nat} (h2 : m_ar k 2 8 = true) (h1 : k < t) (h3 : j < 8) : WP V 187 17 ls (.int (nI j) :: .ref k :: st) t I L R Q = WP V 187 18 ls (.int (I k j) :: st) t I L R Q := wp_iaload rfl (by decide) h1 h2 h3
theorem i187_18 {k j : Nat} {x : Int32} (h2 : m_ar k 2 8 = true) (h1 : k < t) (h3 : j < 8) : WP V 187 18 ls (.int x :: .int (nI j) :: .ref k :: st) t I L R Q = WP V 187 19 ls st t (m_sc I k (m_sc (I k) j x)) L R Q := wp_iastore rfl (by decide) h1 h2 h3
theorem i187_19 {w1 w2 w3 w4 : Value} {x : Nat} : WP V 187 19 [.ref x, w1, w2, w3, w4] st t I L R Q = WP V 187 20 [.ref x, w1, w2, w3, w4] (.ref x :: st) t I L R Q := wp_go rfl
theorem i187_20 {k : Nat} (h1 : k < t) (h2 : m_ob k 8 = true) : WP V 187 20 ls (.ref k :: st) t I L R Q = WP V 187 21 ls (m_rv (R k 36) :: st) t I L R Q := wp_getR rfl (by decide) h1 h2
theorem i187_21 {w0 w2 w3 w4 : Value} {x : Int32} : WP V 187 21 [w0, .int x, w2, w3, w4] st t I L R Q = WP V 187 22 [w0, .int x, w2, w3, w4] (.int x :: st) t I L R Q := wp_go rfl
theorem i187_22 {w1 w2 w3 w4 : Value} {x : Nat} : WP V 187 22 [.ref x, w1, w2, w3, w4] st t I L R Q = WP V 187 23 [.ref x, w1, w2, w3, w4] (.ref x :: st) t I L R Q := wp_go rfl
theorem i187_23 {k : Nat} (h1 : k < t) (h2 : m_ob k 8 = true) : WP V 187 23 ls (.ref k :: st) t I L R Q = WP V 187 24 ls (m_rv (R k 16) :: st) t I L R Q := wp_getR rfl (by decide) h1 h2
theorem i187_24 {w0 w2 w3 w4 : Value} {x : Int32} : WP V 187 24 [w0, .int x, w2, w3, w4] st t I L R Q = WP V 187 25 [w0, .int x, w2, w3, w4] (.int x :: st) t I L R Q := wp_go rfl
theorem i187_25 {k j : Nat} (h2 : m_ar k 2 8 = true) (h1 : k < t) (h3 : j < 8) : WP V 187 25 ls (.int (nI j) :: .ref k :: st) t I L R Q = WP V 187 26 ls (.int (I k j) :: st) t I L R Q := wp_iaload rfl (by decide) h1 h2 h3
theorem i187_26 {k j : Nat} {x : Int32} (h2 : m_ar k 2 8 = true) (h1 : k < t) (h3 : j < 8) : WP V 187 26 ls (.int x :: .int (nI j) :: .ref k :: st) t I L R Q = WP V 187 27 ls st t (m_sc I k (m_sc (I k) j x)) L R Q := wp_iastore rfl (by decide) h1 h2 h3
theorem i187_27 {p : Nat} {w2 w3 w4 : Value} {x : Int32} : WP V 187 27 [.ref p, .int x, w2, w3, w4] st t I L R Q = WP V 187 28 [.ref p, .int (x + (nI 1)), w2, w3, w4] st t I L R Q := wp_go rfl
theorem i187_28  : WP V 187 28 ls st t I L R Q = WP V 187 8 ls st t I L R Q := wp_go rfl
theorem i187_29  : WP V 187 29 ls st t I L R Q = WP V 187 30 ls (.int (nI 0) :: st) t I L R Q := wp_go rfl
theorem i187_30 {p : Nat} {w1 w2 w3 w4 : Value} {x : Int32} : WP V 187 30 [.ref p, w1, w2, w3, w4] (.int x :: st) t I L R Q = WP V 187 31 [.ref p, .int x, w2, w3, w4] st t I L R Q := wp_go rfl
theorem i187_31 {w0 w2 w3 w4 : Value} {x : Int32} : WP V 187 31 [w0, .int x, w2, w3, w4] st t I L R Q = WP V 187 32 [w0, .int x, w2, w3, w4] (.int x :: st) t I L R Q := wp_go rfl
theorem i187_32 {w1 w2 w3 w4 : Value} {x : Nat} : WP V 187 32 [.ref x, w1, w2, w3, w4] st t I L R Q = WP V 187 33 [.ref x, w1, w2, w3, w4] (.ref x :: st) t I L R Q := wp_go rfl
theorem i187_33 {k : Nat} (h1 : k < t) (h2 : m_ob k 8 = true) : WP V 187 33 ls (.ref k :: st) t I L R Q = WP V 187 34 ls (.int (I k 17) :: st) t I L R Q := wp_getI rfl (by decide) h1 h2
theorem i187_34 {x y : Int32} : WP V 187 34 ls (.int y :: .int x :: st) t I L R Q = if y ≤ x then WP V 187 124 ls st t I L R Q else WP V 187 35 ls st t I L R Q := wp_br (c := m_cc .ge x y) rfl rfl
theorem i187_35  : WP V 187 35 ls st t I L R Q = WP V 187 36 ls (.int (nI 32) :: st) t I L R Q := wp_go rfl
theorem i187_36 {w0 w2 w3 w4 : Value} {x : Int32} : WP V 187 36 [w0, .int x, w2, w3, w4] st t I L R Q = WP V 187 37 [w0, .int x, w2, w3, w4] (.int x :: st) t I L R Q := wp_go rfl
theorem i187_37 {x y : Int32} : WP V 187 37 ls (.int y :: .int x :: st) t I L R Q = WP V 187 38 ls (.int (x * y) :: st) t I L R Q := wp_go rfl
theorem i187_38 {p : Int32} {w0 w2 w3 w4 : Value} {x : Int32} : WP V 187 38 [w0, .int p, w2, w3, w4] (.int x :: st) t I L R Q = WP V 187 39 [w0, .int p, .int x, w3, w4] st t I L R Q := wp_go rfl
theorem i187_39  : WP V 187 39 ls st t I L R Q = WP V 187 40 ls (.int (nI 0) :: st) t I L R Q := wp_go rfl
theorem i187_40 {p : Int32} {w0 w1 w3 w4 : Value} {x : Int32} : WP V 187 40 [w0, w1, .int p, w3, w4] (.int x :: st) t I L R Q = WP V 187 41 [w0, w1, .int p, .int x, w4] st t I L R Q := wp_go rfl
theorem i187_41 {w0 w1 w2 w4 : Value} {x : Int32} : WP V 187 41 [w0, w1, w2, .int x, w4] st t I L R Q = WP V 187 42 [w0, w1, w2, .int x, w4] (.int x :: st) t I L R Q := wp_go rfl
theorem i187_42  : WP V 187 42 ls st t I L R Q = WP V 187 43 ls (.int (nI 8) :: st) t I L R Q := wp_go rfl
theorem i187_43 {x y : Int32} : WP V 187 43 ls (.int y :: .int x :: st) t I L R Q = if y ≤ x then WP V 187 81 ls st t I L R Q else WP V 187 44 ls st t I L R Q := wp_br (c := m_cc .ge x y) rfl rfl
theorem i187_44 {w1 w2 w3 w4 : Value} {x : Nat} : WP V 187 44 [.ref x, w1, w2, w3, w4] st t I L R Q = WP V 187 45 [.ref x, w1, w2, w3, w4] (.ref x :: st) t I L R Q := wp_go rfl
theorem i187_45 {k : Nat} (h1 : k < t) (h2 : m_ob k 8 = true) : WP V 187 45 ls (.ref k :: st) t I L R Q = WP V 187 46 ls (m_rv (R k 21) :: st) t I L R Q := wp_getR rfl (by decide) h1 h2
theorem i187_46 {w0 w1 w3 w4 : Value} {x : Int32} : WP V 187 46 [w0, w1, .int x, w3, w4] st t I L R Q = WP V 187 47 [w0, w1, .int x, w3, w4] (.int x :: st) t I L R Q := wp_go rfl
theorem i187_47 {w0 w1 w2 w4 : Value} {x : Int32} : WP V 187 47 [w0, w1, w2, .int x, w4] st t I L R Q = WP V 187 48 [w0, w1, w2, .int x, w4] (.int x :: st) t I L R Q := wp_go rfl
theorem i187_48 {x y : Int32} : WP V 187 48 ls (.int y :: .int x :: st) t I L R Q = WP V 187 49 ls (.int (x + y) :: st) t I L R Q := wp_go rfl
theorem i187_49 {k j : Nat} (h2 : m_ar k 2 1920 = true) (h1 : k < t) (h3 : j < 1920) : WP V 187 49 ls (.int (nI j) :: .ref k :: st) t I L R Q = WP V 187 50 ls (.int (I k j) :: st) t I L R Q := wp_iaload rfl (by decide) h1 h2 h3
theorem i187_50 {p : Int32} {w0 w1 w2 w4 : Value} {x : Int32} : WP V 187 50 [w0, w1, w2, .int p, w4] (.int x :: st) t I L R Q = WP V 187 51 [w0, w1, w2, .int p, .int x] st t I L R Q := wp_go rfl
theorem i187_51 {w0 w1 w2 w3 : Value} {x : Int32} : WP V 187 51 [w0, w1, w2, w3, .int x] st t I L R Q = WP V 187 52 [w0, w1, w2, w3, .int x] (.int x :: st) t I L R Q := wp_go rfl
theorem i187_52  : WP V 187 52 ls st t I L R Q = WP V 187 53 ls (.int (-1) :: st) t I L R Q := wp_go rfl
theorem i187_53 {x y : Int32} : WP V 187 53 ls (.int y :: .int x :: st) t I L R Q = if x = y then WP V 187 79 ls st t I L R Q else WP V 187 54 ls st t I L R Q := wp_br (c := m_cc .eq x y) rfl rfl
theorem i187_54 {w0 w1 w2 w3 : Value} {x : Int32} : WP V 187 54 [w0, w1, w2, w3, .int x] st t I L R Q = WP V 187 55 [w0, w1, w2, w3, .int x] (.int x :: st) t I L R Q := wp_go rfl
theorem i187_55 {w1 w2 w3 w4 : Value} {x : Nat} : WP V 187 55 [.ref x, w1, w2, w3, w4] st t I L R Q = WP V 187 56 [.ref x, w1, w2, w3, w4] (.ref x :: st) t I L R Q := wp_go rfl
theorem i187_56 {k : Nat} (h1 : k < t) (h2 : m_ob k 8 = true) : WP V 187 56 ls (.ref k :: st) t I L R Q = WP V 187 57 ls (m_rv (R k 35) :: st) t I L R Q := wp_getR rfl (by decide) h1 h2
theorem i187_57 {w0 w1 w2 w4 : Value} {x : Int32} : WP V 187 57 [w0, w1, w2, .int x, w4] st t I L R Q = WP V 187 58 [w0, w1, w2, .int x, w4] (.int x :: st) t I L R Q := wp_go rfl
theorem i187_58 {k j : Nat} (h2 : m_ar k 2 8 = true) (h1 : k < t) (h3 : j < 8) : WP V 187 58 ls (.int (nI j) :: .ref k :: st) t I L R Q = WP V 187 59 ls (.int (I k j) :: st) t I L R Q := wp_iaload rfl (by decide) h1 h2 h3
theorem i187_59 {x y : Int32} : WP V 187 59 ls (.int y :: .int x :: st) t I L R Q = if x = y then WP V 187 60 ls st t I L R Q else WP V 187 73 ls st t I L R Q := wp_brn (c := m_cc .ne x y) rfl rfl
theorem i187_60 {w1 w2 w3 w4 : Value} {x : Nat} : WP V 187 60 [.ref x, w1, w2, w3, w4] st t I L R Q = WP V 187 61 [.ref x, w1, w2, w3, w4] (.ref x :: st) t I L R Q := wp_go rfl
theorem i187_61 {k : Nat} (h1 : k < t) (h2 : m_ob k 8 = true) : WP V 187 61 ls (.ref k :: st) t I L R Q = WP V 187 62 ls (m_rv (R k 21) :: st) t I L R Q := wp_getR rfl (by decide) h1 h2
theorem i187_62 {w0 w1 w3 w4 : Value} {x : Int32} : WP V 187 62 [w0, w1, .int x, w3, w4] st t I L R Q = WP V 187 63 [w0, w1, .int x, w3, w4] (.int x :: st) t I L R Q := wp_go rfl
theorem i187_63  : WP V 187 63 ls st t I L R Q = WP V 187 64 ls (.int (nI 8) :: st) t I L R Q := wp_go rfl
theorem i187_64 {x y : Int32} : WP V 187 64 ls (.int y :: .int x :: st) t I L R Q = WP V 187 65 ls (.int (x + y) :: st) t I L R Q := wp_go rfl
theorem i187_65 {w0 w1 w2 w4 : Value} {x : Int32} : WP V 187 65 [w0, w1, w2, .int x, w4] st t I L R Q = WP V 187 66 [w0, w1, w2, .int x, w4] (.int x :: st) t I L R Q := wp_go rfl
theorem i187_66 {x y : Int32} : WP V 187 66 ls (.int y :: .int x :: st) t I L R Q = WP V 187 67 ls (.int (x + y) :: st) t I L R Q := wp_go rfl
theorem i187_67 {k j : Nat} (h2 : m_ar k 2 1920 = true) (h1 : k < t) (h3 : j < 1920) : WP V 187 67 ls (.int (nI j) :: .ref k :: st) t I L R Q = WP V 187 68 ls (.int (I k j) :: st) t I L R Q := wp_iaload rfl (by decide) h1 h2 h3
theorem i187_68 {w1 w2 w3 w4 : Value} {x : Nat} : WP V 187 68 [.ref x, w1, w2, w3, w4] st t I L R Q = WP V 187 69 [.ref x, w1, w2, w3, w4] (.ref x :: st) t I L R Q := wp_go rfl
theorem i187_69 {k : Nat} (h1 : k < t) (h2 : m_ob k 8 = true) : WP V 187 69 ls (.ref k :: st) t I L R Q = WP V 187 70 ls (m_rv (R k 36) :: st) t I L R Q := wp_getR rfl (by decide) h1 h2
theorem i187_70 {w0 w1 w2 w4 : Value} {x : Int32} : WP V 187 70 [w0, w1, w2, .int x, w4] st t I L R Q = WP V 187 71 [w0, w1, w2, .int x, w4] (.int x :: st) t I L R Q := wp_go rfl
theorem i187_71 {k j : Nat} (h2 : m_ar k 2 8 = true) (h1 : k < t) (h3 : j < 8) : WP V 187 71 ls (.int (nI j) :: .ref k :: st) t I L R Q = WP V 187 72 ls (.int (I k j) :: st) t I L R Q := wp_iaload rfl (by decide) h1 h2 h3
theorem i187_72 {x y : Int32} : WP V 187 72 ls (.int y :: .int x :: st) t I L R Q = if x = y then WP V 187 79 ls st t I L R Q else WP V 187 73 ls st t I L R Q := wp_br (c := m_cc .eq x y) rfl rfl
theorem i187_73  : WP V 187 73 ls st t I L R Q = WP V 187 74 ls (.int (nI 8) :: st) t I L R Q := wp_go rfl
theorem i187_74 {w0 w2 w3 w4 : Value} {x : Int32} : WP V 187 74 [w0, .int x, w2, w3, w4] st t I L R Q = WP V 187 75 [w0, .int x, w2, w3, w4] (.int x :: st) t I L R Q := wp_go rfl
theorem i187_75 {x y : Int32} : WP V 187 75 ls (.int y :: .int x :: st) t I L R Q = WP V 187 76 ls (.int (x * y) :: st) t I L R Q := wp_go rfl
theorem i187_76 {w0 w1 w2 w4 : Value} {x : Int32} : WP V 187 76 [w0, w1, w2, .int x, w4] st t I L R Q = WP V 187 77 [w0, w1, w2, .int x, w4] (.int x :: st) t I L R Q := wp_go rfl
theorem i187_77 {x y : Int32} : WP V 187 77 ls (.int y :: .int x :: st) t I L R Q = WP V 187 78 ls (.int (x + y) :: st) t I L R Q := wp_go rfl
theorem i187_78 {x : Int32} : WP V 187 78 ls [.int x] t I L R Q = Q (some (.int x)) t I L R := wp_rti rfl rfl
theorem i187_79 {p : Int32} {w0 w1 w4 : Value} {x : Int32} : WP V 187 79 [w0, w1, .int p, .int x, w4] st t I L R Q = WP V 187 80 [w0, w1, .int p, .int (x + (nI 1)), w4] st t I L R Q := wp_go rfl
theorem i187_80  : WP V 187 80 ls st t I L R Q = WP V 187 41 ls st t I L R Q := wp_go rfl
theorem i187_81  : WP V 187 81 ls st t I L R Q = WP V 187 82 ls (.int (nI 0) :: st) t I L R Q := wp_go rfl
theorem i187_82 {p : Int32} {w0 w1 w3 w4 : Value} {x : Int32} : WP V 187 82 [w0, w1, .int p, w3, w4] (.int x :: st) t I L R Q = WP V 187 83 [w0, w1, .int p, .int x, w4] st t I L R Q := wp_go rfl
theorem i187_83 {w0 w1 w2 w4 : Value} {x : Int32} : WP V 187 83 [w0, w1, w2, .int x, w4] st t I L R Q = WP V 187 84 [w0, w1, w2, .int x, w4] (.int x :: st) t I L R Q := wp_go rfl
theorem i187_84  : WP V 187 84 ls st t I L R Q = WP V 187 85 ls (.int (nI 8) :: st) t I L R Q := wp_go rfl
theorem i187_85 {x y : Int32} : WP V 187 85 ls (.int y :: .int x :: st) t I L R Q = if y ≤ x then WP V 187 122 ls st t I L R Q else WP V 187 86 ls st t I L R Q := wp_br (c := m_cc .ge x y) rfl rfl
theorem i187_86 {w1 w2 w3 w4 : Value} {x : Nat} : WP V 187 86 [.ref x, w1, w2, w3, w4] st t I L R Q = WP V 187 87 [.ref x, w1, w2, w3, w4] (.ref x :: st) t I L R Q := wp_go rfl
theorem i187_87 {k : Nat} (h1 : k < t) (h2 : m_ob k 8 = true) : WP V 187 87 ls (.ref k :: st) t I L R Q = WP V 187 88 ls (m_rv (R k 21) :: st) t I L R Q := wp_getR rfl (by decide) h1 h2
theorem i187_88 {w0 w1 w3 w4 : Value} {x : Int32} : WP V 187 88 [w0, w1, .int x, w3, w4] st t I L R Q = WP V 187 89 [w0, w1, .int x, w3, w4] (.int x :: st) t I L R Q := wp_go rfl
theorem i187_89  : WP V 187 89 ls st t I L R Q = WP V 187 90 ls (.int (nI 16) :: st) t I L R Q := wp_go rfl
theorem i187_90 {x y : Int32} : WP V 187 90 ls (.int y :: .int x :: st) t I L R Q = WP V 187 91 ls (.int (x + y) :: st) t I L R Q := wp_go rfl
theorem i187_91 {w0 w1 w2 w4 : Value} {x : Int32} : WP V 187 91 [w0, w1, w2, .int x, w4] st t I L R Q = WP V 187 92 [w0, w1, w2, .int x, w4] (.int x :: st) t I L R Q := wp_go rfl
theorem i187_92 {x y : Int32} : WP V 187 92 ls (.int y :: .int x :: st) t I L R Q = WP V 187 93 ls (.int (x + y) :: st) t I L R Q := wp_go rfl
theorem i187_93 {k j : Nat} (h2 : m_ar k 2 1920 = true) (h1 : k < t) (h3 : j < 1920) : WP V 187 93 ls (.int (nI j) :: .ref k :: st) t I L R Q = WP V 187 94 ls (.int (I k j) :: st) t I L R Q := wp_iaload rfl (by decide) h1 h2 h3
theorem i187_94  : WP V 187 94 ls st t I L R Q = WP V 187 95 ls (.int (-1) :: st) t I L R Q := wp_go rfl
theorem i187_95 {x y : Int32} : WP V 187 95 ls (.int y :: .int x :: st) t I L R Q = if x = y then WP V 187 120 ls st t I L R Q else WP V 187 96 ls st t I L R Q := wp_br (c := m_cc .eq x y) rfl rfl
theorem i187_96 {w1 w2 w3 w4 : Value} {x : Nat} : WP V 187 96 [.ref x, w1, w2, w3, w4] st t I L R Q = WP V 187 97 [.ref x, w1, w2, w3, w4] (.ref x :: st) t I L R Q := wp_go rfl
theorem i187_97 {k : Nat} (h1 : k < t) (h2 : m_ob k 8 = true) : WP V 187 97 ls (.ref k :: st) t I L R Q = WP V 187 98 ls (m_rv (R k 35) :: st) t I L R Q := wp_getR rfl (by decide) h1 h2
theorem i187_98 {w0 w1 w2 w4 : Value} {x : Int32} : WP V 187 98 [w0, w1, w2, .int x, w4] st t I L R Q = WP V 187 99 [w0, w1, w2, .int x, w4] (.int x :: st) t I L R Q := wp_go rfl
theorem i187_99 {w1 w2 w3 w4 : Value} {x : Nat} : WP V 187 99 [.ref x, w1, w2, w3, w4] st t I L R Q = WP V 187 100 [.ref x, w1, w2, w3, w4] (.ref x :: st) t I L R Q := wp_go rfl
theorem i187_100 {k : Nat} (h1 : k < t) (h2 : m_ob k 8 = true) : WP V 187 100 ls (.ref k :: st) t I L R Q = WP V 187 101 ls (m_rv (R k 21) :: st) t I L R Q := wp_getR rfl (by decide) h1 h2
theorem i187_101 {w0 w1 w3 w4 : Value} {x : Int32} : WP V 187 101 [w0, w1, .int x, w3, w4] st t I L R Q = WP V 187 102 [w0, w1, .int x, w3, w4] (.int x :: st) t I L R Q := wp_go rfl
theorem i187_102  : WP V 187 102 ls st t I L R Q = WP V 187 103 ls (.int (nI 16) :: st) t I L R Q := wp_go rfl
theorem i187_103 {x y : Int32} : WP V 187 103 ls (.int y :: .int x :: st) t I L R Q = WP V 187 104 ls (.int (x + y) :: st) t I L R Q := wp_go rfl
theorem i187_104 {w0 w1 w2 w4 : Value} {x : Int32} : WP V 187 104 [w0, w1, w2, .int x, w4] st t I L R Q = WP V 187 105 [w0, w1, w2, .int x, w4] (.int x :: st) t I L R Q := wp_go rfl
theorem i187_105 {x y : Int32} : WP V 187 105 ls (.int y :: .int x :: st) t I L R Q = WP V 187 106 ls (.int (x + y) :: st) t I L R Q := wp_go rfl
theorem i187_106 {k j : Nat} (h2 : m_ar k 2 1920 = true) (h1 : k < t) (h3 : j < 1920) : WP V 187 106 ls (.int (nI j) :: .ref k :: st) t I L R Q = WP V 187 107 ls (.int (I k j) :: st) t I L R Q := wp_iaload rfl (by decide) h1 h2 h3
theorem i187_107 {k j : Nat} {x : Int32} (h2 : m_ar k 2 8 = true) (h1 : k < t) (h3 : j < 8) : WP V 187 107 ls (.int x :: .int (nI j) :: .ref k :: st) t I L R Q = WP V 187 108 ls st t (m_sc I k (m_sc (I k) j x)) L R Q := wp_iastore rfl (by decide) h1 h2 h3
theorem i187_108 {w1 w2 w3 w4 : Value} {x : Nat} : WP V 187 108 [.ref x, w1, w2, w3, w4] st t I L R Q = WP V 187 109 [.ref x, w1, w2, w3, w4] (.ref x :: st) t I L R Q := wp_go rfl
theorem i187_109 {k : Nat} (h1 : k < t) (h2 : m_ob k 8 = true) : WP V 187 109 ls (.ref k :: st) t I L R Q = WP V 187 110 ls (m_rv (R k 36) :: st) t I L R Q := wp_getR rfl (by decide) h1 h2
theorem i187_110 {w0 w1 w2 w4 : Value} {x : Int32} : WP V 187 110 [w0, w1, w2, .int x, w4] st t I L R Q = WP V 187 111 [w0, w1, w2, .int x, w4] (.int x :: st) t I L R Q := wp_go rfl
theorem i187_111 {w1 w2 w3 w4 : Value} {x : Nat} : WP V 187 111 [.ref x, w1, w2, w3, w4] st t I L R Q = WP V 187 112 [.ref x, w1, w2, w3, w4] (.ref x :: st) t I L R Q := wp_go rfl
theorem i187_112 {k : Nat} (h1 : k < t) (h2 : m_ob k 8 = true) : WP V 187 112 ls (.ref k :: st) t I L R Q = WP V 187 113 ls (m_rv (R k 21) :: st) t I L R Q := wp_getR rfl (by decide) h1 h2
theorem i187_113 {w0 w1 w3 w4 : Value} {x : Int32} : WP V 187 113 [w0, w1, .int x, w3, w4] st t I L R Q = WP V 187 114 [w0, w1, .int x, w3, w4] (.int x :: st) t I L R Q := wp_go rfl
theorem i187_114  : WP V 187 114 ls st t I L R Q = WP V 187 115 ls (.int (nI 24) :: st) t I L R Q := wp_go rfl
theorem i187_115 {x y : Int32} : WP V 187 115 ls (.int y :: .int x :: st) t I L R Q = WP V 187 116 ls (.int (x + y) :: st) t I L R Q := wp_go rfl
theorem i187_116 {w0 w1 w2 w4 : Value} {x : Int32} : WP V 187 116 [w0, w1, w2, .int x, w4] st t I L R Q = WP V 187 117 [w0, w1, w2, .int x, w4] (.int x :: st) t I L R Q := wp_go rfl
theorem i187_117 {x y : Int32} : WP V 187 117 ls (.int y :: .int x :: st) t I L R Q = WP V 187 118 ls (.int (x + y) :: st) t I L R Q := wp_go rfl
theorem i187_118 {k j : Nat} (h2 : m_ar k 2 1920 = true) (h1 : k < t) (h3 : j < 1920) : WP V 187 118 ls (.int (nI j) :: .ref k :: st) t I L R Q = WP V 187 119 ls (.int (I k j) :: st) t I L R Q := wp_iaload rfl (by decide) h1 h2 h3
theorem i187_119 {k j : Nat} {x : Int32} (h2 : m_ar k 2 8 = true) (h1 : k < t) (h3 : j < 8) : WP V 187 119 ls (.int x :: .int (nI j) :: .ref k :: st) t I L R Q = WP V 187 120 ls st t (m_sc I k (m_sc (I k) j x)) L R Q := wp_iastore rfl (by decide) h1 h2 h3
theorem i187_120 {p : Int32} {w0 w1 w4 : Value} {x : Int32} : WP V 187 120 [w0, w1, .int p, .int x, w4] st t I L R Q = WP V 187 121 [w0, w1, .int p, .int (x + (nI 1)), w4] st t I L R Q := wp_go rfl
theorem i187_121  : WP V 187 121 ls st t I L R Q = WP V 187 83 ls st t I L R Q := wp_go rfl
theorem i187_122 {p : Nat} {w2 w3 w4 : Value} {x : Int32} : WP V 187 122 [.ref p, .int x, w2, w3, w4] st t I L R Q = WP V 187 123 [.ref p, .int (x + (nI 1)), w2, w3, w4] st t I L R Q := wp_go rfl
theorem i187_123  : WP V 187 123 ls st t I L R Q = WP V 187 31 ls st t I L R Q := wp_go rfl
theorem i187_124  : WP V 187 124 ls st t I L R Q = WP V 187 125 ls (.int (nI 0) :: st) t I L R Q := wp_go rfl
theorem i187_125 {p : Nat} {w1 w2 w3 w4 : Value} {x : Int32} : WP V 187 125 [.ref p, w1, w2, w3, w4] (.int x :: st) t I L R Q = WP V 187 126 [.ref p, .int x, w2, w3, w4] st t I L R Q := wp_go rfl
theorem i187_126 {w0 w2 w3 w4 : Value} {x : Int32} : WP V 187 126 [w0, .int x, w2, w3, w4] st t I L R Q = WP V 187 127 [w0, .int x, w2, w3, w4] (.int x :: st) t I L R Q := wp_go rfl
theorem i187_127  : WP V 187 127 ls st t I L R Q = WP V 187 128 ls (.int (nI 8) :: st) t I L R Q := wp_go rfl
theorem i187_128 {x y : Int32} : WP V 187 128 ls (.int y :: .int x :: st) t I L R Q = if y ≤ x then WP V 187 157 ls st t I L R Q else WP V 187 129 ls st t I L R Q := wp_br (c := m_cc .ge x y) rfl rfl
theorem i187_129 {w1 w2 w3 w4 : Value} {x : Nat} : WP V 187 129 [.ref x, w1, w2, w3, w4] st t I L R Q = WP V 187 130 [.ref x, w1, w2, w3, w4] (.ref x :: st) t I L R Q := wp_go rfl
theorem i187_130 {k : Nat} (h1 : k < t) (h2 : m_ob k 8 = true) : WP V 187 130 ls (.ref k :: st) t I L R Q = WP V 187 131 ls (m_rv (R k 35) :: st) t I L R Q := wp_getR rfl (by decide) h1 h2
theorem i187_131 {w0 w2 w3 w4 : Value} {x : Int32} : WP V 187 131 [w0, .int x, w2, w3, w4] st t I L R Q = WP V 187 132 [w0, .int x, w2, w3, w4] (.int x :: st) t I L R Q := wp_go rfl
theorem i187_132 {k j : Nat} (h2 : m_ar k 2 8 = true) (h1 : k < t) (h3 : j < 8) : WP V 187 132 ls (.int (nI j) :: .ref k :: st) t I L R Q = WP V 187 133 ls (.int (I k j) :: st) t I L R Q := wp_iaload rfl (by decide) h1 h2 h3
theorem i187_133 {w1 w2 w3 w4 : Value} {x : Nat} : WP V 187 133 [.ref x, w1, w2, w3, w4] st t I L R Q = WP V 187 134 [.ref x, w1, w2, w3, w4] (.ref x :: st) t I L R Q := wp_go rfl
theorem i187_134 {k : Nat} (h1 : k < t) (h2 : m_ob k 8 = true) : WP V 187 134 ls (.ref k :: st) t I L R Q = WP V 187 135 ls (m_rv (R k 0) :: st) t I L R Q := wp_getR rfl (by decide) h1 h2
theorem i187_135 {w0 w2 w3 w4 : Value} {x : Int32} : WP V 187 135 [w0, .int x, w2, w3, w4] st t I L R Q = WP V 187 136 [w0, .int x, w2, w3, w4] (.int x :: st) t I L R Q := wp_go rfl
theorem i187_136 {x0 : Int32} {r0 : Nat} {r1 : Int32} : WP V 187 136 ls [.int x0, .ref r0, .int r1] t I L R Q = WPC V 112 [.int x0] 187 137 ls [.ref r0, .int r1] t I L R Q := wp_cls (wp_ics rfl (by decide)) (by decide) (Nat.le_of_ble_eq_true rfl) rfl rfl (Nat.le_of_ble_eq_true rfl) (Nat.le_of_ble_eq_true rfl)
theorem i187_137 {k j : Nat} (h2 : m_ar k 2 612 = true) (h1 : k < t) (h3 : j < 612) : WP V 187 137 ls (.int (nI j) :: .ref k :: st) t I L R Q = WP V 187 138 ls (.int (I k j) :: st) t I L R Q := wp_iaload rfl (by decide) h1 h2 h3
theorem i187_138 {x y : Int32} : WP V 187 138 ls (.int y :: .int x :: st) t I L R Q = if x = y then WP V 187 139 ls st t I L R Q else WP V 187 151 ls st t I L R Q := wp_brn (c := m_cc .ne x y) rfl rfl
theorem i187_139 {w1 w2 w3 w4 : Value} {x : Nat} : WP V 187 139 [.ref x, w1, w2, w3, w4] st t I L R Q = WP V 187 140 [.ref x, w1, w2, w3, w4] (.ref x :: st) t I L R Q := wp_go rfl
theorem i187_140 {k : Nat} (h1 : k < t) (h2 : m_ob k 8 = true) : WP V 187 140 ls (.ref k :: st) t I L R Q = WP V 187 141 ls (m_rv (R k 36) :: st) t I L R Q := wp_getR rfl (by decide) h1 h2
theorem i187_141 {w0 w2 w3 w4 : Value} {x : Int32} : WP V 187 141 [w0, .int x, w2, w3, w4] st t I L R Q = WP V 187 142 [w0, .int x, w2, w3, w4] (.int x :: st) t I L R Q := wp_go rfl
theorem i187_142 {k j : Nat} (h2 : m_ar k 2 8 = true) (h1 : k < t) (h3 : j < 8) : WP V 187 142 ls (.int (nI j) :: .ref k :: st) t I L R Q = WP V 187 143 ls (.int (I k j) :: st) t I L R Q := wp_iaload rfl (by decide) h1 h2 h3
theorem i187_143 {w1 w2 w3 w4 : Value} {x : Nat} : WP V 187 143 [.ref x, w1, w2, w3, w4] st t I L R Q = WP V 187 144 [.ref x, w1, w2, w3, w4] (.ref x :: st) t I L R Q := wp_go rfl
theorem i187_144 {k : Nat} (h1 : k < t) (h2 : m_ob k 8 = true) : WP V 187 144 ls (.ref k :: st) t I L R Q = WP V 187 145 ls (m_rv (R k 0) :: st) t I L R Q := wp_getR rfl (by decide) h1 h2
theorem i187_145 {w0 w2 w3 w4 : Value} {x : Int32} : WP V 187 145 [w0, .int x, w2, w3, w4] st t I L R Q = WP V 187 146 [w0, .int x, w2, w3, w4] (.int x :: st) t I L R Q := wp_go rfl
theorem i187_146 {x0 : Int32} {r0 : Nat} {r1 : Int32} : WP V 187 146 ls [.int x0, .ref r0, .int r1] t I L R Q = WPC V 112 [.int x0] 187 147 ls [.ref r0, .int r1] t I L R Q := wp_cls (wp_ics rfl (by decide)) (by decide) (Nat.le_of_ble_eq_true rfl) rfl rfl (Nat.le_of_ble_eq_true rfl) (Nat.le_of_ble_eq_true rfl)
theorem i187_147  : WP V 187 147 ls st t I L R Q = WP V 187 148 ls (.int (nI 1) :: st) t I L R Q := wp_go rfl
theorem i187_148 {x y : Int32} : WP V 187 148 ls (.int y :: .int x :: st) t I L R Q = WP V 187 149 ls (.int (x + y) :: st) t I L R Q := wp_go rfl
theorem i187_149 {k j : Nat} (h2 : m_ar k 2 612 = true) (h1 : k < t) (h3 : j < 612) : WP V 187 149 ls (.int (nI j) :: .ref k :: st) t I L R Q = WP V 187 150 ls (.int (I k j) :: st) t I L R Q := wp_iaload rfl (by decide) h1 h2 h3
theorem i187_150 {x y : Int32} : WP V 187 150 ls (.int y :: .int x :: st) t I L R Q = if x = y then WP V 187 155 ls st t I L R Q else WP V 187 151 ls st t I L R Q := wp_br (c := m_cc .eq x y) rfl rfl
theorem i187_151  : WP V 187 151 ls st t I L R Q = WP V 187 152 ls (.int (nI 480) :: st) t I L R Q := wp_go rfl
theorem i187_152 {w0 w2 w3 w4 : Value} {x : Int32} : WP V 187 152 [w0, .int x, w2, w3, w4] st t I L R Q = WP V 187 153 [w0, .int x, w2, w3, w4] (.int x :: st) t I L R Q := wp_go rfl
theorem i187_153 {x y : Int32} : WP V 187 153 ls (.int y :: .int x :: st) t I L R Q = WP V 187 154 ls (.int (x + y) :: st) t I L R Q := wp_go rfl
theorem i187_154 {x : Int32} : WP V 187 154 ls [.int x] t I L R Q = Q (some (.int x)) t I L R := wp_rti rfl rfl
theorem i187_155 {p : Nat} {w2 w3 w4 : Value} {x : Int32} : WP V 187 155 [.ref p, .int x, w2, w3, w4] st t I L R Q = WP V 187 156 [.ref p, .int (x + (nI 1)), w2, w3, w4] st t I L R Q := wp_go rfl
theorem i187_156  : WP V 187 156 ls st t I L R Q = WP V 187 126 ls st t I L R Q := wp_go rfl
theorem i187_157  : WP V 187 157 ls st t I L R Q = WP V 187 158 ls (.int (-1) :: st) t I L R Q := wp_go rfl
theorem i187_158 {x : Int32} : WP V 187 158 ls [.int x] t I L R Q = Q (some (.int x)) t I L R := wp_rti rfl rfl
-- TransactionCellsModel.move(Z)V
theorem i188_0 {w1 w2 : Value} {x : Nat} : WP V 188 0 [.ref x, w1, w2] st t I L R Q = WP V 188 1 [.ref x, w1, w2] (.ref x :: st) t I L R Q := wp_go rfl
theorem i188_1  : WP V 188 1 ls st t I L R Q = WP V 188 2 ls (.int (nI 0) :: st) t I L R Q := wp_go rfl
theorem i188_2 {k : Nat} {x : Int32} (h1 : k < t) (h2 : m_ob k 8 = true) : WP V 188 2 ls (.int x :: .ref k :: st) t I L R Q = WP V 188 3 ls st t (m_sc I k (m_sc (I k) 41 x)) L R Q := wp_putI rfl (by decide) h1 h2
theorem i188_3 {w1 w2 : Value} {x : Nat} : WP V 188 3 [.ref x, w1, w2] st t I L R Q = WP V 188 4 [.ref x, w1, w2] (.ref x :: st) t I L R Q := wp_go rfl
theorem i188_4 {w1 w2 : Value} {x : Nat} : WP V 188 4 [.ref x, w1, w2] st t I L R Q = WP V 188 5 [.ref x, w1, w2] (.ref x :: st) t I L R Q := wp_go rfl
theorem i188_5 {k : Nat} (h1 : k < t) (h2 : m_ob k 8 = true) : WP V 188 5 ls (.ref k :: st) t I L R Q = WP V 188 6 ls (m_rv (R k 6) :: st) t I L R Q := wp_getR rfl (by decide) h1 h2
theorem i188_6  : WP V 188 6 ls st t I L R Q = WP V 188 7 ls (.int (nI 6) :: st) t I L R Q := wp_go rfl
theorem i188_7 {w0 w2 : Value} {x : Int32} : WP V 188 7 [w0, .int x, w2] st t I L R Q = WP V 188 8 [w0, .int x, w2] (.int x :: st) t I L R Q := wp_go rfl
theorem i188_8 {x0 : Int32} {x1 : Int32} {x2 : Nat} {x3 : Nat}  (h1 : x3 < t) (h2 : m_ob x3 8 = true) : WP V 188 8 ls [.int x0, .int x1, .ref x2, .ref x3] t I L R Q = WPC V 189 [.ref x3, .ref x2, .int x1, .int x0] 188 9 ls [] t I L R Q := wp_cls (wp_icv rfl rfl h1 h2) (by decide) (Nat.le_of_ble_eq_true rfl) rfl rfl (Nat.le_of_ble_eq_true rfl) (Nat.le_of_ble_eq_true rfl)
theorem i188_9 {w1 w2 : Value} {x : Nat} : WP V 188 9 [.ref x, w1, w2] st t I L R Q = WP V 188 10 [.ref x, w1, w2] (.ref x :: st) t I L R Q := wp_go rfl
theorem i188_10 {w1 w2 : Value} {x : Nat} : WP V 188 10 [.ref x, w1, w2] st t I L R Q = WP V 188 11 [.ref x, w1, w2] (.ref x :: st) t I L R Q := wp_go rfl
theorem i188_11 {k : Nat} (h1 : k < t) (h2 : m_ob k 8 = true) : WP V 188 11 ls (.ref k :: st) t I L R Q = WP V 188 12 ls (m_rv (R k 7) :: st) t I L R Q := wp_getR rfl (by decide) h1 h2
theorem i188_12  : WP V 188 12 ls st t I L R Q = WP V 188 13 ls (.int (nI 240) :: st) t I L R Q := wp_go rfl
theorem i188_13 {w0 w2 : Value} {x : Int32} : WP V 188 13 [w0, .int x, w2] st t I L R Q = WP V 188 14 [w0, .int x, w2] (.int x :: st) t I L R Q := wp_go rfl
theorem i188_14 {x0 : Int32} {x1 : Int32} {x2 : Nat} {x3 : Nat}  (h1 : x3 < t) (h2 : m_ob x3 8 = true) : WP V 188 14 ls [.int x0, .int x1, .ref x2, .ref x3] t I L R Q = WPC V 189 [.ref x3, .ref x2, .int x1, .int x0] 188 15 ls [] t I L R Q := wp_cls (wp_icv rfl rfl h1 h2) (by decide) (Nat.le_of_ble_eq_true rfl) rfl rfl (Nat.le_of_ble_eq_true rfl) (Nat.le_of_ble_eq_true rfl)
theorem i188_15 {w1 w2 : Value} {x : Nat} : WP V 188 15 [.ref x, w1, w2] st t I L R Q = WP V 188 16 [.ref x, w1, w2] (.ref x :: st) t I L R Q := wp_go rfl
theorem i188_16 {w1 w2 : Value} {x : Nat} : WP V 188 16 [.ref x, w1, w2] st t I L R Q = WP V 188 17 [.ref x, w1, w2] (.ref x :: st) t I L R Q := wp_go rfl
theorem i188_17 {k : Nat} (h1 : k < t) (h2 : m_ob k 8 = true) : WP V 188 17 ls (.ref k :: st) t I L R Q = WP V 188 18 ls (m_rv (R k 8) :: st) t I L R Q := wp_getR rfl (by decide) h1 h2
theorem i188_18  : WP V 188 18 ls st t I L R Q = WP V 188 19 ls (.int (nI 240) :: st) t I L R Q := wp_go rfl
theorem i188_19 {w0 w2 : Value} {x : Int32} : WP V 188 19 [w0, .int x, w2] st t I L R Q = WP V 188 20 [w0, .int x, w2] (.int x :: st) t I L R Q := wp_go rfl
theorem i188_20 {x0 : Int32} {x1 : Int32} {x2 : Nat} {x3 : Nat}  (h1 : x3 < t) (h2 : m_ob x3 8 = true) : WP V 188 20 ls [.int x0, .int x1, .ref x2, .ref x3] t I L R Q = WPC V 189 [.ref x3, .ref x2, .int x1, .int x0] 188 21 ls [] t I L R Q := wp_cls (wp_icv rfl rfl h1 h2) (by decide) (Nat.le_of_ble_eq_true rfl) rfl rfl (Nat.le_of_ble_eq_true rfl) (Nat.le_of_ble_eq_true rfl)
theorem i188_21 {w1 w2 : Value} {x : Nat} : WP V 188 21 [.ref x, w1, w2] st t I L R Q = WP V 188 22 [.ref x, w1, w2] (.ref x :: st) t I L R Q := wp_go rfl
theorem i188_22 {w1 w2 : Value} {x : Nat} : WP V 188 22 [.ref x, w1, w2] st t I L R Q = WP V 188 23 [.ref x, w1, w2] (.ref x :: st) t I L R Q := wp_go rfl
theorem i188_23 {k : Nat} (h1 : k < t) (h2 : m_ob k 8 = true) : WP V 188 23 ls (.ref k :: st) t I L R Q = WP V 188 24 ls (m_rv (R k 9) :: st) t I L R Q := wp_getR rfl (by decide) h1 h2
theorem i188_24  : WP V 188 24 ls st t I L R Q = WP V 188 25 ls (.int (nI 240) :: st) t I L R Q := wp_go rfl
theorem i188_25 {w0 w2 : Value} {x : Int32} : WP V 188 25 [w0, .int x, w2] st t I L R Q = WP V 188 26 [w0, .int x, w2] (.int x :: st) t I L R Q := wp_go rfl
theorem i188_26 {x0 : Int32} {x1 : Int32} {x2 : Nat} {x3 : Nat}  (h1 : x3 < t) (h2 : m_ob x3 8 = true) : WP V 188 26 ls [.int x0, .int x1, .ref x2, .ref x3] t I L R Q = WPC V 189 [.ref x3, .ref x2, .int x1, .int x0] 188 27 ls [] t I L R Q := wp_cls (wp_icv rfl rfl h1 h2) (by decide) (Nat.le_of_ble_eq_true rfl) rfl rfl (Nat.le_of_ble_eq_true rfl) (Nat.le_of_ble_eq_true rfl)
theorem i188_27 {w1 w2 : Value} {x : Nat} : WP V 188 27 [.ref x, w1, w2] st t I L R Q = WP V 188 28 [.ref x, w1, w2] (.ref x :: st) t I L R Q := wp_go rfl
theorem i188_28 {w1 w2 : Value} {x : Nat} : WP V 188 28 [.ref x, w1, w2] st t I L R Q = WP V 188 29 [.ref x, w1, w2] (.ref x :: st) t I L R Q := wp_go rfl
theorem i188_29 {k : Nat} (h1 : k < t) (h2 : m_ob k 8 = true) : WP V 188 29 ls (.ref k :: st) t I L R Q = WP V 188 30 ls (m_rv (R k 10) :: st) t I L R Q := wp_getR rfl (by decide) h1 h2
theorem i188_30  : WP V 188 30 ls st t I L R Q = WP V 188 31 ls (.int (nI 240) :: st) t I L R Q := wp_go rfl
theorem i188_31 {w0 w2 : Value} {x : Int32} : WP V 188 31 [w0, .int x, w2] st t I L R Q = WP V 188 32 [w0, .int x, w2] (.int x :: st) t I L R Q := wp_go rfl
theorem i188_32 {x0 : Int32} {x1 : Int32} {x2 : Nat} {x3 : Nat}  (h1 : x3 < t) (h2 : m_ob x3 8 = true) : WP V 188 32 ls [.int x0, .int x1, .ref x2, .ref x3] t I L R Q = WPC V 189 [.ref x3, .ref x2, .int x1, .int x0] 188 33 ls [] t I L R Q := wp_cls (wp_icv rfl rfl h1 h2) (by decide) (Nat.le_of_ble_eq_true rfl) rfl rfl (Nat.le_of_ble_eq_true rfl) (Nat.le_of_ble_eq_true rfl)
theorem i188_33 {w1 w2 : Value} {x : Nat} : WP V 188 33 [.ref x, w1, w2] st t I L R Q = WP V 188 34 [.ref x, w1, w2] (.ref x :: st) t I L R Q := wp_go rfl
theorem i188_34 {w1 w2 : Value} {x : Nat} : WP V 188 34 [.ref x, w1, w2] st t I L R Q = WP V 188 35 [.ref x, w1, w2] (.ref x :: st) t I L R Q := wp_go rfl
theorem i188_35 {k : Nat} (h1 : k < t) (h2 : m_ob k 8 = true) : WP V 188 35 ls (.ref k :: st) t I L R Q = WP V 188 36 ls (m_rv (R k 12) :: st) t I L R Q := wp_getR rfl (by decide) h1 h2
theorem i188_36  : WP V 188 36 ls st t I L R Q = WP V 188 37 ls (.int (nI 6) :: st) t I L R Q := wp_go rfl
theorem i188_37 {w0 w2 : Value} {x : Int32} : WP V 188 37 [w0, .int x, w2] st t I L R Q = WP V 188 38 [w0, .int x, w2] (.int x :: st) t I L R Q := wp_go rfl
theorem i188_38 {x0 : Int32} {x1 : Int32} {x2 : Nat} {x3 : Nat}  (h1 : x3 < t) (h2 : m_ob x3 8 = true) : WP V 188 38 ls [.int x0, .int x1, .ref x2, .ref x3] t I L R Q = WPC V 189 [.ref x3, .ref x2, .int x1, .int x0] 188 39 ls [] t I L R Q := wp_cls (wp_icv rfl rfl h1 h2) (by decide) (Nat.le_of_ble_eq_true rfl) rfl rfl (Nat.le_of_ble_eq_true rfl) (Nat.le_of_ble_eq_true rfl)
theorem i188_39 {w1 w2 : Value} {x : Nat} : WP V 188 39 [.ref x, w1, w2] st t I L R Q = WP V 188 40 [.ref x, w1, w2] (.ref x :: st) t I L R Q := wp_go rfl
theorem i188_40 {w1 w2 : Value} {x : Nat} : WP V 188 40 [.ref x, w1, w2] st t I L R Q = WP V 188 41 [.ref x, w1, w2] (.ref x :: st) t I L R Q := wp_go rfl
theorem i188_41 {k : Nat} (h1 : k < t) (h2 : m_ob k 8 = true) : WP V 188 41 ls (.ref k :: st) t I L R Q = WP V 188 42 ls (m_rv (R k 13) :: st) t I L R Q := wp_getR rfl (by decide) h1 h2
theorem i188_42  : WP V 188 42 ls st t I L R Q = WP V 188 43 ls (.int (nI 6) :: st) t I L R Q := wp_go rfl
theorem i188_43 {w0 w2 : Value} {x : Int32} : WP V 188 43 [w0, .int x, w2] st t I L R Q = WP V 188 44 [w0, .int x, w2] (.int x :: st) t I L R Q := wp_go rfl
theorem i188_44 {x0 : Int32} {x1 : Int32} {x2 : Nat} {x3 : Nat}  (h1 : x3 < t) (h2 : m_ob x3 8 = true) : WP V 188 44 ls [.int x0, .int x1, .ref x2, .ref x3] t I L R Q = WPC V 189 [.ref x3, .ref x2, .int x1, .int x0] 188 45 ls [] t I L R Q := wp_cls (wp_icv rfl rfl h1 h2) (by decide) (Nat.le_of_ble_eq_true rfl) rfl rfl (Nat.le_of_ble_eq_true rfl) (Nat.le_of_ble_eq_true rfl)
theorem i188_45 {w1 w2 : Value} {x : Nat} : WP V 188 45 [.ref x, w1, w2] st t I L R Q = WP V 188 46 [.ref x, w1, w2] (.ref x :: st) t I L R Q := wp_go rfl
theorem i188_46 {w1 w2 : Value} {x : Nat} : WP V 188 46 [.ref x, w1, w2] st t I L R Q = WP V 188 47 [.ref x, w1, w2] (.ref x :: st) t I L R Q := wp_go rfl
theorem i188_47 {k : Nat} (h1 : k < t) (h2 : m_ob k 8 = true) : WP V 188 47 ls (.ref k :: st) t I L R Q = WP V 188 48 ls (m_rv (R k 15) :: st) t I L R Q := wp_getR rfl (by decide) h1 h2
theorem i188_48  : WP V 188 48 ls st t I L R Q = WP V 188 49 ls (.int (nI 8) :: st) t I L R Q := wp_go rfl
theorem i188_49 {w0 w2 : Value} {x : Int32} : WP V 188 49 [w0, .int x, w2] st t I L R Q = WP V 188 50 [w0, .int x, w2] (.int x :: st) t I L R Q := wp_go rfl
theorem i188_50 {x0 : Int32} {x1 : Int32} {x2 : Nat} {x3 : Nat}  (h1 : x3 < t) (h2 : m_ob x3 8 = true) : WP V 188 50 ls [.int x0, .int x1, .ref x2, .ref x3] t I L R Q = WPC V 189 [.ref x3, .ref x2, .int x1, .int x0] 188 51 ls [] t I L R Q := wp_cls (wp_icv rfl rfl h1 h2) (by decide) (Nat.le_of_ble_eq_true rfl) rfl rfl (Nat.le_of_ble_eq_true rfl) (Nat.le_of_ble_eq_true rfl)
theorem i188_51 {w1 w2 : Value} {x : Nat} : WP V 188 51 [.ref x, w1, w2] st t I L R Q = WP V 188 52 [.ref x, w1, w2] (.ref x :: st) t I L R Q := wp_go rfl
theorem i188_52 {w1 w2 : Value} {x : Nat} : WP V 188 52 [.ref x, w1, w2] st t I L R Q = WP V 188 53 [.ref x, w1, w2] (.ref x :: st) t I L R Q := wp_go rfl
theorem i188_53 {k : Nat} (h1 : k < t) (h2 : m_ob k 8 = true) : WP V 188 53 ls (.ref k :: st) t I L R Q = WP V 188 54 ls (m_rv (R k 16) :: st) t I L R Q := wp_getR rfl (by decide) h1 h2
theorem i188_54  : WP V 188 54 ls st t I L R Q = WP V 188 55 ls (.int (nI 8) :: st) t I L R Q := wp_go rfl
theorem i188_55 {w0 w2 : Value} {x : Int32} : WP V 188 55 [w0, .int x, w2] st t I L R Q = WP V 188 56 [w0, .int x, w2] (.int x :: st) t I L R Q := wp_go rfl
theorem i188_56 {x0 : Int32} {x1 : Int32} {x2 : Nat} {x3 : Nat}  (h1 : x3 < t) (h2 : m_ob x3 8 = true) : WP V 188 56 ls [.int x0, .int x1, .ref x2, .ref x3] t I L R Q = WPC V 189 [.ref x3, .ref x2, .int x1, .int x0] 188 57 ls [] t I L R Q := wp_cls (wp_icv rfl rfl h1 h2) (by decide) (Nat.le_of_ble_eq_true rfl) rfl rfl (Nat.le_of_ble_eq_true rfl) (Nat.le_of_ble_eq_true rfl)
theorem i188_57 {w1 w2 : Value} {x : Nat} : WP V 188 57 [.ref x, w1, w2] st t I L R Q = WP V 188 58 [.ref x, w1, w2] (.ref x :: st) t I L R Q := wp_go rfl
theorem i188_58 {w1 w2 : Value} {x : Nat} : WP V 188 58 [.ref x, w1, w2] st t I L R Q = WP V 188 59 [.ref x, w1, w2] (.ref x :: st) t I L R Q := wp_go rfl
theorem i188_59 {k : Nat} (h1 : k < t) (h2 : m_ob k 8 = true) : WP V 188 59 ls (.ref k :: st) t I L R Q = WP V 188 60 ls (m_rv (R k 18) :: st) t I L R Q := wp_getR rfl (by decide) h1 h2
theorem i188_60  : WP V 188 60 ls st t I L R Q = WP V 188 61 ls (.int (nI 60) :: st) t I L R Q := wp_go rfl
theorem i188_61 {w0 w2 : Value} {x : Int32} : WP V 188 61 [w0, .int x, w2] st t I L R Q = WP V 188 62 [w0, .int x, w2] (.int x :: st) t I L R Q := wp_go rfl
theorem i188_62 {x0 : Int32} {x1 : Int32} {x2 : Nat} {x3 : Nat}  (h1 : x3 < t) (h2 : m_ob x3 8 = true) : WP V 188 62 ls [.int x0, .int x1, .ref x2, .ref x3] t I L R Q = WPC V 189 [.ref x3, .ref x2, .int x1, .int x0] 188 63 ls [] t I L R Q := wp_cls (wp_icv rfl rfl h1 h2) (by decide) (Nat.le_of_ble_eq_true rfl) rfl rfl (Nat.le_of_ble_eq_true rfl) (Nat.le_of_ble_eq_true rfl)
theorem i188_63 {w1 w2 : Value} {x : Nat} : WP V 188 63 [.ref x, w1, w2] st t I L R Q = WP V 188 64 [.ref x, w1, w2] (.ref x :: st) t I L R Q := wp_go rfl
theorem i188_64 {w1 w2 : Value} {x : Nat} : WP V 188 64 [.ref x, w1, w2] st t I L R Q = WP V 188 65 [.ref x, w1, w2] (.ref x :: st) t I L R Q := wp_go rfl
theorem i188_65 {k : Nat} (h1 : k < t) (h2 : m_ob k 8 = true) : WP V 188 65 ls (.ref k :: st) t I L R Q = WP V 188 66 ls (m_rv (R k 19) :: st) t I L R Q := wp_getR rfl (by decide) h1 h2
theorem i188_66  : WP V 188 66 ls st t I L R Q = WP V 188 67 ls (.int (nI 60) :: st) t I L R Q := wp_go rfl
theorem i188_67 {w0 w2 : Value} {x : Int32} : WP V 188 67 [w0, .int x, w2] st t I L R Q = WP V 188 68 [w0, .int x, w2] (.int x :: st) t I L R Q := wp_go rfl
theorem i188_68 {x0 : Int32} {x1 : Int32} {x2 : Nat} {x3 : Nat}  (h1 : x3 < t) (h2 : m_ob x3 8 = true) : WP V 188 68 ls [.int x0, .int x1, .ref x2, .ref x3] t I L R Q = WPC V 189 [.ref x3, .ref x2, .int x1, .int x0] 188 69 ls [] t I L R Q := wp_cls (wp_icv rfl rfl h1 h2) (by decide) (Nat.le_of_ble_eq_true rfl) rfl rfl (Nat.le_of_ble_eq_true rfl) (Nat.le_of_ble_eq_true rfl)
theorem i188_69 {w1 w2 : Value} {x : Nat} : WP V 188 69 [.ref x, w1, w2] st t I L R Q = WP V 188 70 [.ref x, w1, w2] (.ref x :: st) t I L R Q := wp_go rfl
theorem i188_70 {w1 w2 : Value} {x : Nat} : WP V 188 70 [.ref x, w1, w2] st t I L R Q = WP V 188 71 [.ref x, w1, w2] (.ref x :: st) t I L R Q := wp_go rfl
theorem i188_71 {k : Nat} (h1 : k < t) (h2 : m_ob k 8 = true) : WP V 188 71 ls (.ref k :: st) t I L R Q = WP V 188 72 ls (m_rv (R k 20) :: st) t I L R Q := wp_getR rfl (by decide) h1 h2
theorem i188_72  : WP V 188 72 ls st t I L R Q = WP V 188 73 ls (.int (nI 60) :: st) t I L R Q := wp_go rfl
theorem i188_73 {w0 w2 : Value} {x : Int32} : WP V 188 73 [w0, .int x, w2] st t I L R Q = WP V 188 74 [w0, .int x, w2] (.int x :: st) t I L R Q := wp_go rfl
theorem i188_74 {x0 : Int32} {x1 : Int32} {x2 : Nat} {x3 : Nat}  (h1 : x3 < t) (h2 : m_ob x3 8 = true) : WP V 188 74 ls [.int x0, .int x1, .ref x2, .ref x3] t I L R Q = WPC V 189 [.ref x3, .ref x2, .int x1, .int x0] 188 75 ls [] t I L R Q := wp_cls (wp_icv rfl rfl h1 h2) (by decide) (Nat.le_of_ble_eq_true rfl) rfl rfl (Nat.le_of_ble_eq_true rfl) (Nat.le_of_ble_eq_true rfl)
theorem i188_75 {w1 w2 : Value} {x : Nat} : WP V 188 75 [.ref x, w1, w2] st t I L R Q = WP V 188 76 [.ref x, w1, w2] (.ref x :: st) t I L R Q := wp_go rfl
theorem i188_76 {w1 w2 : Value} {x : Nat} : WP V 188 76 [.ref x, w1, w2] st t I L R Q = WP V 188 77 [.ref x, w1, w2] (.ref x :: st) t I L R Q := wp_go rfl
theorem i188_77 {k : Nat} (h1 : k < t) (h2 : m_ob k 8 = true) : WP V 188 77 ls (.ref k :: st) t I L R Q = WP V 188 78 ls (m_rv (R k 21) :: st) t I L R Q := wp_getR rfl (by decide) h1 h2
theorem i188_78  : WP V 188 78 ls st t I L R Q = WP V 188 79 ls (.int (nI 1920) :: st) t I L R Q := wp_go rfl
theorem i188_79 {w0 w2 : Value} {x : Int32} : WP V 188 79 [w0, .int x, w2] st t I L R Q = WP V 188 80 [w0, .int x, w2] (.int x :: st) t I L R Q := wp_go rfl
theorem i188_80 {x0 : Int32} {x1 : Int32} {x2 : Nat} {x3 : Nat}  (h1 : x3 < t) (h2 : m_ob x3 8 = true) : WP V 188 80 ls [.int x0, .int x1, .ref x2, .ref x3] t I L R Q = WPC V 189 [.ref x3, .ref x2, .int x1, .int x0] 188 81 ls [] t I L R Q := wp_cls (wp_icv rfl rfl h1 h2) (by decide) (Nat.le_of_ble_eq_true rfl) rfl rfl (Nat.le_of_ble_eq_true rfl) (Nat.le_of_ble_eq_true rfl)
theorem i188_81 {w1 w2 : Value} {x : Nat} : WP V 188 81 [.ref x, w1, w2] st t I L R Q = WP V 188 82 [.ref x, w1, w2] (.ref x :: st) t I L R Q := wp_go rfl
theorem i188_82 {k : Nat} (h1 : k < t) (h2 : m_ob k 8 = true) : WP V 188 82 ls (.ref k :: st) t I L R Q = WP V 188 83 ls (m_rv (R k 38) :: st) t I L R Q := wp_getR rfl (by decide) h1 h2
theorem i188_83  : WP V 188 83 ls st t I L R Q = WP V 188 84 ls (.int (nI 0) :: st) t I L R Q := wp_go rfl
theorem i188_84 {w1 w2 : Value} {x : Nat} : WP V 188 84 [.ref x, w1, w2] st t I L R Q = WP V 188 85 [.ref x, w1, w2] (.ref x :: st) t I L R Q := wp_go rfl
theorem i188_85 {k : Nat} (h1 : k < t) (h2 : m_ob k 8 = true) : WP V 188 85 ls (.ref k :: st) t I L R Q = WP V 188 86 ls (.int (I k 1) :: st) t I L R Q := wp_getI rfl (by decide) h1 h2
theorem i188_86 {k j : Nat} {x : Int32} (h2 : m_ar k 2 6 = true) (h1 : k < t) (h3 : j < 6) : WP V 188 86 ls (.int x :: .int (nI j) :: .ref k :: st) t I L R Q = WP V 188 87 ls st t (m_sc I k (m_sc (I k) j x)) L R Q := wp_iastore rfl (by decide) h1 h2 h3
theorem i188_87 {w1 w2 : Value} {x : Nat} : WP V 188 87 [.ref x, w1, w2] st t I L R Q = WP V 188 88 [.ref x, w1, w2] (.ref x :: st) t I L R Q := wp_go rfl
theorem i188_88 {k : Nat} (h1 : k < t) (h2 : m_ob k 8 = true) : WP V 188 88 ls (.ref k :: st) t I L R Q = WP V 188 89 ls (m_rv (R k 38) :: st) t I L R Q := wp_getR rfl (by decide) h1 h2
theorem i188_89  : WP V 188 89 ls st t I L R Q = WP V 188 90 ls (.int (nI 1) :: st) t I L R Q := wp_go rfl
theorem i188_90 {w1 w2 : Value} {x : Nat} : WP V 188 90 [.ref x, w1, w2] st t I L R Q = WP V 188 91 [.ref x, w1, w2] (.ref x :: st) t I L R Q := wp_go rfl
theorem i188_91 {k : Nat} (h1 : k < t) (h2 : m_ob k 8 = true) : WP V 188 91 ls (.ref k :: st) t I L R Q = WP V 188 92 ls (.int (I k 2) :: st) t I L R Q := wp_getI rfl (by decide) h1 h2
theorem i188_92 {k j : Nat} {x : Int32} (h2 : m_ar k 2 6 = true) (h1 : k < t) (h3 : j < 6) : WP V 188 92 ls (.int x :: .int (nI j) :: .ref k :: st) t I L R Q = WP V 188 93 ls st t (m_sc I k (m_sc (I k) j x)) L R Q := wp_iastore rfl (by decide) h1 h2 h3
theorem i188_93 {w1 w2 : Value} {x : Nat} : WP V 188 93 [.ref x, w1, w2] st t I L R Q = WP V 188 94 [.ref x, w1, w2] (.ref x :: st) t I L R Q := wp_go rfl
theorem i188_94 {k : Nat} (h1 : k < t) (h2 : m_ob k 8 = true) : WP V 188 94 ls (.ref k :: st) t I L R Q = WP V 188 95 ls (m_rv (R k 38) :: st) t I L R Q := wp_getR rfl (by decide) h1 h2
theorem i188_95  : WP V 188 95 ls st t I L R Q = WP V 188 96 ls (.int (nI 2) :: st) t I L R Q := wp_go rfl
theorem i188_96 {w1 w2 : Value} {x : Nat} : WP V 188 96 [.ref x, w1, w2] st t I L R Q = WP V 188 97 [.ref x, w1, w2] (.ref x :: st) t I L R Q := wp_go rfl
theorem i188_97 {k : Nat} (h1 : k < t) (h2 : m_ob k 8 = true) : WP V 188 97 ls (.ref k :: st) t I L R Q = WP V 188 98 ls (.int (I k 3) :: st) t I L R Q := wp_getI rfl (by decide) h1 h2
theorem i188_98 {k j : Nat} {x : Int32} (h2 : m_ar k 2 6 = true) (h1 : k < t) (h3 : j < 6) : WP V 188 98 ls (.int x :: .int (nI j) :: .ref k :: st) t I L R Q = WP V 188 99 ls st t (m_sc I k (m_sc (I k) j x)) L R Q := wp_iastore rfl (by decide) h1 h2 h3
theorem i188_99 {w1 w2 : Value} {x : Nat} : WP V 188 99 [.ref x, w1, w2] st t I L R Q = WP V 188 100 [.ref x, w1, w2] (.ref x :: st) t I L R Q := wp_go rfl
theorem i188_100 {k : Nat} (h1 : k < t) (h2 : m_ob k 8 = true) : WP V 188 100 ls (.ref k :: st) t I L R Q = WP V 188 101 ls (m_rv (R k 38) :: st) t I L R Q := wp_getR rfl (by decide) h1 h2
theorem i188_101  : WP V 188 101 ls st t I L R Q = WP V 188 102 ls (.int (nI 3) :: st) t I L R Q := wp_go rfl
theorem i188_102 {w1 w2 : Value} {x : Nat} : WP V 188 102 [.ref x, w1, w2] st t I L R Q = WP V 188 103 [.ref x, w1, w2] (.ref x :: st) t I L R Q := wp_go rfl
theorem i188_103 {k : Nat} (h1 : k < t) (h2 : m_ob k 8 = true) : WP V 188 103 ls (.ref k :: st) t I L R Q = WP V 188 104 ls (.int (I k 4) :: st) t I L R Q := wp_getI rfl (by decide) h1 h2
theorem i188_104 {k j : Nat} {x : Int32} (h2 : m_ar k 2 6 = true) (h1 : k < t) (h3 : j < 6) : WP V 188 104 ls (.int x :: .int (nI j) :: .ref k :: st) t I L R Q = WP V 188 105 ls st t (m_sc I k (m_sc (I k) j x)) L R Q := wp_iastore rfl (by decide) h1 h2 h3
theorem i188_105 {w1 w2 : Value} {x : Nat} : WP V 188 105 [.ref x, w1, w2] st t I L R Q = WP V 188 106 [.ref x, w1, w2] (.ref x :: st) t I L R Q := wp_go rfl
theorem i188_106 {k : Nat} (h1 : k < t) (h2 : m_ob k 8 = true) : WP V 188 106 ls (.ref k :: st) t I L R Q = WP V 188 107 ls (m_rv (R k 38) :: st) t I L R Q := wp_getR rfl (by decide) h1 h2
theorem i188_107  : WP V 188 107 ls st t I L R Q = WP V 188 108 ls (.int (nI 4) :: st) t I L R Q := wp_go rfl
theorem i188_108 {w1 w2 : Value} {x : Nat} : WP V 188 108 [.ref x, w1, w2] st t I L R Q = WP V 188 109 [.ref x, w1, w2] (.ref x :: st) t I L R Q := wp_go rfl
theorem i188_109 {k : Nat} (h1 : k < t) (h2 : m_ob k 8 = true) : WP V 188 109 ls (.ref k :: st) t I L R Q = WP V 188 110 ls (.int (I k 17) :: st) t I L R Q := wp_getI rfl (by decide) h1 h2
theorem i188_110 {k j : Nat} {x : Int32} (h2 : m_ar k 2 6 = true) (h1 : k < t) (h3 : j < 6) : WP V 188 110 ls (.int x :: .int (nI j) :: .ref k :: st) t I L R Q = WP V 188 111 ls st t (m_sc I k (m_sc (I k) j x)) L R Q := wp_iastore rfl (by decide) h1 h2 h3
theorem i188_111 {w1 w2 : Value} {x : Nat} : WP V 188 111 [.ref x, w1, w2] st t I L R Q = WP V 188 112 [.ref x, w1, w2] (.ref x :: st) t I L R Q := wp_go rfl
theorem i188_112 {k : Nat} (h1 : k < t) (h2 : m_ob k 8 = true) : WP V 188 112 ls (.ref k :: st) t I L R Q = WP V 188 113 ls (m_rv (R k 38) :: st) t I L R Q := wp_getR rfl (by decide) h1 h2
theorem i188_113  : WP V 188 113 ls st t I L R Q = WP V 188 114 ls (.int (nI 5) :: st) t I L R Q := wp_go rfl
theorem i188_114  : WP V 188 114 ls st t I L R Q = WP V 188 115 ls (.int (nI 0) :: st) t I L R Q := wp_go rfl
theorem i188_115 {k j : Nat} {x : Int32} (h2 : m_ar k 2 6 = true) (h1 : k < t) (h3 : j < 6) : WP V 188 115 ls (.int x :: .int (nI j) :: .ref k :: st) t I L R Q = WP V 188 116 ls st t (m_sc I k (m_sc (I k) j x)) L R Q := wp_iastore rfl (by decide) h1 h2 h3
theorem i188_116  : WP V 188 116 ls st t I L R Q = WP V 188 117 ls (.int (nI 0) :: st) t I L R Q := wp_go rfl
theorem i188_117 {p : Int32} {w0 w2 : Value} {x : Int32} : WP V 188 117 [w0, .int p, w2] (.int x :: st) t I L R Q = WP V 188 118 [w0, .int p, .int x] st t I L R Q := wp_go rfl
theorem i188_118 {w0 w1 : Value} {x : Int32} : WP V 188 118 [w0, w1, .int x] st t I L R Q = WP V 188 119 [w0, w1, .int x] (.int x :: st) t I L R Q := wp_go rfl
theorem i188_119  : WP V 188 119 ls st t I L R Q = WP V 188 120 ls (.int (nI 6) :: st) t I L R Q := wp_go rfl
theorem i188_120 {x y : Int32} : WP V 188 120 ls (.int y :: .int x :: st) t I L R Q = if y ≤ x then WP V 188 140 ls st t I L R Q else WP V 188 121 ls st t I L R Q := wp_br (c := m_cc .ge x y) rfl rfl
theorem i188_121 {w1 w2 : Value} {x : Nat} : WP V 188 121 [.ref x, w1, w2] st t I L R Q = WP V 188 122 [.ref x, w1, w2] (.ref x :: st) t I L R Q := wp_go rfl
theorem i188_122 {k : Nat} (h1 : k < t) (h2 : m_ob k 8 = true) : WP V 188 122 ls (.ref k :: st) t I L R Q = WP V 188 123 ls (m_rv (R k 38) :: st) t I L R Q := wp_getR rfl (by decide) h1 h2
theorem i188_123  : WP V 188 123 ls st t I L R Q = WP V 188 124 ls (.int (nI 5) :: st) t I L R Q := wp_go rfl
theorem i188_124 {v0 : Int32} {v1 : Nat} : WP V 188 124 ls (.int v0 :: .ref v1 :: st) t I L R Q = WP V 188 125 ls (.int v0 :: .ref v1 :: .int v0 :: .ref v1 :: st) t I L R Q := wp_go rfl
theorem i188_125 {k j : Nat} (h2 : m_ar k 2 6 = true) (h1 : k < t) (h3 : j < 6) : WP V 188 125 ls (.int (nI j) :: .ref k :: st) t I L R Q = WP V 188 126 ls (.int (I k j) :: st) t I L R Q := wp_iaload rfl (by decide) h1 h2 h3
theorem i188_126 {w1 w2 : Value} {x : Nat} : WP V 188 126 [.ref x, w1, w2] st t I L R Q = WP V 188 127 [.ref x, w1, w2] (.ref x :: st) t I L R Q := wp_go rfl
theorem i188_127 {k : Nat} (h1 : k < t) (h2 : m_ob k 8 = true) : WP V 188 127 ls (.ref k :: st) t I L R Q = WP V 188 128 ls (m_rv (R k 11) :: st) t I L R Q := wp_getR rfl (by decide) h1 h2
theorem i188_128 {w0 w1 : Value} {x : Int32} : WP V 188 128 [w0, w1, .int x] st t I L R Q = WP V 188 129 [w0, w1, .int x] (.int x :: st) t I L R Q := wp_go rfl
theorem i188_129 {k j : Nat} (h2 : m_ar k 3 6 = true) (h1 : k < t) (h3 : j < 6) : WP V 188 129 ls (.int (nI j) :: .ref k :: st) t I L R Q = WP V 188 130 ls (.int (I k j) :: st) t I L R Q := wp_baload rfl (by decide) h1 h2 h3
theorem i188_130 {x : Int32} : WP V 188 130 ls (.int x :: st) t I L R Q = if x = nI 0 then WP V 188 135 ls st t I L R Q else WP V 188 131 ls st t I L R Q := wp_br (c := m_cc .eq x 0) rfl rfl
theorem i188_131  : WP V 188 131 ls st t I L R Q = WP V 188 132 ls (.int (nI 1) :: st) t I L R Q := wp_go rfl
theorem i188_132 {w0 w1 : Value} {x : Int32} : WP V 188 132 [w0, w1, .int x] st t I L R Q = WP V 188 133 [w0, w1, .int x] (.int x :: st) t I L R Q := wp_go rfl
theorem i188_133 {x y : Int32} : WP V 188 133 ls (.int y :: .int x :: st) t I L R Q = WP V 188 134 ls (.int (x <<< (y &&& 31)) :: st) t I L R Q := wp_go rfl
theorem i188_134  : WP V 188 134 ls st t I L R Q = WP V 188 136 ls st t I L R Q := wp_go rfl
theorem i188_135  : WP V 188 135 ls st t I L R Q = WP V 188 136 ls (.int (nI 0) :: st) t I L R Q := wp_go rfl
theorem i188_136 {x y : Int32} : WP V 188 136 ls (.int y :: .int x :: st) t I L R Q = WP V 188 137 ls (.int (x ||| y) :: st) t I L R Q := wp_go rfl
theorem i188_137 {k j : Nat} {x : Int32} (h2 : m_ar k 2 6 = true) (h1 : k < t) (h3 : j < 6) : WP V 188 137 ls (.int x :: .int (nI j) :: .ref k :: st) t I L R Q = WP V 188 138 ls st t (m_sc I k (m_sc (I k) j x)) L R Q := wp_iastore rfl (by decide) h1 h2 h3
theorem i188_138 {p : Int32} {w0 : Value} {x : Int32} : WP V 188 138 [w0, .int p, .int x] st t I L R Q = WP V 188 139 [w0, .int p, .int (x + (nI 1))] st t I L R Q := wp_go rfl
theorem i188_139  : WP V 188 139 ls st t I L R Q = WP V 188 118 ls st t I L R Q := wp_go rfl
theorem i188_140 {w1 w2 : Value} {x : Nat} : WP V 188 140 [.ref x, w1, w2] st t I L R Q = WP V 188 141 [.ref x, w1, w2] (.ref x :: st) t I L R Q := wp_go rfl
theorem i188_141 {w1 w2 : Value} {x : Nat} : WP V 188 141 [.ref x, w1, w2] st t I L R Q = WP V 188 142 [.ref x, w1, w2] (.ref x :: st) t I L R Q := wp_go rfl
theorem i188_142 {k : Nat} (h1 : k < t) (h2 : m_ob k 8 = true) : WP V 188 142 ls (.ref k :: st) t I L R Q = WP V 188 143 ls (m_rv (R k 38) :: st) t I L R Q := wp_getR rfl (by decide) h1 h2
theorem i188_143  : WP V 188 143 ls st t I L R Q = WP V 188 144 ls (.int (nI 6) :: st) t I L R Q := wp_go rfl
theorem i188_144 {w0 w2 : Value} {x : Int32} : WP V 188 144 [w0, .int x, w2] st t I L R Q = WP V 188 145 [w0, .int x, w2] (.int x :: st) t I L R Q := wp_go rfl
theorem i188_145 {x0 : Int32} {x1 : Int32} {x2 : Nat} {x3 : Nat}  (h1 : x3 < t) (h2 : m_ob x3 8 = true) : WP V 188 145 ls [.int x0, .int x1, .ref x2, .ref x3] t I L R Q = WPC V 189 [.ref x3, .ref x2, .int x1, .int x0] 188 146 ls [] t I L R Q := wp_cls (wp_icv rfl rfl h1 h2) (by decide) (Nat.le_of_ble_eq_true rfl) rfl rfl (Nat.le_of_ble_eq_true rfl) (Nat.le_of_ble_eq_true rfl)
theorem i188_146 {w1 w2 : Value} {x : Nat} : WP V 188 146 [.ref x, w1, w2] st t I L R Q = WP V 188 147 [.ref x, w1, w2] (.ref x :: st) t I L R Q := wp_go rfl
theorem i188_147 {w1 w2 : Value} {x : Nat} : WP V 188 147 [.ref x, w1, w2] st t I L R Q = WP V 188 148 [.ref x, w1, w2] (.ref x :: st) t I L R Q := wp_go rfl
theorem i188_148 {k : Nat} (h1 : k < t) (h2 : m_ob k 8 = true) : WP V 188 148 ls (.ref k :: st) t I L R Q = WP V 188 149 ls (m_rv (R k 0) :: st) t I L R Q := wp_getR rfl (by decide) h1 h2
theorem i188_149  : WP V 188 149 ls st t I L R Q = WP V 188 150 ls (.int (nI 612) :: st) t I L R Q := wp_go rfl
theorem i188_150 {w0 w2 : Value} {x : Int32} : WP V 188 150 [w0, .int x, w2] st t I L R Q = WP V 188 151 [w0, .int x, w2] (.int x :: st) t I L R Q := wp_go rfl
theorem i188_151 {x0 : Int32} {x1 : Int32} {x2 : Nat} {x3 : Nat}  (h1 : x3 < t) (h2 : m_ob x3 8 = true) : WP V 188 151 ls [.int x0, .int x1, .ref x2, .ref x3] t I L R Q = WPC V 189 [.ref x3, .ref x2, .int x1, .int x0] 188 152 ls [] t I L R Q := wp_cls (wp_icv rfl rfl h1 h2) (by decide) (Nat.le_of_ble_eq_true rfl) rfl rfl (Nat.le_of_ble_eq_true rfl) (Nat.le_of_ble_eq_true rfl)
theorem i188_152 {w1 w2 : Value} {x : Nat} : WP V 188 152 [.ref x, w1, w2] st t I L R Q = WP V 188 153 [.ref x, w1, w2] (.ref x :: st) t I L R Q := wp_go rfl
theorem i188_153 {w1 w2 : Value} {x : Nat} : WP V 188 153 [.ref x, w1, w2] st t I L R Q = WP V 188 154 [.ref x, w1, w2] (.ref x :: st) t I L R Q := wp_go rfl
theorem i188_154 {k : Nat} (h1 : k < t) (h2 : m_ob k 8 = true) : WP V 188 154 ls (.ref k :: st) t I L R Q = WP V 188 155 ls (m_rv (R k 38) :: st) t I L R Q := wp_getR rfl (by decide) h1 h2
theorem i188_155  : WP V 188 155 ls st t I L R Q = WP V 188 156 ls (.int (nI 0) :: st) t I L R Q := wp_go rfl
theorem i188_156 {k j : Nat} (h2 : m_ar k 2 6 = true) (h1 : k < t) (h3 : j < 6) : WP V 188 156 ls (.int (nI j) :: .ref k :: st) t I L R Q = WP V 188 157 ls (.int (I k j) :: st) t I L R Q := wp_iaload rfl (by decide) h1 h2 h3
theorem i188_157 {k : Nat} {x : Int32} (h1 : k < t) (h2 : m_ob k 8 = true) : WP V 188 157 ls (.int x :: .ref k :: st) t I L R Q = WP V 188 158 ls st t (m_sc I k (m_sc (I k) 1 x)) L R Q := wp_putI rfl (by decide) h1 h2
theorem i188_158 {w1 w2 : Value} {x : Nat} : WP V 188 158 [.ref x, w1, w2] st t I L R Q = WP V 188 159 [.ref x, w1, w2] (.ref x :: st) t I L R Q := wp_go rfl
theorem i188_159 {w1 w2 : Value} {x : Nat} : WP V 188 159 [.ref x, w1, w2] st t I L R Q = WP V 188 160 [.ref x, w1, w2] (.ref x :: st) t I L R Q := wp_go rfl
theorem i188_160 {k : Nat} (h1 : k < t) (h2 : m_ob k 8 = true) : WP V 188 160 ls (.ref k :: st) t I L R Q = WP V 188 161 ls (m_rv (R k 38) :: st) t I L R Q := wp_getR rfl (by decide) h1 h2
theorem i188_161  : WP V 188 161 ls st t I L R Q = WP V 188 162 ls (.int (nI 1) :: st) t I L R Q := wp_go rfl
theorem i188_162 {k j : Nat} (h2 : m_ar k 2 6 = true) (h1 : k < t) (h3 : j < 6) : WP V 188 162 ls (.int (nI j) :: .ref k :: st) t I L R Q = WP V 188 163 ls (.int (I k j) :: st) t I L R Q := wp_iaload rfl (by decide) h1 h2 h3
theorem i188_163 {k : Nat} {x : Int32} (h1 : k < t) (h2 : m_ob k 8 = true) : WP V 188 163 ls (.int x :: .ref k :: st) t I L R Q = WP V 188 164 ls st t (m_sc I k (m_sc (I k) 2 x)) L R Q := wp_putI rfl (by decide) h1 h2
theorem i188_164 {w1 w2 : Value} {x : Nat} : WP V 188 164 [.ref x, w1, w2] st t I L R Q = WP V 188 165 [.ref x, w1, w2] (.ref x :: st) t I L R Q := wp_go rfl
theorem i188_165 {w1 w2 : Value} {x : Nat} : WP V 188 165 [.ref x, w1, w2] st t I L R Q = WP V 188 166 [.ref x, w1, w2] (.ref x :: st) t I L R Q := wp_go rfl
theorem i188_166 {k : Nat} (h1 : k < t) (h2 : m_ob k 8 = true) : WP V 188 166 ls (.ref k :: st) t I L R Q = WP V 188 167 ls (m_rv (R k 38) :: st) t I L R Q := wp_getR rfl (by decide) h1 h2
theorem i188_167  : WP V 188 167 ls st t I L R Q = WP V 188 168 ls (.int (nI 2) :: st) t I L R Q := wp_go rfl
theorem i188_168 {k j : Nat} (h2 : m_ar k 2 6 = true) (h1 : k < t) (h3 : j < 6) : WP V 188 168 ls (.int (nI j) :: .ref k :: st) t I L R Q = WP V 188 169 ls (.int (I k j) :: st) t I L R Q := wp_iaload rfl (by decide) h1 h2 h3
theorem i188_169 {k : Nat} {x : Int32} (h1 : k < t) (h2 : m_ob k 8 = true) : WP V 188 169 ls (.int x :: .ref k :: st) t I L R Q = WP V 188 170 ls st t (m_sc I k (m_sc (I k) 3 x)) L R Q := wp_putI rfl (by decide) h1 h2
theorem i188_170 {w1 w2 : Value} {x : Nat} : WP V 188 170 [.ref x, w1, w2] st t I L R Q = WP V 188 171 [.ref x, w1, w2] (.ref x :: st) t I L R Q := wp_go rfl
theorem i188_171 {w1 w2 : Value} {x : Nat} : WP V 188 171 [.ref x, w1, w2] st t I L R Q = WP V 188 172 [.ref x, w1, w2] (.ref x :: st) t I L R Q := wp_go rfl
theorem i188_172 {k : Nat} (h1 : k < t) (h2 : m_ob k 8 = true) : WP V 188 172 ls (.ref k :: st) t I L R Q = WP V 188 173 ls (m_rv (R k 38) :: st) t I L R Q := wp_getR rfl (by decide) h1 h2
theorem i188_173  : WP V 188 173 ls st t I L R Q = WP V 188 174 ls (.int (nI 3) :: st) t I L R Q := wp_go rfl
theorem i188_174 {k j : Nat} (h2 : m_ar k 2 6 = true) (h1 : k < t) (h3 : j < 6) : WP V 188 174 ls (.int (nI j) :: .ref k :: st) t I L R Q = WP V 188 175 ls (.int (I k j) :: st) t I L R Q := wp_iaload rfl (by decide) h1 h2 h3
theorem i188_175 {k : Nat} {x : Int32} (h1 : k < t) (h2 : m_ob k 8 = true) : WP V 188 175 ls (.int x :: .ref k :: st) t I L R Q = WP V 188 176 ls st t (m_sc I k (m_sc (I k) 4 x)) L R Q := wp_putI rfl (by decide) h1 h2
theorem i188_176 {w1 w2 : Value} {x : Nat} : WP V 188 176 [.ref x, w1, w2] st t I L R Q = WP V 188 177 [.ref x, w1, w2] (.ref x :: st) t I L R Q := wp_go rfl
theorem i188_177 {w1 w2 : Value} {x : Nat} : WP V 188 177 [.ref x, w1, w2] st t I L R Q = WP V 188 178 [.ref x, w1, w2] (.ref x :: st) t I L R Q := wp_go rfl
theorem i188_178 {k : Nat} (h1 : k < t) (h2 : m_ob k 8 = true) : WP V 188 178 ls (.ref k :: st) t I L R Q = WP V 188 179 ls (m_rv (R k 38) :: st) t I L R Q := wp_getR rfl (by decide) h1 h2
theorem i188_179  : WP V 188 179 ls st t I L R Q = WP V 188 180 ls (.int (nI 4) :: st) t I L R Q := wp_go rfl
theorem i188_180 {k j : Nat} (h2 : m_ar k 2 6 = true) (h1 : k < t) (h3 : j < 6) : WP V 188 180 ls (.int (nI j) :: .ref k :: st) t I L R Q = WP V 188 181 ls (.int (I k j) :: st) t I L R Q := wp_iaload rfl (by decide) h1 h2 h3
theorem i188_181 {k : Nat} {x : Int32} (h1 : k < t) (h2 : m_ob k 8 = true) : WP V 188 181 ls (.int x :: .ref k :: st) t I L R Q = WP V 188 182 ls st t (m_sc I k (m_sc (I k) 17 x)) L R Q := wp_putI rfl (by decide) h1 h2
theorem i188_182  : WP V 188 182 ls st t I L R Q = WP V 188 183 ls (.int (nI 0) :: st) t I L R Q := wp_go rfl
theorem i188_183 {p : Int32} {w0 w2 : Value} {x : Int32} : WP V 188 183 [w0, .int p, w2] (.int x :: st) t I L R Q = WP V 188 184 [w0, .int p, .int x] st t I L R Q := wp_go rfl
theorem i188_184 {w0 w1 : Value} {x : Int32} : WP V 188 184 [w0, w1, .int x] st t I L R Q = WP V 188 185 [w0, w1, .int x] (.int x :: st) t I L R Q := wp_go rfl
theorem i188_185  : WP V 188 185 ls st t I L R Q = WP V 188 186 ls (.int (nI 6) :: st) t I L R Q := wp_go rfl
theorem i188_186 {x y : Int32} : WP V 188 186 ls (.int y :: .int x :: st) t I L R Q = if y ≤ x then WP V 188 206 ls st t I L R Q else WP V 188 187 ls st t I L R Q := wp_br (c := m_cc .ge x y) rfl rfl
theorem i188_187 {w1 w2 : Value} {x : Nat} : WP V 188 187 [.ref x, w1, w2] st t I L R Q = WP V 188 188 [.ref x, w1, w2] (.ref x :: st) t I L R Q := wp_go rfl
theorem i188_188 {k : Nat} (h1 : k < t) (h2 : m_ob k 8 = true) : WP V 188 188 ls (.ref k :: st) t I L R Q = WP V 188 189 ls (m_rv (R k 11) :: st) t I L R Q := wp_getR rfl (by decide) h1 h2
theorem i188_189 {w0 w1 : Value} {x : Int32} : WP V 188 189 [w0, w1, .int x] st t I L R Q = WP V 188 190 [w0, w1, .int x] (.int x :: st) t I L R Q := wp_go rfl
theorem i188_190 {w1 w2 : Value} {x : Nat} : WP V 188 190 [.ref x, w1, w2] st t I L R Q = WP V 188 191 [.ref x, w1, w2] (.ref x :: st) t I L R Q := wp_go rfl
theorem i188_191 {k : Nat} (h1 : k < t) (h2 : m_ob k 8 = true) : WP V 188 191 ls (.ref k :: st) t I L R Q = WP V 188 192 ls (m_rv (R k 38) :: st) t I L R Q := wp_getR rfl (by decide) h1 h2
theorem i188_192  : WP V 188 192 ls st t I L R Q = WP V 188 193 ls (.int (nI 5) :: st) t I L R Q := wp_go rfl
theorem i188_193 {k j : Nat} (h2 : m_ar k 2 6 = true) (h1 : k < t) (h3 : j < 6) : WP V 188 193 ls (.int (nI j) :: .ref k :: st) t I L R Q = WP V 188 194 ls (.int (I k j) :: st) t I L R Q := wp_iaload rfl (by decide) h1 h2 h3
theorem i188_194 {w0 w1 : Value} {x : Int32} : WP V 188 194 [w0, w1, .int x] st t I L R Q = WP V 188 195 [w0, w1, .int x] (.int x :: st) t I L R Q := wp_go rfl
theorem i188_195 {x y : Int32} : WP V 188 195 ls (.int y :: .int x :: st) t I L R Q = WP V 188 196 ls (.int (x >>> (y &&& 31)) :: st) t I L R Q := wp_go rfl
theorem i188_196  : WP V 188 196 ls st t I L R Q = WP V 188 197 ls (.int (nI 1) :: st) t I L R Q := wp_go rfl
theorem i188_197 {x y : Int32} : WP V 188 197 ls (.int y :: .int x :: st) t I L R Q = WP V 188 198 ls (.int (x &&& y) :: st) t I L R Q := wp_go rfl
theorem i188_198  : WP V 188 198 ls st t I L R Q = WP V 188 199 ls (.int (nI 1) :: st) t I L R Q := wp_go rfl
theorem i188_199 {x y : Int32} : WP V 188 199 ls (.int y :: .int x :: st) t I L R Q = if x = y then WP V 188 200 ls st t I L R Q else WP V 188 202 ls st t I L R Q := wp_brn (c := m_cc .ne x y) rfl rfl
theorem i188_200  : WP V 188 200 ls st t I L R Q = WP V 188 201 ls (.int (nI 1) :: st) t I L R Q := wp_go rfl
theorem i188_201  : WP V 188 201 ls st t I L R Q = WP V 188 203 ls st t I L R Q := wp_go rfl
theorem i188_202  : WP V 188 202 ls st t I L R Q = WP V 188 203 ls (.int (nI 0) :: st) t I L R Q := wp_go rfl
theorem i188_203 {k j : Nat} {x : Int32} (h2 : m_ar k 3 6 = true) (h1 : k < t) (h3 : j < 6) : WP V 188 203 ls (.int x :: .int (nI j) :: .ref k :: st) t I L R Q = WP V 188 204 ls st t (m_sc I k (m_sc (I k) j (x &&& 1))) L R Q := wp_bastore rfl (by decide) h1 h2 h3
theorem i188_204 {p : Int32} {w0 : Value} {x : Int32} : WP V 188 204 [w0, .int p, .int x] st t I L R Q = WP V 188 205 [w0, .int p, .int (x + (nI 1))] st t I L R Q := wp_go rfl
theorem i188_205  : WP V 188 205 ls st t I L R Q = WP V 188 184 ls st t I L R Q := wp_go rfl
theorem i188_206  : WP V 188 206 ls [] t I L R Q = Q none t I L R := wp_rtv rfl rfl
-- TransactionCellsModel.movesRow([IIZ)V
theorem i189_0  : WP V 189 0 ls st t I L R Q = WP V 189 1 ls (.int (nI 0) :: st) t I L R Q := wp_go rfl
theorem i189_1 {p : Int32} {w0 w1 w2 w4 : Value} {x : Int32} : WP V 189 1 [w0, w1, w2, .int p, w4] (.int x :: st) t I L R Q = WP V 189 2 [w0, w1, w2, .int p, .int x] st t I L R Q := wp_go rfl
theorem i189_2 {w0 w1 w2 w3 : Value} {x : Int32} : WP V 189 2 [w0, w1, w2, w3, .int x] st t I L R Q = WP V 189 3 [w0, w1, w2, w3, .int x] (.int x :: st) t I L R Q := wp_go rfl
theorem i189_3 {w0 w1 w3 w4 : Value} {x : Int32} : WP V 189 3 [w0, w1, .int x, w3, w4] st t I L R Q = WP V 189 4 [w0, w1, .int x, w3, w4] (.int x :: st) t I L R Q := wp_go rfl
theorem i189_4 {x y : Int32} : WP V 189 4 ls (.int y :: .int x :: st) t I L R Q = if y ≤ x then WP V 189 32 ls st t I L R Q else WP V 189 5 ls st t I L R Q := wp_br (c := m_cc .ge x y) rfl rfl
theorem i189_5 {w0 w1 w2 w4 : Value} {x : Int32} : WP V 189 5 [w0, w1, w2, .int x, w4] st t I L R Q = WP V 189 6 [w0, w1, w2, .int x, w4] (.int x :: st) t I L R Q := wp_go rfl
theorem i189_6 {x : Int32} : WP V 189 6 ls (.int x :: st) t I L R Q = if x = nI 0 then WP V 189 16 ls st t I L R Q else WP V 189 7 ls st t I L R Q := wp_br (c := m_cc .eq x 0) rfl rfl
theorem i189_7 {w1 w2 w3 w4 : Value} {x : Nat} : WP V 189 7 [.ref x, w1, w2, w3, w4] st t I L R Q = WP V 189 8 [.ref x, w1, w2, w3, w4] (.ref x :: st) t I L R Q := wp_go rfl
theorem i189_8 {k : Nat} (h1 : k < t) (h2 : m_ob k 8 = true) : WP V 189 8 ls (.ref k :: st) t I L R Q = WP V 189 9 ls (m_rv (R k 39) :: st) t I L R Q := wp_getR rfl (by decide) h1 h2
theorem i189_9 {w1 w2 w3 w4 : Value} {x : Nat} : WP V 189 9 [.ref x, w1, w2, w3, w4] st t I L R Q = WP V 189 10 [.ref x, w1, w2, w3, w4] (.ref x :: st) t I L R Q := wp_go rfl
theorem i189_10 {k : Nat} (h1 : k < t) (h2 : m_ob k 8 = true) : WP V 189 10 ls (.ref k :: st) t I L R Q = WP V 189 11 ls (.int (I k 41) :: st) t I L R Q := wp_getI rfl (by decide) h1 h2
theorem i189_11 {w0 w2 w3 w4 : Value} {x : Nat} : WP V 189 11 [w0, .ref x, w2, w3, w4] st t I L R Q = WP V 189 12 [w0, .ref x, w2, w3, w4] (.ref x :: st) t I L R Q := wp_go rfl
theorem i189_12 {w0 w1 w2 w3 : Value} {x : Int32} : WP V 189 12 [w0, w1, w2, w3, .int x] st t I L R Q = WP V 189 13 [w0, w1, w2, w3, .int x] (.int x :: st) t I L R Q := wp_go rfl
theorem i189_13 {k j : Nat} {N : Nat} (h2 : m_ar k 2 N = true) (hN : N < 2 ^ 31) (h1 : k < t) (h3 : j < N) : WP V 189 13 ls (.int (nI j) :: .ref k :: st) t I L R Q = WP V 189 14 ls (.int (I k j) :: st) t I L R Q := wp_iaload rfl hN h1 h2 h3
theorem i189_14 {k j : Nat} {x : Int32} (h2 : m_ar k 2 4000 = true) (h1 : k < t) (h3 : j < 4000) : WP V 189 14 ls (.int x :: .int (nI j) :: .ref k :: st) t I L R Q = WP V 189 15 ls st t (m_sc I k (m_sc (I k) j x)) L R Q := wp_iastore rfl (by decide) h1 h2 h3
theorem i189_15  : WP V 189 15 ls st t I L R Q = WP V 189 24 ls st t I L R Q := wp_go rfl
theorem i189_16 {w0 w2 w3 w4 : Value} {x : Nat} : WP V 189 16 [w0, .ref x, w2, w3, w4] st t I L R Q = WP V 189 17 [w0, .ref x, w2, w3, w4] (.ref x :: st) t I L R Q := wp_go rfl
theorem i189_17 {w0 w1 w2 w3 : Value} {x : Int32} : WP V 189 17 [w0, w1, w2, w3, .int x] st t I L R Q = WP V 189 18 [w0, w1, w2, w3, .int x] (.int x :: st) t I L R Q := wp_go rfl
theorem i189_18 {w1 w2 w3 w4 : Value} {x : Nat} : WP V 189 18 [.ref x, w1, w2, w3, w4] st t I L R Q = WP V 189 19 [.ref x, w1, w2, w3, w4] (.ref x :: st) t I L R Q := wp_go rfl
theorem i189_19 {k : Nat} (h1 : k < t) (h2 : m_ob k 8 = true) : WP V 189 19 ls (.ref k :: st) t I L R Q = WP V 189 20 ls (m_rv (R k 39) :: st) t I L R Q := wp_getR rfl (by decide) h1 h2
theorem i189_20 {w1 w2 w3 w4 : Value} {x : Nat} : WP V 189 20 [.ref x, w1, w2, w3, w4] st t I L R Q = WP V 189 21 [.ref x, w1, w2, w3, w4] (.ref x :: st) t I L R Q := wp_go rfl
theorem i189_21 {k : Nat} (h1 : k < t) (h2 : m_ob k 8 = true) : WP V 189 21 ls (.ref k :: st) t I L R Q = WP V 189 22 ls (.int (I k 41) :: st) t I L R Q := wp_getI rfl (by decide) h1 h2
theorem i189_22 {k j : Nat} (h2 : m_ar k 2 4000 = true) (h1 : k < t) (h3 : j < 4000) : WP V 189 22 ls (.int (nI j) :: .ref k :: st) t I L R Q = WP V 189 23 ls (.int (I k j) :: st) t I L R Q := wp_iaload rfl (by decide) h1 h2 h3
theorem i189_23 {k j : Nat} {N : Nat} {x : Int32} (h2 : m_ar k 2 N = true) (hN : N < 2 ^ 31) (h1 : k < t) (h3 : j < N) : WP V 189 23 ls (.int x :: .int (nI j) :: .ref k :: st) t I L R Q = WP V 189 24 ls st t (m_sc I k (m_sc (I k) j x)) L R Q := wp_iastore rfl hN h1 h2 h3
theorem i189_24 {w1 w2 w3 w4 : Value} {x : Nat} : WP V 189 24 [.ref x, w1, w2, w3, w4] st t I L R Q = WP V 189 25 [.ref x, w1, w2, w3, w4] (.ref x :: st) t I L R Q := wp_go rfl
theorem i189_25 {v0 : Nat} : WP V 189 25 ls (.ref v0 :: st) t I L R Q = WP V 189 26 ls (.ref v0 :: .ref v0 :: st) t I L R Q := wp_go rfl
theorem i189_26 {k : Nat} (h1 : k < t) (h2 : m_ob k 8 = true) : WP V 189 26 ls (.ref k :: st) t I L R Q = WP V 189 27 ls (.int (I k 41) :: st) t I L R Q := wp_getI rfl (by decide) h1 h2
theorem i189_27  : WP V 189 27 ls st t I L R Q = WP V 189 28 ls (.int (nI 1) :: st) t I L R Q := wp_go rfl
theorem i189_28 {x y : Int32} : WP V 189 28 ls (.int y :: .int x :: st) t I L R Q = WP V 189 29 ls (.int (x + y) :: st) t I L R Q := wp_go rfl
theorem i189_29 {k : Nat} {x : Int32} (h1 : k < t) (h2 : m_ob k 8 = true) : WP V 189 29 ls (.int x :: .ref k :: st) t I L R Q = WP V 189 30 ls st t (m_sc I k (m_sc (I k) 41 x)) L R Q := wp_putI rfl (by decide) h1 h2
theorem i189_30 {p : Int32} {w0 w1 w2 : Value} {x : Int32} : WP V 189 30 [w0, w1, w2, .int p, .int x] st t I L R Q = WP V 189 31 [w0, w1, w2, .int p, .int (x + (nI 1))] st t I L R Q := wp_go rfl
theorem i189_31  : WP V 189 31 ls st t I L R Q = WP V 189 2 ls st t I L R Q := wp_go rfl
theorem i189_32  : WP V 189 32 ls [] t I L R Q = Q none t I L R := wp_rtv rfl rfl
-- TransactionCellsModel.keep()I
theorem i190_0 {w1 : Value} {x : Nat} : WP V 190 0 [.ref x, w1] st t I L R Q = WP V 190 1 [.ref x, w1] (.ref x :: st) t I L R Q := wp_go rfl
theorem i190_1  : WP V 190 1 ls st t I L R Q = WP V 190 2 ls (.int (nI 1) :: st) t I L R Q := wp_go rfl
theorem i190_2 {k : Nat} {x : Int32} (h1 : k < t) (h2 : m_ob k 8 = true) (h3 : m_01 x = true) : WP V 190 2 ls (.int x :: .ref k :: st) t I L R Q = WP V 190 3 ls st t (m_sc I k (m_sc (I k) 37 x)) L R Q := wp_putZ rfl (by decide) h1 h2 h3
theorem i190_3 {w1 : Value} {x : Nat} : WP V 190 3 [.ref x, w1] st t I L R Q = WP V 190 4 [.ref x, w1] (.ref x :: st) t I L R Q := wp_go rfl
theorem i190_4  : WP V 190 4 ls st t I L R Q = WP V 190 5 ls (.int (nI 1) :: st) t I L R Q := wp_go rfl
theorem i190_5 {x0 : Int32} {x1 : Nat}  (h1 : x1 < t) (h2 : m_ob x1 8 = true) : WP V 190 5 ls [.int x0, .ref x1] t I L R Q = WPC V 188 [.ref x1, .int x0] 190 6 ls [] t I L R Q := wp_cls (wp_icv rfl rfl h1 h2) (by decide) (Nat.le_of_ble_eq_true rfl) rfl rfl (Nat.le_of_ble_eq_true rfl) (Nat.le_of_ble_eq_true rfl)
theorem i190_6  : WP V 190 6 ls st t I L R Q = WP V 190 7 ls (.int (nI 0) :: st) t I L R Q := wp_go rfl
theorem i190_7 {p : Nat} {w1 : Value} {x : Int32} : WP V 190 7 [.ref p, w1] (.int x :: st) t I L R Q = WP V 190 8 [.ref p, .int x] st t I L R Q := wp_go rfl
theorem i190_8 {w0 : Value} {x : Int32} : WP V 190 8 [w0, .int x] st t I L R Q = WP V 190 9 [w0, .int x] (.int x :: st) t I L R Q := wp_go rfl
theorem i190_9  : WP V 190 9 ls st t I L R Q = WP V 190 10 ls (.int (nI 96) :: st) t I L R Q := wp_go rfl
theorem i190_10 {x y : Int32} : WP V 190 10 ls (.int y :: .int x :: st) t I L R Q = if y ≤ x then WP V 190 21 ls st t I L R Q else WP V 190 11 ls st t I L R Q := wp_br (c := m_cc .ge x y) rfl rfl
theorem i190_11 {w1 : Value} {x : Nat} : WP V 190 11 [.ref x, w1] st t I L R Q = WP V 190 12 [.ref x, w1] (.ref x :: st) t I L R Q := wp_go rfl
theorem i190_12 {k : Nat} (h1 : k < t) (h2 : m_ob k 8 = true) : WP V 190 12 ls (.ref k :: st) t I L R Q = WP V 190 13 ls (m_rv (R k 40) :: st) t I L R Q := wp_getR rfl (by decide) h1 h2
theorem i190_13 {w0 : Value} {x : Int32} : WP V 190 13 [w0, .int x] st t I L R Q = WP V 190 14 [w0, .int x] (.int x :: st) t I L R Q := wp_go rfl
theorem i190_14 {w1 : Value} {x : Nat} : WP V 190 14 [.ref x, w1] st t I L R Q = WP V 190 15 [.ref x, w1] (.ref x :: st) t I L R Q := wp_go rfl
theorem i190_15 {k : Nat} (h1 : k < t) (h2 : m_ob k 8 = true) : WP V 190 15 ls (.ref k :: st) t I L R Q = WP V 190 16 ls (m_rv (R k 14) :: st) t I L R Q := wp_getR rfl (by decide) h1 h2
theorem i190_16 {w0 : Value} {x : Int32} : WP V 190 16 [w0, .int x] st t I L R Q = WP V 190 17 [w0, .int x] (.int x :: st) t I L R Q := wp_go rfl
theorem i190_17 {k j : Nat} (h2 : m_ar k 4 96 = true) (h1 : k < t) (h3 : j < 96) : WP V 190 17 ls (.int (nI j) :: .ref k :: st) t I L R Q = WP V 190 18 ls (.long (L k j) :: st) t I L R Q := wp_laload rfl (by decide) h1 h2 h3
theorem i190_18 {k j : Nat} {x : Int64} (h2 : m_ar k 4 96 = true) (h1 : k < t) (h3 : j < 96) : WP V 190 18 ls (.long x :: .int (nI j) :: .ref k :: st) t I L R Q = WP V 190 19 ls st t I (m_sc L k (m_sc (L k) j x)) R Q := wp_lastore rfl (by decide) h1 h2 h3
theorem i190_19 {p : Nat} {x : Int32} : WP V 190 19 [.ref p, .int x] st t I L R Q = WP V 190 20 [.ref p, .int (x + (nI 1))] st t I L R Q := wp_go rfl
theorem i190_20  : WP V 190 20 ls st t I L R Q = WP V 190 8 ls st t I L R Q := wp_go rfl
theorem i190_21  : WP V 190 21 ls st t I L R Q = WP V 190 22 ls (.int (nI 0) :: st) t I L R Q := wp_go rfl
theorem i190_22 {x : Int32} : WP V 190 22 ls [.int x] t I L R Q = Q (some (.int x)) t I L R := wp_rti rfl rfl
-- TransactionCellsModel.back()I
theorem i191_0 {w1 : Value} {x : Nat} : WP V 191 0 [.ref x, w1] st t I L R Q = WP V 191 1 [.ref x, w1] (.ref x :: st) t I L R Q := wp_go rfl
theorem i191_1 {k : Nat} (h1 : k < t) (h2 : m_ob k 8 = true) : WP V 191 1 ls (.ref k :: st) t I L R Q = WP V 191 2 ls (.int (I k 37) :: st) t I L R Q := wp_getI rfl (by decide) h1 h2
theorem i191_2 {x : Int32} : WP V 191 2 ls (.int x :: st) t I L R Q = if x = nI 0 then WP V 191 3 ls st t I L R Q else WP V 191 5 ls st t I L R Q := wp_brn (c := m_cc .ne x 0) rfl rfl
theorem i191_3  : WP V 191 3 ls st t I L R Q = WP V 191 4 ls (.int (-103) :: st) t I L R Q := wp_go rfl
theorem i191_4 {x : Int32} : WP V 191 4 ls [.int x] t I L R Q = Q (some (.int x)) t I L R := wp_rti rfl rfl
theorem i191_5 {w1 : Value} {x : Nat} : WP V 191 5 [.ref x, w1] st t I L R Q = WP V 191 6 [.ref x, w1] (.ref x :: st) t I L R Q := wp_go rfl
theorem i191_6  : WP V 191 6 ls st t I L R Q = WP V 191 7 ls (.int (nI 0) :: st) t I L R Q := wp_go rfl
theorem i191_7 {x0 : Int32} {x1 : Nat}  (h1 : x1 < t) (h2 : m_ob x1 8 = true) : WP V 191 7 ls [.int x0, .ref x1] t I L R Q = WPC V 188 [.ref x1, .int x0] 191 8 ls [] t I L R Q := wp_cls (wp_icv rfl rfl h1 h2) (by decide) (Nat.le_of_ble_eq_true rfl) rfl rfl (Nat.le_of_ble_eq_true rfl) (Nat.le_of_ble_eq_true rfl)
theorem i191_8  : WP V 191 8 ls st t I L R Q = WP V 191 9 ls (.int (nI 0) :: st) t I L R Q := wp_go rfl
theorem i191_9 {p : Nat} {w1 : Value} {x : Int32} : WP V 191 9 [.ref p, w1] (.int x :: st) t I L R Q = WP V 191 10 [.ref p, .int x] st t I L R Q := wp_go rfl
theorem i191_10 {w0 : Value} {x : Int32} : WP V 191 10 [w0, .int x] st t I L R Q = WP V 191 11 [w0, .int x] (.int x :: st) t I L R Q := wp_go rfl
theorem i191_11  : WP V 191 11 ls st t I L R Q = WP V 191 12 ls (.int (nI 96) :: st) t I L R Q := wp_go rfl
theorem i191_12 {x y : Int32} : WP V 191 12 ls (.int y :: .int x :: st) t I L R Q = if y ≤ x then WP V 191 23 ls st t I L R Q else WP V 191 13 ls st t I L R Q := wp_br (c := m_cc .ge x y) rfl rfl
theorem i191_13 {w1 : Value} {x : Nat} : WP V 191 13 [.ref x, w1] st t I L R Q = WP V 191 14 [.ref x, w1] (.ref x :: st) t I L R Q := wp_go rfl
theorem i191_14 {k : Nat} (h1 : k < t) (h2 : m_ob k 8 = true) : WP V 191 14 ls (.ref k :: st) t I L R Q = WP V 191 15 ls (m_rv (R k 14) :: st) t I L R Q := wp_getR rfl (by decide) h1 h2
theorem i191_15 {w0 : Value} {x : Int32} : WP V 191 15 [w0, .int x] st t I L R Q = WP V 191 16 [w0, .int x] (.int x :: st) t I L R Q := wp_go rfl
theorem i191_16 {w1 : Value} {x : Nat} : WP V 191 16 [.ref x, w1] st t I L R Q = WP V 191 17 [.ref x, w1] (.ref x :: st) t I L R Q := wp_go rfl
theorem i191_17 {k : Nat} (h1 : k < t) (h2 : m_ob k 8 = true) : WP V 191 17 ls (.ref k :: st) t I L R Q = WP V 191 18 ls (m_rv (R k 40) :: st) t I L R Q := wp_getR rfl (by decide) h1 h2
theorem i191_18 {w0 : Value} {x : Int32} : WP V 191 18 [w0, .int x] st t I L R Q = WP V 191 19 [w0, .int x] (.int x :: st) t I L R Q := wp_go rfl
theorem i191_19 {k j : Nat} (h2 : m_ar k 4 96 = true) (h1 : k < t) (h3 : j < 96) : WP V 191 19 ls (.int (nI j) :: .ref k :: st) t I L R Q = WP V 191 20 ls (.long (L k j) :: st) t I L R Q := wp_laload rfl (by decide) h1 h2 h3
theorem i191_20 {k j : Nat} {x : Int64} (h2 : m_ar k 4 96 = true) (h1 : k < t) (h3 : j < 96) : WP V 191 20 ls (.long x :: .int (nI j) :: .ref k :: st) t I L R Q = WP V 191 21 ls st t I (m_sc L k (m_sc (L k) j x)) R Q := wp_lastore rfl (by decide) h1 h2 h3
theorem i191_21 {p : Nat} {x : Int32} : WP V 191 21 [.ref p, .int x] st t I L R Q = WP V 191 22 [.ref p, .int (x + (nI 1))] st t I L R Q := wp_go rfl
theorem i191_22  : WP V 191 22 ls st t I L R Q = WP V 191 10 ls st t I L R Q := wp_go rfl
theorem i191_23  : WP V 191 23 ls st t I L R Q = WP V 191 24 ls (.int (nI 0) :: st) t I L R Q := wp_go rfl
theorem i191_24 {x : Int32} : WP V 191 24 ls [.int x] t I L R Q = Q (some (.int x)) t I L R := wp_rti rfl rfl
-- TransactionCellsModel.digest()J
theorem i192_0  : WP V 192 0 ls st t I L R Q = WP V 192 1 ls (.long (lN 41) :: st) t I L R Q := wp_go rfl
theorem i192_1 {p : Nat} {w1 w2 w3 w4 : Value} {x : Int64} : WP V 192 1 [.ref p, w1, w2, w3, w4] (.long x :: st) t I L R Q = WP V 192 2 [.ref p, .long x, m_u, w3, w4] st t I L R Q := wp_go rfl
theorem i192_2  : WP V 192 2 ls st t I L R Q = WP V 192 3 ls (.int (nI 0) :: st) t I L R Q := wp_go rfl
theorem i192_3 {w0 w1 w3 w4 : Value} {x : Int32} : WP V 192 3 [w0, w1, m_u, w3, w4] (.int x :: st) t I L R Q = WP V 192 4 [w0, w1, m_u, .int x, w4] st t I L R Q := wp_go rfl
theorem i192_4 {w0 w1 w2 w4 : Value} {x : Int32} : WP V 192 4 [w0, w1, w2, .int x, w4] st t I L R Q = WP V 192 5 [w0, w1, w2, .int x, w4] (.int x :: st) t I L R Q := wp_go rfl
theorem i192_5  : WP V 192 5 ls st t I L R Q = WP V 192 6 ls (.int (nI 8) :: st) t I L R Q := wp_go rfl
theorem i192_6 {x y : Int32} : WP V 192 6 ls (.int y :: .int x :: st) t I L R Q = if y ≤ x then WP V 192 26 ls st t I L R Q else WP V 192 7 ls st t I L R Q := wp_br (c := m_cc .ge x y) rfl rfl
theorem i192_7  : WP V 192 7 ls st t I L R Q = WP V 192 8 ls (.int (nI 0) :: st) t I L R Q := wp_go rfl
theorem i192_8 {p : Int32} {w0 w1 w2 w4 : Value} {x : Int32} : WP V 192 8 [w0, w1, w2, .int p, w4] (.int x :: st) t I L R Q = WP V 192 9 [w0, w1, w2, .int p, .int x] st t I L R Q := wp_go rfl
theorem i192_9 {w0 w1 w2 w3 : Value} {x : Int32} : WP V 192 9 [w0, w1, w2, w3, .int x] st t I L R Q = WP V 192 10 [w0, w1, w2, w3, .int x] (.int x :: st) t I L R Q := wp_go rfl
theorem i192_10  : WP V 192 10 ls st t I L R Q = WP V 192 11 ls (.int (nI 14) :: st) t I L R Q := wp_go rfl
theorem i192_11 {x y : Int32} : WP V 192 11 ls (.int y :: .int x :: st) t I L R Q = if y ≤ x then WP V 192 24 ls st t I L R Q else WP V 192 12 ls st t I L R Q := wp_br (c := m_cc .ge x y) rfl rfl
theorem i192_12  : WP V 192 12 ls st t I L R Q = WP V 192 13 ls (.long (lN 31) :: st) t I L R Q := wp_go rfl
theorem i192_13 {w0 w2 w3 w4 : Value} {x : Int64} : WP V 192 13 [w0, .long x, w2, w3, w4] st t I L R Q = WP V 192 14 [w0, .long x, w2, w3, w4] (.long x :: st) t I L R Q := wp_go rfl
theorem i192_14 {x y : Int64} : WP V 192 14 ls (.long y :: .long x :: st) t I L R Q = WP V 192 15 ls (.long (x * y) :: st) t I L R Q := wp_go rfl
theorem i192_15 {w1 w2 w3 w4 : Value} {x : Nat} : WP V 192 15 [.ref x, w1, w2, w3, w4] st t I L R Q = WP V 192 16 [.ref x, w1, w2, w3, w4] (.ref x :: st) t I L R Q := wp_go rfl
theorem i192_16 {w0 w1 w2 w4 : Value} {x : Int32} : WP V 192 16 [w0, w1, w2, .int x, w4] st t I L R Q = WP V 192 17 [w0, w1, w2, .int x, w4] (.int x :: st) t I L R Q := wp_go rfl
theorem i192_17 {w0 w1 w2 w3 : Value} {x : Int32} : WP V 192 17 [w0, w1, w2, w3, .int x] st t I L R Q = WP V 192 18 [w0, w1, w2, w3, .int x] (.int x :: st) t I L R Q := wp_go rfl
theorem i192_18 {x0 : Int32} {x1 : Int32} {x2 : Nat} {r0 : Int64} (h1 : x2 < t) (h2 : m_ob x2 8 = true) : WP V 192 18 ls [.int x0, .int x1, .ref x2, .long r0] t I L R Q = WPC V 183 [.ref x2, .int x1, .int x0] 192 19 ls [.long r0] t I L R Q := wp_cls (wp_icv rfl rfl h1 h2) (by decide) (Nat.le_of_ble_eq_true rfl) rfl rfl (Nat.le_of_ble_eq_true rfl) (Nat.le_of_ble_eq_true rfl)
theorem i192_19 {x : Int32} : WP V 192 19 ls (.int x :: st) t I L R Q = WP V 192 20 ls (.long x.toInt64 :: st) t I L R Q := wp_go rfl
theorem i192_20 {x y : Int64} : WP V 192 20 ls (.long y :: .long x :: st) t I L R Q = WP V 192 21 ls (.long (x + y) :: st) t I L R Q := wp_go rfl
theorem i192_21 {p : Nat} {w1 w2 w3 w4 : Value} {x : Int64} : WP V 192 21 [.ref p, w1, w2, w3, w4] (.long x :: st) t I L R Q = WP V 192 22 [.ref p, .long x, m_u, w3, w4] st t I L R Q := wp_go rfl
theorem i192_22 {p : Int32} {w0 w1 w2 : Value} {x : Int32} : WP V 192 22 [w0, w1, w2, .int p, .int x] st t I L R Q = WP V 192 23 [w0, w1, w2, .int p, .int (x + (nI 1))] st t I L R Q := wp_go rfl
theorem i192_23  : WP V 192 23 ls st t I L R Q = WP V 192 9 ls st t I L R Q := wp_go rfl
theorem i192_24 {w0 w1 w4 : Value} {x : Int32} : WP V 192 24 [w0, w1, m_u, .int x, w4] st t I L R Q = WP V 192 25 [w0, w1, m_u, .int (x + (nI 1)), w4] st t I L R Q := wp_go rfl
theorem i192_25  : WP V 192 25 ls st t I L R Q = WP V 192 4 ls st t I L R Q := wp_go rfl
theorem i192_26  : WP V 192 26 ls st t I L R Q = WP V 192 27 ls (.int (nI 0) :: st) t I L R Q := wp_go rfl
theorem i192_27 {w0 w1 w3 w4 : Value} {x : Int32} : WP V 192 27 [w0, w1, m_u, w3, w4] (.int x :: st) t I L R Q = WP V 192 28 [w0, w1, m_u, .int x, w4] st t I L R Q := wp_go rfl
theorem i192_28 {w0 w1 w2 w4 : Value} {x : Int32} : WP V 192 28 [w0, w1, w2, .int x, w4] st t I L R Q = WP V 192 29 [w0, w1, w2, .int x, w4] (.int x :: st) t I L R Q := wp_go rfl
theorem i192_29  : WP V 192 29 ls st t I L R Q = WP V 192 30 ls (.int (nI 3) :: st) t I L R Q := wp_go rfl
theorem i192_30 {x y : Int32} : WP V 192 30 ls (.int y :: .int x :: st) t I L R Q = if y ≤ x then WP V 192 50 ls st t I L R Q else WP V 192 31 ls st t I L R Q := wp_br (c := m_cc .ge x y) rfl rfl
theorem i192_31  : WP V 192 31 ls st t I L R Q = WP V 192 32 ls (.int (nI 0) :: st) t I L R Q := wp_go rfl
theorem i192_32 {p : Int32} {w0 w1 w2 w4 : Value} {x : Int32} : WP V 192 32 [w0, w1, w2, .int p, w4] (.int x :: st) t I L R Q = WP V 192 33 [w0, w1, w2, .int p, .int x] st t I L R Q := wp_go rfl
theorem i192_33 {w0 w1 w2 w3 : Value} {x : Int32} : WP V 192 33 [w0, w1, w2, w3, .int x] st t I L R Q = WP V 192 34 [w0, w1, w2, w3, .int x] (.int x :: st) t I L R Q := wp_go rfl
theorem i192_34  : WP V 192 34 ls st t I L R Q = WP V 192 35 ls (.int (nI 12) :: st) t I L R Q := wp_go rfl
theorem i192_35 {x y : Int32} : WP V 192 35 ls (.int y :: .int x :: st) t I L R Q = if y ≤ x then WP V 192 48 ls st t I L R Q else WP V 192 36 ls st t I L R Q := wp_br (c := m_cc .ge x y) rfl rfl
theorem i192_36  : WP V 192 36 ls st t I L R Q = WP V 192 37 ls (.long (lN 31) :: st) t I L R Q := wp_go rfl
theorem i192_37 {w0 w2 w3 w4 : Value} {x : Int64} : WP V 192 37 [w0, .long x, w2, w3, w4] st t I L R Q = WP V 192 38 [w0, .long x, w2, w3, w4] (.long x :: st) t I L R Q := wp_go rfl
theorem i192_38 {x y : Int64} : WP V 192 38 ls (.long y :: .long x :: st) t I L R Q = WP V 192 39 ls (.long (x * y) :: st) t I L R Q := wp_go rfl
theorem i192_39 {w1 w2 w3 w4 : Value} {x : Nat} : WP V 192 39 [.ref x, w1, w2, w3, w4] st t I L R Q = WP V 192 40 [.ref x, w1, w2, w3, w4] (.ref x :: st) t I L R Q := wp_go rfl
theorem i192_40 {w0 w1 w2 w4 : Value} {x : Int32} : WP V 192 40 [w0, w1, w2, .int x, w4] st t I L R Q = WP V 192 41 [w0, w1, w2, .int x, w4] (.int x :: st) t I L R Q := wp_go rfl
theorem i192_41 {w0 w1 w2 w3 : Value} {x : Int32} : WP V 192 41 [w0, w1, w2, w3, .int x] st t I L R Q = WP V 192 42 [w0, w1, w2, w3, .int x] (.int x :: st) t I L R Q := wp_go rfl
theorem i192_42 {x0 : Int32} {x1 : Int32} {x2 : Nat} {r0 : Int64} (h1 : x2 < t) (h2 : m_ob x2 8 = true) : WP V 192 42 ls [.int x0, .int x1, .ref x2, .long r0] t I L R Q = WPC V 182 [.ref x2, .int x1, .int x0] 192 43 ls [.long r0] t I L R Q := wp_cls (wp_icv rfl rfl h1 h2) (by decide) (Nat.le_of_ble_eq_true rfl) rfl rfl (Nat.le_of_ble_eq_true rfl) (Nat.le_of_ble_eq_true rfl)
theorem i192_43 {x : Int32} : WP V 192 43 ls (.int x :: st) t I L R Q = WP V 192 44 ls (.long x.toInt64 :: st) t I L R Q := wp_go rfl
theorem i192_44 {x y : Int64} : WP V 192 44 ls (.long y :: .long x :: st) t I L R Q = WP V 192 45 ls (.long (x + y) :: st) t I L R Q := wp_go rfl
theorem i192_45 {p : Nat} {w1 w2 w3 w4 : Value} {x : Int64} : WP V 192 45 [.ref p, w1, w2, w3, w4] (.long x :: st) t I L R Q = WP V 192 46 [.ref p, .long x, m_u, w3, w4] st t I L R Q := wp_go rfl
theorem i192_46 {p : Int32} {w0 w1 w2 : Value} {x : Int32} : WP V 192 46 [w0, w1, w2, .int p, .int x] st t I L R Q = WP V 192 47 [w0, w1, w2, .int p, .int (x + (nI 1))] st t I L R Q := wp_go rfl
theorem i192_47  : WP V 192 47 ls st t I L R Q = WP V 192 33 ls st t I L R Q := wp_go rfl
theorem i192_48 {w0 w1 w4 : Value} {x : Int32} : WP V 192 48 [w0, w1, m_u, .int x, w4] st t I L R Q = WP V 192 49 [w0, w1, m_u, .int (x + (nI 1)), w4] st t I L R Q := wp_go rfl
theorem i192_49  : WP V 192 49 ls st t I L R Q = WP V 192 28 ls st t I L R Q := wp_go rfl
theorem i192_50  : WP V 192 50 ls st t I L R Q = WP V 192 51 ls (.int (nI 0) :: st) t I L R Q := wp_go rfl
theorem i192_51 {w0 w1 w3 w4 : Value} {x : Int32} : WP V 192 51 [w0, w1, m_u, w3, w4] (.int x :: st) t I L R Q = WP V 192 52 [w0, w1, m_u, .int x, w4] st t I L R Q := wp_go rfl
theorem i192_52 {w0 w1 w2 w4 : Value} {x : Int32} : WP V 192 52 [w0, w1, w2, .int x, w4] st t I L R Q = WP V 192 53 [w0, w1, w2, .int x, w4] (.int x :: st) t I L R Q := wp_go rfl
theorem i192_53  : WP V 192 53 ls st t I L R Q = WP V 192 54 ls (.int (nI 8) :: st) t I L R Q := wp_go rfl
theorem i192_54 {x y : Int32} : WP V 192 54 ls (.int y :: .int x :: st) t I L R Q = if y ≤ x then WP V 192 66 ls st t I L R Q else WP V 192 55 ls st t I L R Q := wp_br (c := m_cc .ge x y) rfl rfl
theorem i192_55  : WP V 192 55 ls st t I L R Q = WP V 192 56 ls (.long (lN 31) :: st) t I L R Q := wp_go rfl
theorem i192_56 {w0 w2 w3 w4 : Value} {x : Int64} : WP V 192 56 [w0, .long x, w2, w3, w4] st t I L R Q = WP V 192 57 [w0, .long x, w2, w3, w4] (.long x :: st) t I L R Q := wp_go rfl
theorem i192_57 {x y : Int64} : WP V 192 57 ls (.long y :: .long x :: st) t I L R Q = WP V 192 58 ls (.long (x * y) :: st) t I L R Q := wp_go rfl
theorem i192_58 {w1 w2 w3 w4 : Value} {x : Nat} : WP V 192 58 [.ref x, w1, w2, w3, w4] st t I L R Q = WP V 192 59 [.ref x, w1, w2, w3, w4] (.ref x :: st) t I L R Q := wp_go rfl
theorem i192_59 {w0 w1 w2 w4 : Value} {x : Int32} : WP V 192 59 [w0, w1, w2, .int x, w4] st t I L R Q = WP V 192 60 [w0, w1, w2, .int x, w4] (.int x :: st) t I L R Q := wp_go rfl
theorem i192_60 {x0 : Int32} {x1 : Nat} {r0 : Int64} (h1 : x1 < t) (h2 : m_ob x1 8 = true) : WP V 192 60 ls [.int x0, .ref x1, .long r0] t I L R Q = WPC V 184 [.ref x1, .int x0] 192 61 ls [.long r0] t I L R Q := wp_cls (wp_icv rfl rfl h1 h2) (by decide) (Nat.le_of_ble_eq_true rfl) rfl rfl (Nat.le_of_ble_eq_true rfl) (Nat.le_of_ble_eq_true rfl)
theorem i192_61 {x : Int32} : WP V 192 61 ls (.int x :: st) t I L R Q = WP V 192 62 ls (.long x.toInt64 :: st) t I L R Q := wp_go rfl
theorem i192_62 {x y : Int64} : WP V 192 62 ls (.long y :: .long x :: st) t I L R Q = WP V 192 63 ls (.long (x + y) :: st) t I L R Q := wp_go rfl
theorem i192_63 {p : Nat} {w1 w2 w3 w4 : Value} {x : Int64} : WP V 192 63 [.ref p, w1, w2, w3, w4] (.long x :: st) t I L R Q = WP V 192 64 [.ref p, .long x, m_u, w3, w4] st t I L R Q := wp_go rfl
theorem i192_64 {w0 w1 w4 : Value} {x : Int32} : WP V 192 64 [w0, w1, m_u, .int x, w4] st t I L R Q = WP V 192 65 [w0, w1, m_u, .int (x + (nI 1)), w4] st t I L R Q := wp_go rfl
theorem i192_65  : WP V 192 65 ls st t I L R Q = WP V 192 52 ls st t I L R Q := wp_go rfl
theorem i192_66 {w0 w2 w3 w4 : Value} {x : Int64} : WP V 192 66 [w0, .long x, w2, w3, w4] st t I L R Q = WP V 192 67 [w0, .long x, w2, w3, w4] (.long x :: st) t I L R Q := wp_go rfl
theorem i192_67 {x : Int64} : WP V 192 67 ls [.long x] t I L R Q = Q (some (.long x)) t I L R := wp_rtl rfl rfl
-- java/lang/Math.min(II)I
theorem i193_0 {w1 : Value} {x : Int32} : WP V 193 0 [.int x, w1] st t I L R Q = WP V 193 1 [.int x, w1] (.int x :: st) t I L R Q := wp_go rfl
theorem i193_1 {w0 : Value} {x : Int32} : WP V 193 1 [w0, .int x] st t I L R Q = WP V 193 2 [w0, .int x] (.int x :: st) t I L R Q := wp_go rfl
theorem i193_2 {x y : Int32} : WP V 193 2 ls (.int y :: .int x :: st) t I L R Q = if y < x then WP V 193 5 ls st t I L R Q else WP V 193 3 ls st t I L R Q := wp_br (c := m_cc .gt x y) rfl rfl
theorem i193_3 {w1 : Value} {x : Int32} : WP V 193 3 [.int x, w1] st t I L R Q = WP V 193 4 [.int x, w1] (.int x :: st) t I L R Q := wp_go rfl
theorem i193_4  : WP V 193 4 ls st t I L R Q = WP V 193 6 ls st t I L R Q := wp_go rfl
theorem i193_5 {w0 : Value} {x : Int32} : WP V 193 5 [w0, .int x] st t I L R Q = WP V 193 6 [w0, .int x] (.int x :: st) t I L R Q := wp_go rfl
theorem i193_6 {x : Int32} : WP V 193 6 ls [.int x] t I L R Q = Q (some (.int x)) t I L R := wp_rti rfl rfl
-- java/util/Arrays.rangeCheck(III)V
theorem i194_0 {w0 w2 : Value} {x : Int32} : WP V 194 0 [w0, .int x, w2] st t I L R Q = WP V 194 1 [w0, .int x, w2] (.int x :: st) t I L R Q := wp_go rfl
theorem i194_1 {w0 w1 : Value} {x : Int32} : WP V 194 1 [w0, w1, .int x] st t I L R Q = WP V 194 2 [w0, w1, .int x] (.int x :: st) t I L R Q := wp_go rfl
theorem i194_2 {x y : Int32} : WP V 194 2 ls (.int y :: .int x :: st) t I L R Q = if x ≤ y then WP V 194 21 ls st t I L R Q else WP V 194 3 ls st t I L R Q := wp_br (c := m_cc .le x y) rfl rfl
theorem i194_3 (h : m_ob t 99 = true) : WP V 194 3 ls st t I L R Q = WP V 194 4 ls (.ref t :: st) (t + 1) (m_sc I t (fun _ => 0)) L (m_sc R t (fun _ => none)) Q := wp_new rfl h
theorem i194_21 {w0 w2 : Value} {x : Int32} : WP V 194 21 [w0, .int x, w2] st t I L R Q = WP V 194 22 [w0, .int x, w2] (.int x :: st) t I L R Q := wp_go rfl
theorem i194_22 {x : Int32} : WP V 194 22 ls (.int x :: st) t I L R Q = if nI 0 ≤ x then WP V 194 28 ls st t I L R Q else WP V 194 23 ls st t I L R Q := wp_br (c := m_cc .ge x 0) rfl rfl
theorem i194_23 (h : m_ob t 99 = true) : WP V 194 23 ls st t I L R Q = WP V 194 24 ls (.ref t :: st) (t + 1) (m_sc I t (fun _ => 0)) L (m_sc R t (fun _ => none)) Q := wp_new rfl h
theorem i194_28 {w0 w1 : Value} {x : Int32} : WP V 194 28 [w0, w1, .int x] st t I L R Q = WP V 194 29 [w0, w1, .int x] (.int x :: st) t I L R Q := wp_go rfl
theorem i194_29 {w1 w2 : Value} {x : Int32} : WP V 194 29 [.int x, w1, w2] st t I L R Q = WP V 194 30 [.int x, w1, w2] (.int x :: st) t I L R Q := wp_go rfl
theorem i194_30 {x y : Int32} : WP V 194 30 ls (.int y :: .int x :: st) t I L R Q = if x ≤ y then WP V 194 36 ls st t I L R Q else WP V 194 31 ls st t I L R Q := wp_br (c := m_cc .le x y) rfl rfl
theorem i194_31 (h : m_ob t 99 = true) : WP V 194 31 ls st t I L R Q = WP V 194 32 ls (.ref t :: st) (t + 1) (m_sc I t (fun _ => 0)) L (m_sc R t (fun _ => none)) Q := wp_new rfl h
theorem i194_36  : WP V 194 36 ls [] t I L R Q = Q none t I L R := wp_rtv rfl rfl
-- java/util/Arrays.fill([JIIJ)V
theorem i195_0 {w1 w2 w3 w4 w5 : Value} {x : Nat} : WP V 195 0 [.ref x, w1, w2, w3, w4, w5] st t I L R Q = WP V 195 1 [.ref x, w1, w2, w3, w4, w5] (.ref x :: st) t I L R Q := wp_go rfl
theorem i195_1 {k ty N : Nat} (h2 : m_ar k ty N = true) (h1 : k < t) (h3 : 2 ≤ ty) : WP V 195 1 ls (.ref k :: st) t I L R Q = WP V 195 2 ls (.int (nI N) :: st) t I L R Q := wp_alen rfl h1 h2 h3
theorem i195_2 {w0 w2 w3 w4 w5 : Value} {x : Int32} : WP V 195 2 [w0, .int x, w2, w3, w4, w5] st t I L R Q = WP V 195 3 [w0, .int x, w2, w3, w4, w5] (.int x :: st) t I L R Q := wp_go rfl
theorem i195_3 {w0 w1 w3 w4 w5 : Value} {x : Int32} : WP V 195 3 [w0, w1, .int x, w3, w4, w5] st t I L R Q = WP V 195 4 [w0, w1, .int x, w3, w4, w5] (.int x :: st) t I L R Q := wp_go rfl
theorem i195_4 {x0 : Int32} {x1 : Int32} {x2 : Int32}  : WP V 195 4 ls [.int x0, .int x1, .int x2] t I L R Q = WPC V 194 [.int x2, .int x1, .int x0] 195 5 ls [] t I L R Q := wp_cls (wp_ics rfl (by decide)) (by decide) (Nat.le_of_ble_eq_true rfl) rfl rfl (Nat.le_of_ble_eq_true rfl) (Nat.le_of_ble_eq_true rfl)
theorem i195_5 {w0 w2 w3 w4 w5 : Value} {x : Int32} : WP V 195 5 [w0, .int x, w2, w3, w4, w5] st t I L R Q = WP V 195 6 [w0, .int x, w2, w3, w4, w5] (.int x :: st) t I L R Q := wp_go rfl
theorem i195_6 {w0 w1 w2 w3 w5 : Value} {x : Int32} : WP V 195 6 [w0, w1, w2, w3, m_u, w5] (.int x :: st) t I L R Q = WP V 195 7 [w0, w1, w2, w3, m_u, .int x] st t I L R Q := wp_go rfl
theorem i195_7 {w0 w1 w2 w3 w4 : Value} {x : Int32} : WP V 195 7 [w0, w1, w2, w3, w4, .int x] st t I L R Q = WP V 195 8 [w0, w1, w2, w3, w4, .int x] (.int x :: st) t I L R Q := wp_go rfl
theorem i195_8 {w0 w1 w3 w4 w5 : Value} {x : Int32} : WP V 195 8 [w0, w1, .int x, w3, w4, w5] st t I L R Q = WP V 195 9 [w0, w1, .int x, w3, w4, w5] (.int x :: st) t I L R Q := wp_go rfl
theorem i195_9 {x y : Int32} : WP V 195 9 ls (.int y :: .int x :: st) t I L R Q = if y ≤ x then WP V 195 16 ls st t I L R Q else WP V 195 10 ls st t I L R Q := wp_br (c := m_cc .ge x y) rfl rfl
theorem i195_10 {w1 w2 w3 w4 w5 : Value} {x : Nat} : WP V 195 10 [.ref x, w1, w2, w3, w4, w5] st t I L R Q = WP V 195 11 [.ref x, w1, w2, w3, w4, w5] (.ref x :: st) t I L R Q := wp_go rfl
theorem i195_11 {w0 w1 w2 w3 w4 : Value} {x : Int32} : WP V 195 11 [w0, w1, w2, w3, w4, .int x] st t I L R Q = WP V 195 12 [w0, w1, w2, w3, w4, .int x] (.int x :: st) t I L R Q := wp_go rfl
theorem i195_12 {w0 w1 w2 w4 w5 : Value} {x : Int64} : WP V 195 12 [w0, w1, w2, .long x, w4, w5] st t I L R Q = WP V 195 13 [w0, w1, w2, .long x, w4, w5] (.long x :: st) t I L R Q := wp_go rfl
theorem i195_13 {k j : Nat} {N : Nat} {x : Int64} (h2 : m_ar k 4 N = true) (hN : N < 2 ^ 31) (h1 : k < t) (h3 : j < N) : WP V 195 13 ls (.long x :: .int (nI j) :: .ref k :: st) t I L R Q = WP V 195 14 ls st t I (m_sc L k (m_sc (L k) j x)) R Q := wp_lastore rfl hN h1 h2 h3
theorem i195_14 {w0 w1 w2 w3 : Value} {x : Int32} : WP V 195 14 [w0, w1, w2, w3, m_u, .int x] st t I L R Q = WP V 195 15 [w0, w1, w2, w3, m_u, .int (x + (nI 1))] st t I L R Q := wp_go rfl
theorem i195_15  : WP V 195 15 ls st t I L R Q = WP V 195 7 ls st t I L R Q := wp_go rfl
theorem i195_16  : WP V 195 16 ls [] t I L R Q = Q none t I L R := wp_rtv rfl rfl
-- java/util/Arrays.fill([II)V
theorem i196_0  : WP V 196 0 ls st t I L R Q = WP V 196 1 ls (.int (nI 0) :: st) t I L R Q := wp_go rfl
theorem i196_1 {p : Int32} {w0 w2 w3 : Value} {x : Int32} : WP V 196 1 [w0, .int p, w2, w3] (.int x :: st) t I L R Q = WP V 196 2 [w0, .int p, .int x, w3] st t I L R Q := wp_go rfl
theorem i196_2 {w1 w2 w3 : Value} {x : Nat} : WP V 196 2 [.ref x, w1, w2, w3] st t I L R Q = WP V 196 3 [.ref x, w1, w2, w3] (.ref x :: st) t I L R Q := wp_go rfl
theorem i196_3 {k ty N : Nat} (h2 : m_ar k ty N = true) (h1 : k < t) (h3 : 2 ≤ ty) : WP V 196 3 ls (.ref k :: st) t I L R Q = WP V 196 4 ls (.int (nI N) :: st) t I L R Q := wp_alen rfl h1 h2 h3
theorem i196_4 {p : Int32} {w0 w1 w3 : Value} {x : Int32} : WP V 196 4 [w0, w1, .int p, w3] (.int x :: st) t I L R Q = WP V 196 5 [w0, w1, .int p, .int x] st t I L R Q := wp_go rfl
theorem i196_5 {w0 w1 w3 : Value} {x : Int32} : WP V 196 5 [w0, w1, .int x, w3] st t I L R Q = WP V 196 6 [w0, w1, .int x, w3] (.int x :: st) t I L R Q := wp_go rfl
theorem i196_6 {w0 w1 w2 : Value} {x : Int32} : WP V 196 6 [w0, w1, w2, .int x] st t I L R Q = WP V 196 7 [w0, w1, w2, .int x] (.int x :: st) t I L R Q := wp_go rfl
theorem i196_7 {x y : Int32} : WP V 196 7 ls (.int y :: .int x :: st) t I L R Q = if y ≤ x then WP V 196 14 ls st t I L R Q else WP V 196 8 ls st t I L R Q := wp_br (c := m_cc .ge x y) rfl rfl
theorem i196_8 {w1 w2 w3 : Value} {x : Nat} : WP V 196 8 [.ref x, w1, w2, w3] st t I L R Q = WP V 196 9 [.ref x, w1, w2, w3] (.ref x :: st) t I L R Q := wp_go rfl
theorem i196_9 {w0 w1 w3 : Value} {x : Int32} : WP V 196 9 [w0, w1, .int x, w3] st t I L R Q = WP V 196 10 [w0, w1, .int x, w3] (.int x :: st) t I L R Q := wp_go rfl
theorem i196_10 {w0 w2 w3 : Value} {x : Int32} : WP V 196 10 [w0, .int x, w2, w3] st t I L R Q = WP V 196 11 [w0, .int x, w2, w3] (.int x :: st) t I L R Q := wp_go rfl
theorem i196_11 {k j : Nat} {N : Nat} {x : Int32} (h2 : m_ar k 2 N = true) (hN : N < 2 ^ 31) (h1 : k < t) (h3 : j < N) : WP V 196 11 ls (.int x :: .int (nI j) :: .ref k :: st) t I L R Q = WP V 196 12 ls st t (m_sc I k (m_sc (I k) j x)) L R Q := wp_iastore rfl hN h1 h2 h3
theorem i196_12 {p : Int32} {w0 w3 : Value} {x : Int32} : WP V 196 12 [w0, .int p, .int x, w3] st t I L R Q = WP V 196 13 [w0, .int p, .int (x + (nI 1)), w3] st t I L R Q := wp_go rfl
theorem i196_13  : WP V 196 13 ls st t I L R Q = WP V 196 5 ls st t I L R Q := wp_go rfl
theorem i196_14  : WP V 196 14 ls [] t I L R Q = Q none t I L R := wp_rtv rfl rfl
-- java/util/Arrays.fill([IIII)V
theorem i197_0 {w1 w2 w3 w4 : Value} {x : Nat} : WP V 197 0 [.ref x, w1, w2, w3, w4] st t I L R Q = WP V 197 1 [.ref x, w1, w2, w3, w4] (.ref x :: st) t I L R Q := wp_go rfl
theorem i197_1 {k ty N : Nat} (h2 : m_ar k ty N = true) (h1 : k < t) (h3 : 2 ≤ ty) : WP V 197 1 ls (.ref k :: st) t I L R Q = WP V 197 2 ls (.int (nI N) :: st) t I L R Q := wp_alen rfl h1 h2 h3
theorem i197_2 {w0 w2 w3 w4 : Value} {x : Int32} : WP V 197 2 [w0, .int x, w2, w3, w4] st t I L R Q = WP V 197 3 [w0, .int x, w2, w3, w4] (.int x :: st) t I L R Q := wp_go rfl
theorem i197_3 {w0 w1 w3 w4 : Value} {x : Int32} : WP V 197 3 [w0, w1, .int x, w3, w4] st t I L R Q = WP V 197 4 [w0, w1, .int x, w3, w4] (.int x :: st) t I L R Q := wp_go rfl
theorem i197_4 {x0 : Int32} {x1 : Int32} {x2 : Int32}  : WP V 197 4 ls [.int x0, .int x1, .int x2] t I L R Q = WPC V 194 [.int x2, .int x1, .int x0] 197 5 ls [] t I L R Q := wp_cls (wp_ics rfl (by decide)) (by decide) (Nat.le_of_ble_eq_true rfl) rfl rfl (Nat.le_of_ble_eq_true rfl) (Nat.le_of_ble_eq_true rfl)
theorem i197_5 {w0 w2 w3 w4 : Value} {x : Int32} : WP V 197 5 [w0, .int x, w2, w3, w4] st t I L R Q = WP V 197 6 [w0, .int x, w2, w3, w4] (.int x :: st) t I L R Q := wp_go rfl
theorem i197_6 {p : Int32} {w0 w1 w2 w4 : Value} {x : Int32} : WP V 197 6 [w0, w1, w2, .int p, w4] (.int x :: st) t I L R Q = WP V 197 7 [w0, w1, w2, .int p, .int x] st t I L R Q := wp_go rfl
theorem i197_7 {w0 w1 w2 w3 : Value} {x : Int32} : WP V 197 7 [w0, w1, w2, w3, .int x] st t I L R Q = WP V 197 8 [w0, w1, w2, w3, .int x] (.int x :: st) t I L R Q := wp_go rfl
theorem i197_8 {w0 w1 w3 w4 : Value} {x : Int32} : WP V 197 8 [w0, w1, .int x, w3, w4] st t I L R Q = WP V 197 9 [w0, w1, .int x, w3, w4] (.int x :: st) t I L R Q := wp_go rfl
theorem i197_9 {x y : Int32} : WP V 197 9 ls (.int y :: .int x :: st) t I L R Q = if y ≤ x then WP V 197 16 ls st t I L R Q else WP V 197 10 ls st t I L R Q := wp_br (c := m_cc .ge x y) rfl rfl
theorem i197_10 {w1 w2 w3 w4 : Value} {x : Nat} : WP V 197 10 [.ref x, w1, w2, w3, w4] st t I L R Q = WP V 197 11 [.ref x, w1, w2, w3, w4] (.ref x :: st) t I L R Q := wp_go rfl
theorem i197_11 {w0 w1 w2 w3 : Value} {x : Int32} : WP V 197 11 [w0, w1, w2, w3, .int x] st t I L R Q = WP V 197 12 [w0, w1, w2, w3, .int x] (.int x :: st) t I L R Q := wp_go rfl
theorem i197_12 {w0 w1 w2 w4 : Value} {x : Int32} : WP V 197 12 [w0, w1, w2, .int x, w4] st t I L R Q = WP V 197 13 [w0, w1, w2, .int x, w4] (.int x :: st) t I L R Q := wp_go rfl
theorem i197_13 {k j : Nat} {N : Nat} {x : Int32} (h2 : m_ar k 2 N = true) (hN : N < 2 ^ 31) (h1 : k < t) (h3 : j < N) : WP V 197 13 ls (.int x :: .int (nI j) :: .ref k :: st) t I L R Q = WP V 197 14 ls st t (m_sc I k (m_sc (I k) j x)) L R Q := wp_iastore rfl hN h1 h2 h3
theorem i197_14 {p : Int32} {w0 w1 w2 : Value} {x : Int32} : WP V 197 14 [w0, w1, w2, .int p, .int x] st t I L R Q = WP V 197 15 [w0, w1, w2, .int p, .int (x + (nI 1))] st t I L R Q := wp_go rfl
theorem i197_15  : WP V 197 15 ls st t I L R Q = WP V 197 7 ls st t I L R Q := wp_go rfl
theorem i197_16  : WP V 197 16 ls [] t I L R Q = Q none t I L R := wp_rtv rfl rfl
-- TransactionCellsLaw.law([I)Z
theorem i198_0 (h : m_ob t 7 = true) : WP V 198 0 ls st t I L R Q = WP V 198 1 ls (.ref t :: st) (t + 1) (m_sc I t (fun _ => 0)) L (m_sc R t (fun _ => none)) Q := wp_new rfl h
theorem i198_1 {v0 : Nat} : WP V 198 1 ls (.ref v0 :: st) t I L R Q = WP V 198 2 ls (.ref v0 :: .ref v0 :: st) t I L R Q := wp_go rfl
theorem i198_2 {x0 : Nat} {r0 : Nat} (h1 : x0 < t) : WP V 198 2 ls [.ref x0, .ref r0] t I L R Q = WPC V 85 [.ref x0] 198 3 ls [.ref r0] t I L R Q := wp_cls (wp_icp rfl (by decide) rfl h1) (by decide) (Nat.le_of_ble_eq_true rfl) rfl rfl (Nat.le_of_ble_eq_true rfl) (Nat.le_of_ble_eq_true rfl)
theorem i198_3 {p : Nat} {w1 w2 w3 : Value} {x : Nat} : WP V 198 3 [.ref p, w1, w2, w3] (.ref x :: st) t I L R Q = WP V 198 4 [.ref p, .ref x, w2, w3] st t I L R Q := wp_go rfl
theorem i198_4 (h : m_ob t 8 = true) : WP V 198 4 ls st t I L R Q = WP V 198 5 ls (.ref t :: st) (t + 1) (m_sc I t (fun _ => 0)) L (m_sc R t (fun _ => none)) Q := wp_new rfl h
theorem i198_5 {v0 : Nat} : WP V 198 5 ls (.ref v0 :: st) t I L R Q = WP V 198 6 ls (.ref v0 :: .ref v0 :: st) t I L R Q := wp_go rfl
theorem i198_6 {x0 : Nat} {r0 : Nat} (h1 : x0 < t) : WP V 198 6 ls [.ref x0, .ref r0] t I L R Q = WPC V 110 [.ref x0] 198 7 ls [.ref r0] t I L R Q := wp_cls (wp_icp rfl (by decide) rfl h1) (by decide) (Nat.le_of_ble_eq_true rfl) rfl rfl (Nat.le_of_ble_eq_true rfl) (Nat.le_of_ble_eq_true rfl)
theorem i198_7 {p : Nat} {w0 w2 w3 : Value} {x : Nat} : WP V 198 7 [w0, .ref p, w2, w3] (.ref x :: st) t I L R Q = WP V 198 8 [w0, .ref p, .ref x, w3] st t I L R Q := wp_go rfl
theorem i198_8  : WP V 198 8 ls st t I L R Q = WP V 198 9 ls (.int (nI 0) :: st) t I L R Q := wp_go rfl
theorem i198_9 {p : Nat} {w0 w1 w3 : Value} {x : Int32} : WP V 198 9 [w0, w1, .ref p, w3] (.int x :: st) t I L R Q = WP V 198 10 [w0, w1, .ref p, .int x] st t I L R Q := wp_go rfl
theorem i198_10 {w0 w1 w2 : Value} {x : Int32} : WP V 198 10 [w0, w1, w2, .int x] st t I L R Q = WP V 198 11 [w0, w1, w2, .int x] (.int x :: st) t I L R Q := wp_go rfl
theorem i198_11 {w1 w2 w3 : Value} {x : Nat} : WP V 198 11 [.ref x, w1, w2, w3] st t I L R Q = WP V 198 12 [.ref x, w1, w2, w3] (.ref x :: st) t I L R Q := wp_go rfl
theorem i198_12  : WP V 198 12 ls (.ref 1003 :: st) t I L R Q = WP V 198 13 ls (.int (nI V.1) :: st) t I L R Q := wp_slen rfl
theorem i198_13  : WP V 198 13 ls st t I L R Q = WP V 198 14 ls (.int (nI 6) :: st) t I L R Q := wp_go rfl
theorem i198_14 {x y : Int32} : WP V 198 14 ls (.int y :: .int x :: st) t I L R Q = WP V 198 15 ls (.int (x - y) :: st) t I L R Q := wp_go rfl
theorem i198_15 {x y : Int32} : WP V 198 15 ls (.int y :: .int x :: st) t I L R Q = if y < x then WP V 198 560 ls st t I L R Q else WP V 198 16 ls st t I L R Q := wp_br (c := m_cc .gt x y) rfl rfl
theorem i198_16 {w1 w2 w3 : Value} {x : Nat} : WP V 198 16 [.ref x, w1, w2, w3] st t I L R Q = WP V 198 17 [.ref x, w1, w2, w3] (.ref x :: st) t I L R Q := wp_go rfl
theorem i198_17 {w0 w1 w2 : Value} {x : Int32} : WP V 198 17 [w0, w1, w2, .int x] st t I L R Q = WP V 198 18 [w0, w1, w2, .int x] (.int x :: st) t I L R Q := wp_go rfl
theorem i198_18 {j : Nat} (hL : V.1 < 2 ^ 31) (h3 : j < V.1) : WP V 198 18 ls (.int (nI j) :: .ref 1003 :: st) t I L R Q = WP V 198 19 ls (.int (V.2 1003 j) :: st) t I L R Q := wp_sload rfl (by decide) rfl h3 hL
theorem i198_19  : WP V 198 19 ls st t I L R Q = WP V 198 20 ls (.int (nI 31) :: st) t I L R Q := wp_go rfl
theorem i198_20 {x y : Int32} : WP V 198 20 ls (.int y :: .int x :: st) t I L R Q = WP V 198 21 ls (.int (x &&& y) :: st) t I L R Q := wp_go rfl
theorem i198_21s0  : WP V 198 21 ls (.int (nI 0) :: st) t I L R Q = WP V 198 22 ls st t I L R Q := wp_sw rfl (by decide) (by decide) (by decide) rfl
theorem i198_21s1  : WP V 198 21 ls (.int (nI 1) :: st) t I L R Q = WP V 198 79 ls st t I L R Q := wp_sw rfl (by decide) (by decide) (by decide) rfl
theorem i198_21s2  : WP V 198 21 ls (.int (nI 2) :: st) t I L R Q = WP V 198 86 ls st t I L R Q := wp_sw rfl (by decide) (by decide) (by decide) rfl
theorem i198_21s3  : WP V 198 21 ls (.int (nI 3) :: st) t I L R Q = WP V 198 123 ls st t I L R Q := wp_sw rfl (by decide) (by decide) (by decide) rfl
theorem i198_21s4  : WP V 198 21 ls (.int (nI 4) :: st) t I L R Q = WP V 198 184 ls st t I L R Q := wp_sw rfl (by decide) (by decide) (by decide) rfl
theorem i198_21s5  : WP V 198 21 ls (.int (nI 5) :: st) t I L R Q = WP V 198 201 ls st t I L R Q := wp_sw rfl (by decide) (by decide) (by decide) rfl
theorem i198_21s6  : WP V 198 21 ls (.int (nI 6) :: st) t I L R Q = WP V 198 238 ls st t I L R Q := wp_sw rfl (by decide) (by decide) (by decide) rfl
theorem i198_21s7  : WP V 198 21 ls (.int (nI 7) :: st) t I L R Q = WP V 198 255 ls st t I L R Q := wp_sw rfl (by decide) (by decide) (by decide) rfl
theorem i198_21s8  : WP V 198 21 ls (.int (nI 8) :: st) t I L R Q = WP V 198 282 ls st t I L R Q := wp_sw rfl (by decide) (by decide) (by decide) rfl
theorem i198_21s9  : WP V 198 21 ls (.int (nI 9) :: st) t I L R Q = WP V 198 299 ls st t I L R Q := wp_sw rfl (by decide) (by decide) (by decide) rfl
theorem i198_21s10  : WP V 198 21 ls (.int (nI 10) :: st) t I L R Q = WP V 198 306 ls st t I L R Q := wp_sw rfl (by decide) (by decide) (by decide) rfl
theorem i198_21s11  : WP V 198 21 ls (.int (nI 11) :: st) t I L R Q = WP V 198 323 ls st t I L R Q := wp_sw rfl (by decide) (by decide) (by decide) rfl
theorem i198_21s12  : WP V 198 21 ls (.int (nI 12) :: st) t I L R Q = WP V 198 350 ls st t I L R Q := wp_sw rfl (by decide) (by decide) (by decide) rfl
theorem i198_21s13  : WP V 198 21 ls (.int (nI 13) :: st) t I L R Q = WP V 198 367 ls st t I L R Q := wp_sw rfl (by decide) (by decide) (by decide) rfl
theorem i198_21s14  : WP V 198 21 ls (.int (nI 14) :: st) t I L R Q = WP V 198 394 ls st t I L R Q := wp_sw rfl (by decide) (by decide) (by decide) rfl
theorem i198_21s15  : WP V 198 21 ls (.int (nI 15) :: st) t I L R Q = WP V 198 421 ls st t I L R Q := wp_sw rfl (by decide) (by decide) (by decide) rfl
theorem i198_21s16  : WP V 198 21 ls (.int (nI 16) :: st) t I L R Q = WP V 198 448 ls st t I L R Q := wp_sw rfl (by decide) (by decide) (by decide) rfl
theorem i198_21s17  : WP V 198 21 ls (.int (nI 17) :: st) t I L R Q = WP V 198 465 ls st t I L R Q := wp_sw rfl (by decide) (by decide) (by decide) rfl
theorem i198_21s18  : WP V 198 21 ls (.int (nI 18) :: st) t I L R Q = WP V 198 492 ls st t I L R Q := wp_sw rfl (by decide) (by decide) (by decide) rfl
theorem i198_21s19  : WP V 198 21 ls (.int (nI 19) :: st) t I L R Q = WP V 198 529 ls st t I L R Q := wp_sw rfl (by decide) (by decide) (by decide) rfl
theorem i198_21s20  : WP V 198 21 ls (.int (nI 20) :: st) t I L R Q = WP V 198 536 ls st t I L R Q := wp_sw rfl (by decide) (by decide) (by decide) rfl
theorem i198_21s21  : WP V 198 21 ls (.int (nI 21) :: st) t I L R Q = WP V 198 543 ls st t I L R Q := wp_sw rfl (by decide) (by decide) (by decide) rfl
theorem i198_21s22  : WP V 198 21 ls (.int (nI 22) :: st) t I L R Q = WP V 198 550 ls st t I L R Q := wp_sw rfl (by decide) (by decide) (by decide) rfl
theorem i198_21sd {x : Int32} (h : x.toInt < 0 ∨ 22 < x.toInt) : WP V 198 21 ls (.int x :: st) t I L R Q = WP V 198 558 ls st t I L R Q := wp_swd rfl h
theorem i198_22 {w0 w2 w3 : Value} {x : Nat} : WP V 198 22 [w0, .ref x, w2, w3] st t I L R Q = WP V 198 23 [w0, .ref x, w2, w3] (.ref x :: st) t I L R Q := wp_go rfl
theorem i198_23 {w1 w2 w3 : Value} {x : Nat} : WP V 198 23 [.ref x, w1, w2, w3] st t I L R Q = WP V 198 24 [.ref x, w1, w2, w3] (.ref x :: st) t I L R Q := wp_go rfl
theorem i198_24 {w0 w1 w2 : Value} {x : Int32} : WP V 198 24 [w0, w1, w2, .int x] st t I L R Q = WP V 198 25 [w0, w1, w2, .int x] (.int x :: st) t I L R Q := wp_go rfl
theorem i198_25  : WP V 198 25 ls st t I L R Q = WP V 198 26 ls (.int (nI 1) :: st) t I L R Q := wp_go rfl
theorem i198_26 {x y : Int32} : WP V 198 26 ls (.int y :: .int x :: st) t I L R Q = WP V 198 27 ls (.int (x + y) :: st) t I L R Q := wp_go rfl
theorem i198_27 {j : Nat} (hL : V.1 < 2 ^ 31) (h3 : j < V.1) : WP V 198 27 ls (.int (nI j) :: .ref 1003 :: st) t I L R Q = WP V 198 28 ls (.int (V.2 1003 j) :: st) t I L R Q := wp_sload rfl (by decide) rfl h3 hL
theorem i198_28 {w1 w2 w3 : Value} {x : Nat} : WP V 198 28 [.ref x, w1, w2, w3] st t I L R Q = WP V 198 29 [.ref x, w1, w2, w3] (.ref x :: st) t I L R Q := wp_go rfl
theorem i198_29 {w0 w1 w2 : Value} {x : Int32} : WP V 198 29 [w0, w1, w2, .int x] st t I L R Q = WP V 198 30 [w0, w1, w2, .int x] (.int x :: st) t I L R Q := wp_go rfl
theorem i198_30  : WP V 198 30 ls st t I L R Q = WP V 198 31 ls (.int (nI 2) :: st) t I L R Q := wp_go rfl
theorem i198_31 {x y : Int32} : WP V 198 31 ls (.int y :: .int x :: st) t I L R Q = WP V 198 32 ls (.int (x + y) :: st) t I L R Q := wp_go rfl
theorem i198_32 {j : Nat} (hL : V.1 < 2 ^ 31) (h3 : j < V.1) : WP V 198 32 ls (.int (nI j) :: .ref 1003 :: st) t I L R Q = WP V 198 33 ls (.int (V.2 1003 j) :: st) t I L R Q := wp_sload rfl (by decide) rfl h3 hL
theorem i198_33 {w1 w2 w3 : Value} {x : Nat} : WP V 198 33 [.ref x, w1, w2, w3] st t I L R Q = WP V 198 34 [.ref x, w1, w2, w3] (.ref x :: st) t I L R Q := wp_go rfl
theorem i198_34 {w0 w1 w2 : Value} {x : Int32} : WP V 198 34 [w0, w1, w2, .int x] st t I L R Q = WP V 198 35 [w0, w1, w2, .int x] (.int x :: st) t I L R Q := wp_go rfl
theorem i198_35  : WP V 198 35 ls st t I L R Q = WP V 198 36 ls (.int (nI 3) :: st) t I L R Q := wp_go rfl
theorem i198_36 {x y : Int32} : WP V 198 36 ls (.int y :: .int x :: st) t I L R Q = WP V 198 37 ls (.int (x + y) :: st) t I L R Q := wp_go rfl
theorem i198_37 {j : Nat} (hL : V.1 < 2 ^ 31) (h3 : j < V.1) : WP V 198 37 ls (.int (nI j) :: .ref 1003 :: st) t I L R Q = WP V 198 38 ls (.int (V.2 1003 j) :: st) t I L R Q := wp_sload rfl (by decide) rfl h3 hL
theorem i198_38 {w1 w2 w3 : Value} {x : Nat} : WP V 198 38 [.ref x, w1, w2, w3] st t I L R Q = WP V 198 39 [.ref x, w1, w2, w3] (.ref x :: st) t I L R Q := wp_go rfl
theorem i198_39 {w0 w1 w2 : Value} {x : Int32} : WP V 198 39 [w0, w1, w2, .int x] st t I L R Q = WP V 198 40 [w0, w1, w2, .int x] (.int x :: st) t I L R Q := wp_go rfl
theorem i198_40  : WP V 198 40 ls st t I L R Q = WP V 198 41 ls (.int (nI 4) :: st) t I L R Q := wp_go rfl
theorem i198_41 {x y : Int32} : WP V 198 41 ls (.int y :: .int x :: st) t I L R Q = WP V 198 42 ls (.int (x + y) :: st) t I L R Q := wp_go rfl
theorem i198_42 {j : Nat} (hL : V.1 < 2 ^ 31) (h3 : j < V.1) : WP V 198 42 ls (.int (nI j) :: .ref 1003 :: st) t I L R Q = WP V 198 43 ls (.int (V.2 1003 j) :: st) t I L R Q := wp_sload rfl (by decide) rfl h3 hL
theorem i198_43 {w1 w2 w3 : Value} {x : Nat} : WP V 198 43 [.ref x, w1, w2, w3] st t I L R Q = WP V 198 44 [.ref x, w1, w2, w3] (.ref x :: st) t I L R Q := wp_go rfl
theorem i198_44 {w0 w1 w2 : Value} {x : Int32} : WP V 198 44 [w0, w1, w2, .int x] st t I L R Q = WP V 198 45 [w0, w1, w2, .int x] (.int x :: st) t I L R Q := wp_go rfl
theorem i198_45  : WP V 198 45 ls st t I L R Q = WP V 198 46 ls (.int (nI 5) :: st) t I L R Q := wp_go rfl
theorem i198_46 {x y : Int32} : WP V 198 46 ls (.int y :: .int x :: st) t I L R Q = WP V 198 47 ls (.int (x + y) :: st) t I L R Q := wp_go rfl
theorem i198_47 {j : Nat} (hL : V.1 < 2 ^ 31) (h3 : j < V.1) : WP V 198 47 ls (.int (nI j) :: .ref 1003 :: st) t I L R Q = WP V 198 48 ls (.int (V.2 1003 j) :: st) t I L R Q := wp_sload rfl (by decide) rfl h3 hL
theorem i198_48 {x0 : Int32} {x1 : Int32} {x2 : Int32} {x3 : Int32} {x4 : Int32} {x5 : Nat}  (h1 : x5 < t) (h2 : m_ob x5 7 = true) : WP V 198 48 ls [.int x0, .int x1, .int x2, .int x3, .int x4, .ref x5] t I L R Q = WPC V 86 [.ref x5, .int x4, .int x3, .int x2, .int x1, .int x0] 198 49 ls [] t I L R Q := wp_cls (wp_icv rfl rfl h1 h2) (by decide) (Nat.le_of_ble_eq_true rfl) rfl rfl (Nat.le_of_ble_eq_true rfl) (Nat.le_of_ble_eq_true rfl)
theorem i198_49 {w0 w1 w3 : Value} {x : Nat} : WP V 198 49 [w0, w1, .ref x, w3] st t I L R Q = WP V 198 50 [w0, w1, .ref x, w3] (.ref x :: st) t I L R Q := wp_go rfl
theorem i198_50 {w1 w2 w3 : Value} {x : Nat} : WP V 198 50 [.ref x, w1, w2, w3] st t I L R Q = WP V 198 51 [.ref x, w1, w2, w3] (.ref x :: st) t I L R Q := wp_go rfl
theorem i198_51 {w0 w1 w2 : Value} {x : Int32} : WP V 198 51 [w0, w1, w2, .int x] st t I L R Q = WP V 198 52 [w0, w1, w2, .int x] (.int x :: st) t I L R Q := wp_go rfl
theorem i198_52  : WP V 198 52 ls st t I L R Q = WP V 198 53 ls (.int (nI 1) :: st) t I L R Q := wp_go rfl
theorem i198_53 {x y : Int32} : WP V 198 53 ls (.int y :: .int x :: st) t I L R Q = WP V 198 54 ls (.int (x + y) :: st) t I L R Q := wp_go rfl
theorem i198_54 {j : Nat} (hL : V.1 < 2 ^ 31) (h3 : j < V.1) : WP V 198 54 ls (.int (nI j) :: .ref 1003 :: st) t I L R Q = WP V 198 55 ls (.int (V.2 1003 j) :: st) t I L R Q := wp_sload rfl (by decide) rfl h3 hL
theorem i198_55 {w1 w2 w3 : Value} {x : Nat} : WP V 198 55 [.ref x, w1, w2, w3] st t I L R Q = WP V 198 56 [.ref x, w1, w2, w3] (.ref x :: st) t I L R Q := wp_go rfl
theorem i198_56 {w0 w1 w2 : Value} {x : Int32} : WP V 198 56 [w0, w1, w2, .int x] st t I L R Q = WP V 198 57 [w0, w1, w2, .int x] (.int x :: st) t I L R Q := wp_go rfl
theorem i198_57  : WP V 198 57 ls st t I L R Q = WP V 198 58 ls (.int (nI 2) :: st) t I L R Q := wp_go rfl
theorem i198_58 {x y : Int32} : WP V 198 58 ls (.int y :: .int x :: st) t I L R Q = WP V 198 59 ls (.int (x + y) :: st) t I L R Q := wp_go rfl
theorem i198_59 {j : Nat} (hL : V.1 < 2 ^ 31) (h3 : j < V.1) : WP V 198 59 ls (.int (nI j) :: .ref 1003 :: st) t I L R Q = WP V 198 60 ls (.int (V.2 1003 j) :: st) t I L R Q := wp_sload rfl (by decide) rfl h3 hL
theorem i198_60 {w1 w2 w3 : Value} {x : Nat} : WP V 198 60 [.ref x, w1, w2, w3] st t I L R Q = WP V 198 61 [.ref x, w1, w2, w3] (.ref x :: st) t I L R Q := wp_go rfl
theorem i198_61 {w0 w1 w2 : Value} {x : Int32} : WP V 198 61 [w0, w1, w2, .int x] st t I L R Q = WP V 198 62 [w0, w1, w2, .int x] (.int x :: st) t I L R Q := wp_go rfl
theorem i198_62  : WP V 198 62 ls st t I L R Q = WP V 198 63 ls (.int (nI 3) :: st) t I L R Q := wp_go rfl
theorem i198_63 {x y : Int32} : WP V 198 63 ls (.int y :: .int x :: st) t I L R Q = WP V 198 64 ls (.int (x + y) :: st) t I L R Q := wp_go rfl
theorem i198_64 {j : Nat} (hL : V.1 < 2 ^ 31) (h3 : j < V.1) : WP V 198 64 ls (.int (nI j) :: .ref 1003 :: st) t I L R Q = WP V 198 65 ls (.int (V.2 1003 j) :: st) t I L R Q := wp_sload rfl (by decide) rfl h3 hL
theorem i198_65 {w1 w2 w3 : Value} {x : Nat} : WP V 198 65 [.ref x, w1, w2, w3] st t I L R Q = WP V 198 66 [.ref x, w1, w2, w3] (.ref x :: st) t I L R Q := wp_go rfl
theorem i198_66 {w0 w1 w2 : Value} {x : Int32} : WP V 198 66 [w0, w1, w2, .int x] st t I L R Q = WP V 198 67 [w0, w1, w2, .int x] (.int x :: st) t I L R Q := wp_go rfl
theorem i198_67  : WP V 198 67 ls st t I L R Q = WP V 198 68 ls (.int (nI 4) :: st) t I L R Q := wp_go rfl
theorem i198_68 {x y : Int32} : WP V 198 68 ls (.int y :: .int x :: st) t I L R Q = WP V 198 69 ls (.int (x + y) :: st) t I L R Q := wp_go rfl
theorem i198_69 {j : Nat} (hL : V.1 < 2 ^ 31) (h3 : j < V.1) : WP V 198 69 ls (.int (nI j) :: .ref 1003 :: st) t I L R Q = WP V 198 70 ls (.int (V.2 1003 j) :: st) t I L R Q := wp_sload rfl (by decide) rfl h3 hL
theorem i198_70 {w1 w2 w3 : Value} {x : Nat} : WP V 198 70 [.ref x, w1, w2, w3] st t I L R Q = WP V 198 71 [.ref x, w1, w2, w3] (.ref x :: st) t I L R Q := wp_go rfl
theorem i198_71 {w0 w1 w2 : Value} {x : Int32} : WP V 198 71 [w0, w1, w2, .int x] st t I L R Q = WP V 198 72 [w0, w1, w2, .int x] (.int x :: st) t I L R Q := wp_go rfl
theorem i198_72  : WP V 198 72 ls st t I L R Q = WP V 198 73 ls (.int (nI 5) :: st) t I L R Q := wp_go rfl
theorem i198_73 {x y : Int32} : WP V 198 73 ls (.int y :: .int x :: st) t I L R Q = WP V 198 74 ls (.int (x + y) :: st) t I L R Q := wp_go rfl
theorem i198_74 {j : Nat} (hL : V.1 < 2 ^ 31) (h3 : j < V.1) : WP V 198 74 ls (.int (nI j) :: .ref 1003 :: st) t I L R Q = WP V 198 75 ls (.int (V.2 1003 j) :: st) t I L R Q := wp_sload rfl (by decide) rfl h3 hL
theorem i198_75 {x0 : Int32} {x1 : Int32} {x2 : Int32} {x3 : Int32} {x4 : Int32} {x5 : Nat} {r0 : Int32} (h1 : x5 < t) (h2 : m_ob x5 8 = true) : WP V 198 75 ls [.int x0, .int x1, .int x2, .int x3, .int x4, .ref x5, .int r0] t I L R Q = WPC V 125 [.ref x5, .int x4, .int x3, .int x2, .int x1, .int x0] 198 76 ls [.int r0] t I L R Q := wp_cls (wp_icv rfl rfl h1 h2) (by decide) (Nat.le_of_ble_eq_true rfl) rfl rfl (Nat.le_of_ble_eq_true rfl) (Nat.le_of_ble_eq_true rfl)
theorem i198_76 {x y : Int32} : WP V 198 76 ls (.int y :: .int x :: st) t I L R Q = if x = y then WP V 198 558 ls st t I L R Q else WP V 198 77 ls st t I L R Q := wp_br (c := m_cc .eq x y) rfl rfl
theorem i198_77  : WP V 198 77 ls st t I L R Q = WP V 198 78 ls (.int (nI 0) :: st) t I L R Q := wp_go rfl
theorem i198_78 {x : Int32} (h : m_01 x = true) : WP V 198 78 ls [.int x] t I L R Q = Q (some (.int x)) t I L R := wp_rtz rfl rfl h
theorem i198_79 {w0 w2 w3 : Value} {x : Nat} : WP V 198 79 [w0, .ref x, w2, w3] st t I L R Q = WP V 198 80 [w0, .ref x, w2, w3] (.ref x :: st) t I L R Q := wp_go rfl
theorem i198_80 {x0 : Nat}  (h1 : x0 < t) (h2 : m_ob x0 7 = true) : WP V 198 80 ls [.ref x0] t I L R Q = WPC V 87 [.ref x0] 198 81 ls [] t I L R Q := wp_cls (wp_icv rfl rfl h1 h2) (by decide) (Nat.le_of_ble_eq_true rfl) rfl rfl (Nat.le_of_ble_eq_true rfl) (Nat.le_of_ble_eq_true rfl)
theorem i198_81 {w0 w1 w3 : Value} {x : Nat} : WP V 198 81 [w0, w1, .ref x, w3] st t I L R Q = WP V 198 82 [w0, w1, .ref x, w3] (.ref x :: st) t I L R Q := wp_go rfl
theorem i198_82 {x0 : Nat} {r0 : Int32} (h1 : x0 < t) (h2 : m_ob x0 8 = true) : WP V 198 82 ls [.ref x0, .int r0] t I L R Q = WPC V 126 [.ref x0] 198 83 ls [.int r0] t I L R Q := wp_cls (wp_icv rfl rfl h1 h2) (by decide) (Nat.le_of_ble_eq_true rfl) rfl rfl (Nat.le_of_ble_eq_true rfl) (Nat.le_of_ble_eq_true rfl)
theorem i198_83 {x y : Int32} : WP V 198 83 ls (.int y :: .int x :: st) t I L R Q = if x = y then WP V 198 558 ls st t I L R Q else WP V 198 84 ls st t I L R Q := wp_br (c := m_cc .eq x y) rfl rfl
theorem i198_84  : WP V 198 84 ls st t I L R Q = WP V 198 85 ls (.int (nI 0) :: st) t I L R Q := wp_go rfl
theorem i198_85 {x : Int32} (h : m_01 x = true) : WP V 198 85 ls [.int x] t I L R Q = Q (some (.int x)) t I L R := wp_rtz rfl rfl h
theorem i198_86 {w0 w2 w3 : Value} {x : Nat} : WP V 198 86 [w0, .ref x, w2, w3] st t I L R Q = WP V 198 87 [w0, .ref x, w2, w3] (.ref x :: st) t I L R Q := wp_go rfl
theorem i198_87 {w1 w2 w3 : Value} {x : Nat} : WP V 198 87 [.ref x, w1, w2, w3] st t I L R Q = WP V 198 88 [.ref x, w1, w2, w3] (.ref x :: st) t I L R Q := wp_go rfl
theorem i198_88 {w0 w1 w2 : Value} {x : Int32} : WP V 198 88 [w0, w1, w2, .int x] st t I L R Q = WP V 198 89 [w0, w1, w2, .int x] (.int x :: st) t I L R Q := wp_go rfl
theorem i198_89  : WP V 198 89 ls st t I L R Q = WP V 198 90 ls (.int (nI 1) :: st) t I L R Q := wp_go rfl
theorem i198_90 {x y : Int32} : WP V 198 90 ls (.int y :: .int x :: st) t I L R Q = WP V 198 91 ls (.int (x + y) :: st) t I L R Q := wp_go rfl
theorem i198_91 {j : Nat} (hL : V.1 < 2 ^ 31) (h3 : j < V.1) : WP V 198 91 ls (.int (nI j) :: .ref 1003 :: st) t I L R Q = WP V 198 92 ls (.int (V.2 1003 j) :: st) t I L R Q := wp_sload rfl (by decide) rfl h3 hL
theorem i198_92 {w1 w2 w3 : Value} {x : Nat} : WP V 198 92 [.ref x, w1, w2, w3] st t I L R Q = WP V 198 93 [.ref x, w1, w2, w3] (.ref x :: st) t I L R Q := wp_go rfl
theorem i198_93 {w0 w1 w2 : Value} {x : Int32} : WP V 198 93 [w0, w1, w2, .int x] st t I L R Q = WP V 198 94 [w0, w1, w2, .int x] (.int x :: st) t I L R Q := wp_go rfl
theorem i198_94  : WP V 198 94 ls st t I L R Q = WP V 198 95 ls (.int (nI 2) :: st) t I L R Q := wp_go rfl
theorem i198_95 {x y : Int32} : WP V 198 95 ls (.int y :: .int x :: st) t I L R Q = WP V 198 96 ls (.int (x + y) :: st) t I L R Q := wp_go rfl
theorem i198_96 {j : Nat} (hL : V.1 < 2 ^ 31) (h3 : j < V.1) : WP V 198 96 ls (.int (nI j) :: .ref 1003 :: st) t I L R Q = WP V 198 97 ls (.int (V.2 1003 j) :: st) t I L R Q := wp_sload rfl (by decide) rfl h3 hL
theorem i198_97 {w1 w2 w3 : Value} {x : Nat} : WP V 198 97 [.ref x, w1, w2, w3] st t I L R Q = WP V 198 98 [.ref x, w1, w2, w3] (.ref x :: st) t I L R Q := wp_go rfl
theorem i198_98 {w0 w1 w2 : Value} {x : Int32} : WP V 198 98 [w0, w1, w2, .int x] st t I L R Q = WP V 198 99 [w0, w1, w2, .int x] (.int x :: st) t I L R Q := wp_go rfl
theorem i198_99  : WP V 198 99 ls st t I L R Q = WP V 198 100 ls (.int (nI 3) :: st) t I L R Q := wp_go rfl
theorem i198_100 {x y : Int32} : WP V 198 100 ls (.int y :: .int x :: st) t I L R Q = WP V 198 101 ls (.int (x + y) :: st) t I L R Q := wp_go rfl
theorem i198_101 {j : Nat} (hL : V.1 < 2 ^ 31) (h3 : j < V.1) : WP V 198 101 ls (.int (nI j) :: .ref 1003 :: st) t I L R Q = WP V 198 102 ls (.int (V.2 1003 j) :: st) t I L R Q := wp_sload rfl (by decide) rfl h3 hL
theorem i198_102 {x0 : Int32} {x1 : Int32} {x2 : Int32} {x3 : Nat}  (h1 : x3 < t) (h2 : m_ob x3 7 = true) : WP V 198 102 ls [.int x0, .int x1, .int x2, .ref x3] t I L R Q = WPC V 88 [.ref x3, .int x2, .int x1, .int x0] 198 103 ls [] t I L R Q := wp_cls (wp_icv rfl rfl h1 h2) (by decide) (Nat.le_of_ble_eq_true rfl) rfl rfl (Nat.le_of_ble_eq_true rfl) (Nat.le_of_ble_eq_true rfl)
theorem i198_103 {w0 w1 w3 : Value} {x : Nat} : WP V 198 103 [w0, w1, .ref x, w3] st t I L R Q = WP V 198 104 [w0, w1, .ref x, w3] (.ref x :: st) t I L R Q := wp_go rfl
theorem i198_104 {w1 w2 w3 : Value} {x : Nat} : WP V 198 104 [.ref x, w1, w2, w3] st t I L R Q = WP V 198 105 [.ref x, w1, w2, w3] (.ref x :: st) t I L R Q := wp_go rfl
theorem i198_105 {w0 w1 w2 : Value} {x : Int32} : WP V 198 105 [w0, w1, w2, .int x] st t I L R Q = WP V 198 106 [w0, w1, w2, .int x] (.int x :: st) t I L R Q := wp_go rfl
theorem i198_106  : WP V 198 106 ls st t I L R Q = WP V 198 107 ls (.int (nI 1) :: st) t I L R Q := wp_go rfl
theorem i198_107 {x y : Int32} : WP V 198 107 ls (.int y :: .int x :: st) t I L R Q = WP V 198 108 ls (.int (x + y) :: st) t I L R Q := wp_go rfl
theorem i198_108 {j : Nat} (hL : V.1 < 2 ^ 31) (h3 : j < V.1) : WP V 198 108 ls (.int (nI j) :: .ref 1003 :: st) t I L R Q = WP V 198 109 ls (.int (V.2 1003 j) :: st) t I L R Q := wp_sload rfl (by decide) rfl h3 hL
theorem i198_109 {w1 w2 w3 : Value} {x : Nat} : WP V 198 109 [.ref x, w1, w2, w3] st t I L R Q = WP V 198 110 [.ref x, w1, w2, w3] (.ref x :: st) t I L R Q := wp_go rfl
theorem i198_110 {w0 w1 w2 : Value} {x : Int32} : WP V 198 110 [w0, w1, w2, .int x] st t I L R Q = WP V 198 111 [w0, w1, w2, .int x] (.int x :: st) t I L R Q := wp_go rfl
theorem i198_111  : WP V 198 111 ls st t I L R Q = WP V 198 112 ls (.int (nI 2) :: st) t I L R Q := wp_go rfl
theorem i198_112 {x y : Int32} : WP V 198 112 ls (.int y :: .int x :: st) t I L R Q = WP V 198 113 ls (.int (x + y) :: st) t I L R Q := wp_go rfl
theorem i198_113 {j : Nat} (hL : V.1 < 2 ^ 31) (h3 : j < V.1) : WP V 198 113 ls (.int (nI j) :: .ref 1003 :: st) t I L R Q = WP V 198 114 ls (.int (V.2 1003 j) :: st) t I L R Q := wp_sload rfl (by decide) rfl h3 hL
theorem i198_114 {w1 w2 w3 : Value} {x : Nat} : WP V 198 114 [.ref x, w1, w2, w3] st t I L R Q = WP V 198 115 [.ref x, w1, w2, w3] (.ref x :: st) t I L R Q := wp_go rfl
theorem i198_115 {w0 w1 w2 : Value} {x : Int32} : WP V 198 115 [w0, w1, w2, .int x] st t I L R Q = WP V 198 116 [w0, w1, w2, .int x] (.int x :: st) t I L R Q := wp_go rfl
theorem i198_116  : WP V 198 116 ls st t I L R Q = WP V 198 117 ls (.int (nI 3) :: st) t I L R Q := wp_go rfl
theorem i198_117 {x y : Int32} : WP V 198 117 ls (.int y :: .int x :: st) t I L R Q = WP V 198 118 ls (.int (x + y) :: st) t I L R Q := wp_go rfl
theorem i198_118 {j : Nat} (hL : V.1 < 2 ^ 31) (h3 : j < V.1) : WP V 198 118 ls (.int (nI j) :: .ref 1003 :: st) t I L R Q = WP V 198 119 ls (.int (V.2 1003 j) :: st) t I L R Q := wp_sload rfl (by decide) rfl h3 hL
theorem i198_119 {x0 : Int32} {x1 : Int32} {x2 : Int32} {x3 : Nat} {r0 : Int32} (h1 : x3 < t) (h2 : m_ob x3 8 = true) : WP V 198 119 ls [.int x0, .int x1, .int x2, .ref x3, .int r0] t I L R Q = WPC V 127 [.ref x3, .int x2, .int x1, .int x0] 198 120 ls [.int r0] t I L R Q := wp_cls (wp_icv rfl rfl h1 h2) (by decide) (Nat.le_of_ble_eq_true rfl) rfl rfl (Nat.le_of_ble_eq_true rfl) (Nat.le_of_ble_eq_true rfl)
theorem i198_120 {x y : Int32} : WP V 198 120 ls (.int y :: .int x :: st) t I L R Q = if x = y then WP V 198 558 ls st t I L R Q else WP V 198 121 ls st t I L R Q := wp_br (c := m_cc .eq x y) rfl rfl
theorem i198_121  : WP V 198 121 ls st t I L R Q = WP V 198 122 ls (.int (nI 0) :: st) t I L R Q := wp_go rfl
theorem i198_122 {x : Int32} (h : m_01 x = true) : WP V 198 122 ls [.int x] t I L R Q = Q (some (.int x)) t I L R := wp_rtz rfl rfl h
theorem i198_123 {w0 w2 w3 : Value} {x : Nat} : WP V 198 123 [w0, .ref x, w2, w3] st t I L R Q = WP V 198 124 [w0, .ref x, w2, w3] (.ref x :: st) t I L R Q := wp_go rfl
theorem i198_124 {w1 w2 w3 : Value} {x : Nat} : WP V 198 124 [.ref x, w1, w2, w3] st t I L R Q = WP V 198 125 [.ref x, w1, w2, w3] (.ref x :: st) t I L R Q := wp_go rfl
theorem i198_125 {w0 w1 w2 : Value} {x : Int32} : WP V 198 125 [w0, w1, w2, .int x] st t I L R Q = WP V 198 126 [w0, w1, w2, .int x] (.int x :: st) t I L R Q := wp_go rfl
theorem i198_126  : WP V 198 126 ls st t I L R Q = WP V 198 127 ls (.int (nI 1) :: st) t I L R Q := wp_go rfl
theorem i198_127 {x y : Int32} : WP V 198 127 ls (.int y :: .int x :: st) t I L R Q = WP V 198 128 ls (.int (x + y) :: st) t I L R Q := wp_go rfl
theorem i198_128 {j : Nat} (hL : V.1 < 2 ^ 31) (h3 : j < V.1) : WP V 198 128 ls (.int (nI j) :: .ref 1003 :: st) t I L R Q = WP V 198 129 ls (.int (V.2 1003 j) :: st) t I L R Q := wp_sload rfl (by decide) rfl h3 hL
theorem i198_129 {w1 w2 w3 : Value} {x : Nat} : WP V 198 129 [.ref x, w1, w2, w3] st t I L R Q = WP V 198 130 [.ref x, w1, w2, w3] (.ref x :: st) t I L R Q := wp_go rfl
theorem i198_130 {w0 w1 w2 : Value} {x : Int32} : WP V 198 130 [w0, w1, w2, .int x] st t I L R Q = WP V 198 131 [w0, w1, w2, .int x] (.int x :: st) t I L R Q := wp_go rfl
theorem i198_131  : WP V 198 131 ls st t I L R Q = WP V 198 132 ls (.int (nI 2) :: st) t I L R Q := wp_go rfl
theorem i198_132 {x y : Int32} : WP V 198 132 ls (.int y :: .int x :: st) t I L R Q = WP V 198 133 ls (.int (x + y) :: st) t I L R Q := wp_go rfl
theorem i198_133 {j : Nat} (hL : V.1 < 2 ^ 31) (h3 : j < V.1) : WP V 198 133 ls (.int (nI j) :: .ref 1003 :: st) t I L R Q = WP V 198 134 ls (.int (V.2 1003 j) :: st) t I L R Q := wp_sload rfl (by decide) rfl h3 hL
theorem i198_134 {w1 w2 w3 : Value} {x : Nat} : WP V 198 134 [.ref x, w1, w2, w3] st t I L R Q = WP V 198 135 [.ref x, w1, w2, w3] (.ref x :: st) t I L R Q := wp_go rfl
theorem i198_135 {w0 w1 w2 : Value} {x : Int32} : WP V 198 135 [w0, w1, w2, .int x] st t I L R Q = WP V 198 136 [w0, w1, w2, .int x] (.int x :: st) t I L R Q := wp_go rfl
theorem i198_136  : WP V 198 136 ls st t I L R Q = WP V 198 137 ls (.int (nI 3) :: st) t I L R Q := wp_go rfl
theorem i198_137 {x y : Int32} : WP V 198 137 ls (.int y :: .int x :: st) t I L R Q = WP V 198 138 ls (.int (x + y) :: st) t I L R Q := wp_go rfl
theorem i198_138 {j : Nat} (hL : V.1 < 2 ^ 31) (h3 : j < V.1) : WP V 198 138 ls (.int (nI j) :: .ref 1003 :: st) t I L R Q = WP V 198 139 ls (.int (V.2 1003 j) :: st) t I L R Q := wp_sload rfl (by decide) rfl h3 hL
theorem i198_139 {x : Int32} : WP V 198 139 ls (.int x :: st) t I L R Q = WP V 198 140 ls (.long x.toInt64 :: st) t I L R Q := wp_go rfl
theorem i198_140  : WP V 198 140 ls st t I L R Q = WP V 198 141 ls (.int (nI 32) :: st) t I L R Q := wp_go rfl
theorem i198_141 {x : Int64} {y : Int32} : WP V 198 141 ls (.int y :: .long x :: st) t I L R Q = WP V 198 142 ls (.long (x <<< (y.toInt64 &&& 63)) :: st) t I L R Q := wp_go rfl
theorem i198_142 {w1 w2 w3 : Value} {x : Nat} : WP V 198 142 [.ref x, w1, w2, w3] st t I L R Q = WP V 198 143 [.ref x, w1, w2, w3] (.ref x :: st) t I L R Q := wp_go rfl
theorem i198_143 {w0 w1 w2 : Value} {x : Int32} : WP V 198 143 [w0, w1, w2, .int x] st t I L R Q = WP V 198 144 [w0, w1, w2, .int x] (.int x :: st) t I L R Q := wp_go rfl
theorem i198_144  : WP V 198 144 ls st t I L R Q = WP V 198 145 ls (.int (nI 4) :: st) t I L R Q := wp_go rfl
theorem i198_145 {x y : Int32} : WP V 198 145 ls (.int y :: .int x :: st) t I L R Q = WP V 198 146 ls (.int (x + y) :: st) t I L R Q := wp_go rfl
theorem i198_146 {j : Nat} (hL : V.1 < 2 ^ 31) (h3 : j < V.1) : WP V 198 146 ls (.int (nI j) :: .ref 1003 :: st) t I L R Q = WP V 198 147 ls (.int (V.2 1003 j) :: st) t I L R Q := wp_sload rfl (by decide) rfl h3 hL
theorem i198_147 {x : Int32} : WP V 198 147 ls (.int x :: st) t I L R Q = WP V 198 148 ls (.long x.toInt64 :: st) t I L R Q := wp_go rfl
theorem i198_148  : WP V 198 148 ls st t I L R Q = WP V 198 149 ls (.long (lN 4294967295) :: st) t I L R Q := wp_go rfl
theorem i198_149 {x y : Int64} : WP V 198 149 ls (.long y :: .long x :: st) t I L R Q = WP V 198 150 ls (.long (x &&& y) :: st) t I L R Q := wp_go rfl
theorem i198_150 {x y : Int64} : WP V 198 150 ls (.long y :: .long x :: st) t I L R Q = WP V 198 151 ls (.long (x ||| y) :: st) t I L R Q := wp_go rfl
theorem i198_151 {x0 : Int64} {x1 : Int32} {x2 : Int32} {x3 : Nat}  (h1 : x3 < t) (h2 : m_ob x3 7 = true) : WP V 198 151 ls [.long x0, .int x1, .int x2, .ref x3] t I L R Q = WPC V 89 [.ref x3, .int x2, .int x1, .long x0] 198 152 ls [] t I L R Q := wp_cls (wp_icv rfl rfl h1 h2) (by decide) (Nat.le_of_ble_eq_true rfl) rfl rfl (Nat.le_of_ble_eq_true rfl) (Nat.le_of_ble_eq_true rfl)
theorem i198_152 {w0 w1 w3 : Value} {x : Nat} : WP V 198 152 [w0, w1, .ref x, w3] st t I L R Q = WP V 198 153 [w0, w1, .ref x, w3] (.ref x :: st) t I L R Q := wp_go rfl
theorem i198_153 {w1 w2 w3 : Value} {x : Nat} : WP V 198 153 [.ref x, w1, w2, w3] st t I L R Q = WP V 198 154 [.ref x, w1, w2, w3] (.ref x :: st) t I L R Q := wp_go rfl
theorem i198_154 {w0 w1 w2 : Value} {x : Int32} : WP V 198 154 [w0, w1, w2, .int x] st t I L R Q = WP V 198 155 [w0, w1, w2, .int x] (.int x :: st) t I L R Q := wp_go rfl
theorem i198_155  : WP V 198 155 ls st t I L R Q = WP V 198 156 ls (.int (nI 1) :: st) t I L R Q := wp_go rfl
theorem i198_156 {x y : Int32} : WP V 198 156 ls (.int y :: .int x :: st) t I L R Q = WP V 198 157 ls (.int (x + y) :: st) t I L R Q := wp_go rfl
theorem i198_157 {j : Nat} (hL : V.1 < 2 ^ 31) (h3 : j < V.1) : WP V 198 157 ls (.int (nI j) :: .ref 1003 :: st) t I L R Q = WP V 198 158 ls (.int (V.2 1003 j) :: st) t I L R Q := wp_sload rfl (by decide) rfl h3 hL
theorem i198_158 {w1 w2 w3 : Value} {x : Nat} : WP V 198 158 [.ref x, w1, w2, w3] st t I L R Q = WP V 198 159 [.ref x, w1, w2, w3] (.ref x :: st) t I L R Q := wp_go rfl
theorem i198_159 {w0 w1 w2 : Value} {x : Int32} : WP V 198 159 [w0, w1, w2, .int x] st t I L R Q = WP V 198 160 [w0, w1, w2, .int x] (.int x :: st) t I L R Q := wp_go rfl
theorem i198_160  : WP V 198 160 ls st t I L R Q = WP V 198 161 ls (.int (nI 2) :: st) t I L R Q := wp_go rfl
theorem i198_161 {x y : Int32} : WP V 198 161 ls (.int y :: .int x :: st) t I L R Q = WP V 198 162 ls (.int (x + y) :: st) t I L R Q := wp_go rfl
theorem i198_162 {j : Nat} (hL : V.1 < 2 ^ 31) (h3 : j < V.1) : WP V 198 162 ls (.int (nI j) :: .ref 1003 :: st) t I L R Q = WP V 198 163 ls (.int (V.2 1003 j) :: st) t I L R Q := wp_sload rfl (by decide) rfl h3 hL
theorem i198_163 {w1 w2 w3 : Value} {x : Nat} : WP V 198 163 [.ref x, w1, w2, w3] st t I L R Q = WP V 198 164 [.ref x, w1, w2, w3] (.ref x :: st) t I L R Q := wp_go rfl
theorem i198_164 {w0 w1 w2 : Value} {x : Int32} : WP V 198 164 [w0, w1, w2, .int x] st t I L R Q = WP V 198 165 [w0, w1, w2, .int x] (.int x :: st) t I L R Q := wp_go rfl
theorem i198_165  : WP V 198 165 ls st t I L R Q = WP V 198 166 ls (.int (nI 3) :: st) t I L R Q := wp_go rfl
theorem i198_166 {x y : Int32} : WP V 198 166 ls (.int y :: .int x :: st) t I L R Q = WP V 198 167 ls (.int (x + y) :: st) t I L R Q := wp_go rfl
theorem i198_167 {j : Nat} (hL : V.1 < 2 ^ 31) (h3 : j < V.1) : WP V 198 167 ls (.int (nI j) :: .ref 1003 :: st) t I L R Q = WP V 198 168 ls (.int (V.2 1003 j) :: st) t I L R Q := wp_sload rfl (by decide) rfl h3 hL
theorem i198_168 {x : Int32} : WP V 198 168 ls (.int x :: st) t I L R Q = WP V 198 169 ls (.long x.toInt64 :: st) t I L R Q := wp_go rfl
theorem i198_169  : WP V 198 169 ls st t I L R Q = WP V 198 170 ls (.int (nI 32) :: st) t I L R Q := wp_go rfl
theorem i198_170 {x : Int64} {y : Int32} : WP V 198 170 ls (.int y :: .long x :: st) t I L R Q = WP V 198 171 ls (.long (x <<< (y.toInt64 &&& 63)) :: st) t I L R Q := wp_go rfl
theorem i198_171 {w1 w2 w3 : Value} {x : Nat} : WP V 198 171 [.ref x, w1, w2, w3] st t I L R Q = WP V 198 172 [.ref x, w1, w2, w3] (.ref x :: st) t I L R Q := wp_go rfl
theorem i198_172 {w0 w1 w2 : Value} {x : Int32} : WP V 198 172 [w0, w1, w2, .int x] st t I L R Q = WP V 198 173 [w0, w1, w2, .int x] (.int x :: st) t I L R Q := wp_go rfl
theorem i198_173  : WP V 198 173 ls st t I L R Q = WP V 198 174 ls (.int (nI 4) :: st) t I L R Q := wp_go rfl
theorem i198_174 {x y : Int32} : WP V 198 174 ls (.int y :: .int x :: st) t I L R Q = WP V 198 175 ls (.int (x + y) :: st) t I L R Q := wp_go rfl
theorem i198_175 {j : Nat} (hL : V.1 < 2 ^ 31) (h3 : j < V.1) : WP V 198 175 ls (.int (nI j) :: .ref 1003 :: st) t I L R Q = WP V 198 176 ls (.int (V.2 1003 j) :: st) t I L R Q := wp_sload rfl (by decide) rfl h3 hL
theorem i198_176 {x : Int32} : WP V 198 176 ls (.int x :: st) t I L R Q = WP V 198 177 ls (.long x.toInt64 :: st) t I L R Q := wp_go rfl
theorem i198_177  : WP V 198 177 ls st t I L R Q = WP V 198 178 ls (.long (lN 4294967295) :: st) t I L R Q := wp_go rfl
theorem i198_178 {x y : Int64} : WP V 198 178 ls (.long y :: .long x :: st) t I L R Q = WP V 198 179 ls (.long (x &&& y) :: st) t I L R Q := wp_go rfl
theorem i198_179 {x y : Int64} : WP V 198 179 ls (.long y :: .long x :: st) t I L R Q = WP V 198 180 ls (.long (x ||| y) :: st) t I L R Q := wp_go rfl
theorem i198_180 {x0 : Int64} {x1 : Int32} {x2 : Int32} {x3 : Nat} {r0 : Int32} (h1 : x3 < t) (h2 : m_ob x3 8 = true) : WP V 198 180 ls [.long x0, .int x1, .int x2, .ref x3, .int r0] t I L R Q = WPC V 128 [.ref x3, .int x2, .int x1, .long x0] 198 181 ls [.int r0] t I L R Q := wp_cls (wp_icv rfl rfl h1 h2) (by decide) (Nat.le_of_ble_eq_true rfl) rfl rfl (Nat.le_of_ble_eq_true rfl) (Nat.le_of_ble_eq_true rfl)
theorem i198_181 {x y : Int32} : WP V 198 181 ls (.int y :: .int x :: st) t I L R Q = if x = y then WP V 198 558 ls st t I L R Q else WP V 198 182 ls st t I L R Q := wp_br (c := m_cc .eq x y) rfl rfl
theorem i198_182  : WP V 198 182 ls st t I L R Q = WP V 198 183 ls (.int (nI 0) :: st) t I L R Q := wp_go rfl
theorem i198_183 {x : Int32} (h : m_01 x = true) : WP V 198 183 ls [.int x] t I L R Q = Q (some (.int x)) t I L R := wp_rtz rfl rfl h
theorem i198_184 {w0 w2 w3 : Value} {x : Nat} : WP V 198 184 [w0, .ref x, w2, w3] st t I L R Q = WP V 198 185 [w0, .ref x, w2, w3] (.ref x :: st) t I L R Q := wp_go rfl
theorem i198_185 {w1 w2 w3 : Value} {x : Nat} : WP V 198 185 [.ref x, w1, w2, w3] st t I L R Q = WP V 198 186 [.ref x, w1, w2, w3] (.ref x :: st) t I L R Q := wp_go rfl
theorem i198_186 {w0 w1 w2 : Value} {x : Int32} : WP V 198 186 [w0, w1, w2, .int x] st t I L R Q = WP V 198 187 [w0, w1, w2, .int x] (.int x :: st) t I L R Q := wp_go rfl
theorem i198_187  : WP V 198 187 ls st t I L R Q = WP V 198 188 ls (.int (nI 1) :: st) t I L R Q := wp_go rfl
theorem i198_188 {x y : Int32} : WP V 198 188 ls (.int y :: .int x :: st) t I L R Q = WP V 198 189 ls (.int (x + y) :: st) t I L R Q := wp_go rfl
theorem i198_189 {j : Nat} (hL : V.1 < 2 ^ 31) (h3 : j < V.1) : WP V 198 189 ls (.int (nI j) :: .ref 1003 :: st) t I L R Q = WP V 198 190 ls (.int (V.2 1003 j) :: st) t I L R Q := wp_sload rfl (by decide) rfl h3 hL
theorem i198_190 {x0 : Int32} {x1 : Nat}  (h1 : x1 < t) (h2 : m_ob x1 7 = true) : WP V 198 190 ls [.int x0, .ref x1] t I L R Q = WPC V 90 [.ref x1, .int x0] 198 191 ls [] t I L R Q := wp_cls (wp_icv rfl rfl h1 h2) (by decide) (Nat.le_of_ble_eq_true rfl) rfl rfl (Nat.le_of_ble_eq_true rfl) (Nat.le_of_ble_eq_true rfl)
theorem i198_191 {w0 w1 w3 : Value} {x : Nat} : WP V 198 191 [w0, w1, .ref x, w3] st t I L R Q = WP V 198 192 [w0, w1, .ref x, w3] (.ref x :: st) t I L R Q := wp_go rfl
theorem i198_192 {w1 w2 w3 : Value} {x : Nat} : WP V 198 192 [.ref x, w1, w2, w3] st t I L R Q = WP V 198 193 [.ref x, w1, w2, w3] (.ref x :: st) t I L R Q := wp_go rfl
theorem i198_193 {w0 w1 w2 : Value} {x : Int32} : WP V 198 193 [w0, w1, w2, .int x] st t I L R Q = WP V 198 194 [w0, w1, w2, .int x] (.int x :: st) t I L R Q := wp_go rfl
theorem i198_194  : WP V 198 194 ls st t I L R Q = WP V 198 195 ls (.int (nI 1) :: st) t I L R Q := wp_go rfl
theorem i198_195 {x y : Int32} : WP V 198 195 ls (.int y :: .int x :: st) t I L R Q = WP V 198 196 ls (.int (x + y) :: st) t I L R Q := wp_go rfl
theorem i198_196 {j : Nat} (hL : V.1 < 2 ^ 31) (h3 : j < V.1) : WP V 198 196 ls (.int (nI j) :: .ref 1003 :: st) t I L R Q = WP V 198 197 ls (.int (V.2 1003 j) :: st) t I L R Q := wp_sload rfl (by decide) rfl h3 hL
theorem i198_197 {x0 : Int32} {x1 : Nat} {r0 : Int32} (h1 : x1 < t) (h2 : m_ob x1 8 = true) : WP V 198 197 ls [.int x0, .ref x1, .int r0] t I L R Q = WPC V 129 [.ref x1, .int x0] 198 198 ls [.int r0] t I L R Q := wp_cls (wp_icv rfl rfl h1 h2) (by decide) (Nat.le_of_ble_eq_true rfl) rfl rfl (Nat.le_of_ble_eq_true rfl) (Nat.le_of_ble_eq_true rfl)
theorem i198_198 {x y : Int32} : WP V 198 198 ls (.int y :: .int x :: st) t I L R Q = if x = y then WP V 198 558 ls st t I L R Q else WP V 198 199 ls st t I L R Q := wp_br (c := m_cc .eq x y) rfl rfl
theorem i198_199  : WP V 198 199 ls st t I L R Q = WP V 198 200 ls (.int (nI 0) :: st) t I L R Q := wp_go rfl
theorem i198_200 {x : Int32} (h : m_01 x = true) : WP V 198 200 ls [.int x] t I L R Q = Q (some (.int x)) t I L R := wp_rtz rfl rfl h
theorem i198_201 {w0 w2 w3 : Value} {x : Nat} : WP V 198 201 [w0, .ref x, w2, w3] st t I L R Q = WP V 198 202 [w0, .ref x, w2, w3] (.ref x :: st) t I L R Q := wp_go rfl
theorem i198_202 {w1 w2 w3 : Value} {x : Nat} : WP V 198 202 [.ref x, w1, w2, w3] st t I L R Q = WP V 198 203 [.ref x, w1, w2, w3] (.ref x :: st) t I L R Q := wp_go rfl
theorem i198_203 {w0 w1 w2 : Value} {x : Int32} : WP V 198 203 [w0, w1, w2, .int x] st t I L R Q = WP V 198 204 [w0, w1, w2, .int x] (.int x :: st) t I L R Q := wp_go rfl
theorem i198_204  : WP V 198 204 ls st t I L R Q = WP V 198 205 ls (.int (nI 1) :: st) t I L R Q := wp_go rfl
theorem i198_205 {x y : Int32} : WP V 198 205 ls (.int y :: .int x :: st) t I L R Q = WP V 198 206 ls (.int (x + y) :: st) t I L R Q := wp_go rfl
theorem i198_206 {j : Nat} (hL : V.1 < 2 ^ 31) (h3 : j < V.1) : WP V 198 206 ls (.int (nI j) :: .ref 1003 :: st) t I L R Q = WP V 198 207 ls (.int (V.2 1003 j) :: st) t I L R Q := wp_sload rfl (by decide) rfl h3 hL
theorem i198_207 {w1 w2 w3 : Value} {x : Nat} : WP V 198 207 [.ref x, w1, w2, w3] st t I L R Q = WP V 198 208 [.ref x, w1, w2, w3] (.ref x :: st) t I L R Q := wp_go rfl
theorem i198_208 {w0 w1 w2 : Value} {x : Int32} : WP V 198 208 [w0, w1, w2, .int x] st t I L R Q = WP V 198 209 [w0, w1, w2, .int x] (.int x :: st) t I L R Q := wp_go rfl
theorem i198_209  : WP V 198 209 ls st t I L R Q = WP V 198 210 ls (.int (nI 2) :: st) t I L R Q := wp_go rfl
theorem i198_210 {x y : Int32} : WP V 198 210 ls (.int y :: .int x :: st) t I L R Q = WP V 198 211 ls (.int (x + y) :: st) t I L R Q := wp_go rfl
theorem i198_211 {j : Nat} (hL : V.1 < 2 ^ 31) (h3 : j < V.1) : WP V 198 211 ls (.int (nI j) :: .ref 1003 :: st) t I L R Q = WP V 198 212 ls (.int (V.2 1003 j) :: st) t I L R Q := wp_sload rfl (by decide) rfl h3 hL
theorem i198_212 {w1 w2 w3 : Value} {x : Nat} : WP V 198 212 [.ref x, w1, w2, w3] st t I L R Q = WP V 198 213 [.ref x, w1, w2, w3] (.ref x :: st) t I L R Q := wp_go rfl
theorem i198_213 {w0 w1 w2 : Value} {x : Int32} : WP V 198 213 [w0, w1, w2, .int x] st t I L R Q = WP V 198 214 [w0, w1, w2, .int x] (.int x :: st) t I L R Q := wp_go rfl
theorem i198_214  : WP V 198 214 ls st t I L R Q = WP V 198 215 ls (.int (nI 3) :: st) t I L R Q := wp_go rfl
theorem i198_215 {x y : Int32} : WP V 198 215 ls (.int y :: .int x :: st) t I L R Q = WP V 198 216 ls (.int (x + y) :: st) t I L R Q := wp_go rfl
theorem i198_216 {j : Nat} (hL : V.1 < 2 ^ 31) (h3 : j < V.1) : WP V 198 216 ls (.int (nI j) :: .ref 1003 :: st) t I L R Q = WP V 198 217 ls (.int (V.2 1003 j) :: st) t I L R Q := wp_sload rfl (by decide) rfl h3 hL
theorem i198_217 {x0 : Int32} {x1 : Int32} {x2 : Int32} {x3 : Nat}  (h1 : x3 < t) (h2 : m_ob x3 7 = true) : WP V 198 217 ls [.int x0, .int x1, .int x2, .ref x3] t I L R Q = WPC V 91 [.ref x3, .int x2, .int x1, .int x0] 198 218 ls [] t I L R Q := wp_cls (wp_icv rfl rfl h1 h2) (by decide) (Nat.le_of_ble_eq_true rfl) rfl rfl (Nat.le_of_ble_eq_true rfl) (Nat.le_of_ble_eq_true rfl)
theorem i198_218 {w0 w1 w3 : Value} {x : Nat} : WP V 198 218 [w0, w1, .ref x, w3] st t I L R Q = WP V 198 219 [w0, w1, .ref x, w3] (.ref x :: st) t I L R Q := wp_go rfl
theorem i198_219 {w1 w2 w3 : Value} {x : Nat} : WP V 198 219 [.ref x, w1, w2, w3] st t I L R Q = WP V 198 220 [.ref x, w1, w2, w3] (.ref x :: st) t I L R Q := wp_go rfl
theorem i198_220 {w0 w1 w2 : Value} {x : Int32} : WP V 198 220 [w0, w1, w2, .int x] st t I L R Q = WP V 198 221 [w0, w1, w2, .int x] (.int x :: st) t I L R Q := wp_go rfl
theorem i198_221  : WP V 198 221 ls st t I L R Q = WP V 198 222 ls (.int (nI 1) :: st) t I L R Q := wp_go rfl
theorem i198_222 {x y : Int32} : WP V 198 222 ls (.int y :: .int x :: st) t I L R Q = WP V 198 223 ls (.int (x + y) :: st) t I L R Q := wp_go rfl
theorem i198_223 {j : Nat} (hL : V.1 < 2 ^ 31) (h3 : j < V.1) : WP V 198 223 ls (.int (nI j) :: .ref 1003 :: st) t I L R Q = WP V 198 224 ls (.int (V.2 1003 j) :: st) t I L R Q := wp_sload rfl (by decide) rfl h3 hL
theorem i198_224 {w1 w2 w3 : Value} {x : Nat} : WP V 198 224 [.ref x, w1, w2, w3] st t I L R Q = WP V 198 225 [.ref x, w1, w2, w3] (.ref x :: st) t I L R Q := wp_go rfl
theorem i198_225 {w0 w1 w2 : Value} {x : Int32} : WP V 198 225 [w0, w1, w2, .int x] st t I L R Q = WP V 198 226 [w0, w1, w2, .int x] (.int x :: st) t I L R Q := wp_go rfl
theorem i198_226  : WP V 198 226 ls st t I L R Q = WP V 198 227 ls (.int (nI 2) :: st) t I L R Q := wp_go rfl
theorem i198_227 {x y : Int32} : WP V 198 227 ls (.int y :: .int x :: st) t I L R Q = WP V 198 228 ls (.int (x + y) :: st) t I L R Q := wp_go rfl
theorem i198_228 {j : Nat} (hL : V.1 < 2 ^ 31) (h3 : j < V.1) : WP V 198 228 ls (.int (nI j) :: .ref 1003 :: st) t I L R Q = WP V 198 229 ls (.int (V.2 1003 j) :: st) t I L R Q := wp_sload rfl (by decide) rfl h3 hL
theorem i198_229 {w1 w2 w3 : Value} {x : Nat} : WP V 198 229 [.ref x, w1, w2, w3] st t I L R Q = WP V 198 230 [.ref x, w1, w2, w3] (.ref x :: st) t I L R Q := wp_go rfl
theorem i198_230 {w0 w1 w2 : Value} {x : Int32} : WP V 198 230 [w0, w1, w2, .int x] st t I L R Q = WP V 198 231 [w0, w1, w2, .int x] (.int x :: st) t I L R Q := wp_go rfl
theorem i198_231  : WP V 198 231 ls st t I L R Q = WP V 198 232 ls (.int (nI 3) :: st) t I L R Q := wp_go rfl
theorem i198_232 {x y : Int32} : WP V 198 232 ls (.int y :: .int x :: st) t I L R Q = WP V 198 233 ls (.int (x + y) :: st) t I L R Q := wp_go rfl
theorem i198_233 {j : Nat} (hL : V.1 < 2 ^ 31) (h3 : j < V.1) : WP V 198 233 ls (.int (nI j) :: .ref 1003 :: st) t I L R Q = WP V 198 234 ls (.int (V.2 1003 j) :: st) t I L R Q := wp_sload rfl (by decide) rfl h3 hL
theorem i198_234 {x0 : Int32} {x1 : Int32} {x2 : Int32} {x3 : Nat} {r0 : Int32} (h1 : x3 < t) (h2 : m_ob x3 8 = true) : WP V 198 234 ls [.int x0, .int x1, .int x2, .ref x3, .int r0] t I L R Q = WPC V 131 [.ref x3, .int x2, .int x1, .int x0] 198 235 ls [.int r0] t I L R Q := wp_cls (wp_icv rfl rfl h1 h2) (by decide) (Nat.le_of_ble_eq_true rfl) rfl rfl (Nat.le_of_ble_eq_true rfl) (Nat.le_of_ble_eq_true rfl)
theorem i198_235 {x y : Int32} : WP V 198 235 ls (.int y :: .int x :: st) t I L R Q = if x = y then WP V 198 558 ls st t I L R Q else WP V 198 236 ls st t I L R Q := wp_br (c := m_cc .eq x y) rfl rfl
theorem i198_236  : WP V 198 236 ls st t I L R Q = WP V 198 237 ls (.int (nI 0) :: st) t I L R Q := wp_go rfl
theorem i198_237 {x : Int32} (h : m_01 x = true) : WP V 198 237 ls [.int x] t I L R Q = Q (some (.int x)) t I L R := wp_rtz rfl rfl h
theorem i198_238 {w0 w2 w3 : Value} {x : Nat} : WP V 198 238 [w0, .ref x, w2, w3] st t I L R Q = WP V 198 239 [w0, .ref x, w2, w3] (.ref x :: st) t I L R Q := wp_go rfl
theorem i198_239 {w1 w2 w3 : Value} {x : Nat} : WP V 198 239 [.ref x, w1, w2, w3] st t I L R Q = WP V 198 240 [.ref x, w1, w2, w3] (.ref x :: st) t I L R Q := wp_go rfl
theorem i198_240 {w0 w1 w2 : Value} {x : Int32} : WP V 198 240 [w0, w1, w2, .int x] st t I L R Q = WP V 198 241 [w0, w1, w2, .int x] (.int x :: st) t I L R Q := wp_go rfl
theorem i198_241  : WP V 198 241 ls st t I L R Q = WP V 198 242 ls (.int (nI 1) :: st) t I L R Q := wp_go rfl
theorem i198_242 {x y : Int32} : WP V 198 242 ls (.int y :: .int x :: st) t I L R Q = WP V 198 243 ls (.int (x + y) :: st) t I L R Q := wp_go rfl
theorem i198_243 {j : Nat} (hL : V.1 < 2 ^ 31) (h3 : j < V.1) : WP V 198 243 ls (.int (nI j) :: .ref 1003 :: st) t I L R Q = WP V 198 244 ls (.int (V.2 1003 j) :: st) t I L R Q := wp_sload rfl (by decide) rfl h3 hL
theorem i198_244 {x0 : Int32} {x1 : Nat}  (h1 : x1 < t) (h2 : m_ob x1 7 = true) : WP V 198 244 ls [.int x0, .ref x1] t I L R Q = WPC V 92 [.ref x1, .int x0] 198 245 ls [] t I L R Q := wp_cls (wp_icv rfl rfl h1 h2) (by decide) (Nat.le_of_ble_eq_true rfl) rfl rfl (Nat.le_of_ble_eq_true rfl) (Nat.le_of_ble_eq_true rfl)
theorem i198_245 {w0 w1 w3 : Value} {x : Nat} : WP V 198 245 [w0, w1, .ref x, w3] st t I L R Q = WP V 198 246 [w0, w1, .ref x, w3] (.ref x :: st) t I L R Q := wp_go rfl
theorem i198_246 {w1 w2 w3 : Value} {x : Nat} : WP V 198 246 [.ref x, w1, w2, w3] st t I L R Q = WP V 198 247 [.ref x, w1, w2, w3] (.ref x :: st) t I L R Q := wp_go rfl
theorem i198_247 {w0 w1 w2 : Value} {x : Int32} : WP V 198 247 [w0, w1, w2, .int x] st t I L R Q = WP V 198 248 [w0, w1, w2, .int x] (.int x :: st) t I L R Q := wp_go rfl
theorem i198_248  : WP V 198 248 ls st t I L R Q = WP V 198 249 ls (.int (nI 1) :: st) t I L R Q := wp_go rfl
theorem i198_249 {x y : Int32} : WP V 198 249 ls (.int y :: .int x :: st) t I L R Q = WP V 198 250 ls (.int (x + y) :: st) t I L R Q := wp_go rfl
theorem i198_250 {j : Nat} (hL : V.1 < 2 ^ 31) (h3 : j < V.1) : WP V 198 250 ls (.int (nI j) :: .ref 1003 :: st) t I L R Q = WP V 198 251 ls (.int (V.2 1003 j) :: st) t I L R Q := wp_sload rfl (by decide) rfl h3 hL
theorem i198_251 {x0 : Int32} {x1 : Nat} {r0 : Int32} (h1 : x1 < t) (h2 : m_ob x1 8 = true) : WP V 198 251 ls [.int x0, .ref x1, .int r0] t I L R Q = WPC V 132 [.ref x1, .int x0] 198 252 ls [.int r0] t I L R Q := wp_cls (wp_icv rfl rfl h1 h2) (by decide) (Nat.le_of_ble_eq_true rfl) rfl rfl (Nat.le_of_ble_eq_true rfl) (Nat.le_of_ble_eq_true rfl)
theorem i198_252 {x y : Int32} : WP V 198 252 ls (.int y :: .int x :: st) t I L R Q = if x = y then WP V 198 558 ls st t I L R Q else WP V 198 253 ls st t I L R Q := wp_br (c := m_cc .eq x y) rfl rfl
theorem i198_253  : WP V 198 253 ls st t I L R Q = WP V 198 254 ls (.int (nI 0) :: st) t I L R Q := wp_go rfl
theorem i198_254 {x : Int32} (h : m_01 x = true) : WP V 198 254 ls [.int x] t I L R Q = Q (some (.int x)) t I L R := wp_rtz rfl rfl h
theorem i198_255 {w0 w2 w3 : Value} {x : Nat} : WP V 198 255 [w0, .ref x, w2, w3] st t I L R Q = WP V 198 256 [w0, .ref x, w2, w3] (.ref x :: st) t I L R Q := wp_go rfl
theorem i198_256 {w1 w2 w3 : Value} {x : Nat} : WP V 198 256 [.ref x, w1, w2, w3] st t I L R Q = WP V 198 257 [.ref x, w1, w2, w3] (.ref x :: st) t I L R Q := wp_go rfl
theorem i198_257 {w0 w1 w2 : Value} {x : Int32} : WP V 198 257 [w0, w1, w2, .int x] st t I L R Q = WP V 198 258 [w0, w1, w2, .int x] (.int x :: st) t I L R Q := wp_go rfl
theorem i198_258  : WP V 198 258 ls st t I L R Q = WP V 198 259 ls (.int (nI 1) :: st) t I L R Q := wp_go rfl
theorem i198_259 {x y : Int32} : WP V 198 259 ls (.int y :: .int x :: st) t I L R Q = WP V 198 260 ls (.int (x + y) :: st) t I L R Q := wp_go rfl
theorem i198_260 {j : Nat} (hL : V.1 < 2 ^ 31) (h3 : j < V.1) : WP V 198 260 ls (.int (nI j) :: .ref 1003 :: st) t I L R Q = WP V 198 261 ls (.int (V.2 1003 j) :: st) t I L R Q := wp_sload rfl (by decide) rfl h3 hL
theorem i198_261 {w1 w2 w3 : Value} {x : Nat} : WP V 198 261 [.ref x, w1, w2, w3] st t I L R Q = WP V 198 262 [.ref x, w1, w2, w3] (.ref x :: st) t I L R Q := wp_go rfl
theorem i198_262 {w0 w1 w2 : Value} {x : Int32} : WP V 198 262 [w0, w1, w2, .int x] st t I L R Q = WP V 198 263 [w0, w1, w2, .int x] (.int x :: st) t I L R Q := wp_go rfl
theorem i198_263  : WP V 198 263 ls st t I L R Q = WP V 198 264 ls (.int (nI 2) :: st) t I L R Q := wp_go rfl
theorem i198_264 {x y : Int32} : WP V 198 264 ls (.int y :: .int x :: st) t I L R Q = WP V 198 265 ls (.int (x + y) :: st) t I L R Q := wp_go rfl
theorem i198_265 {j : Nat} (hL : V.1 < 2 ^ 31) (h3 : j < V.1) : WP V 198 265 ls (.int (nI j) :: .ref 1003 :: st) t I L R Q = WP V 198 266 ls (.int (V.2 1003 j) :: st) t I L R Q := wp_sload rfl (by decide) rfl h3 hL
theorem i198_266 {x0 : Int32} {x1 : Int32} {x2 : Nat}  (h1 : x2 < t) (h2 : m_ob x2 7 = true) : WP V 198 266 ls [.int x0, .int x1, .ref x2] t I L R Q = WPC V 93 [.ref x2, .int x1, .int x0] 198 267 ls [] t I L R Q := wp_cls (wp_icv rfl rfl h1 h2) (by decide) (Nat.le_of_ble_eq_true rfl) rfl rfl (Nat.le_of_ble_eq_true rfl) (Nat.le_of_ble_eq_true rfl)
theorem i198_267 {w0 w1 w3 : Value} {x : Nat} : WP V 198 267 [w0, w1, .ref x, w3] st t I L R Q = WP V 198 268 [w0, w1, .ref x, w3] (.ref x :: st) t I L R Q := wp_go rfl
theorem i198_268 {w1 w2 w3 : Value} {x : Nat} : WP V 198 268 [.ref x, w1, w2, w3] st t I L R Q = WP V 198 269 [.ref x, w1, w2, w3] (.ref x :: st) t I L R Q := wp_go rfl
theorem i198_269 {w0 w1 w2 : Value} {x : Int32} : WP V 198 269 [w0, w1, w2, .int x] st t I L R Q = WP V 198 270 [w0, w1, w2, .int x] (.int x :: st) t I L R Q := wp_go rfl
theorem i198_270  : WP V 198 270 ls st t I L R Q = WP V 198 271 ls (.int (nI 1) :: st) t I L R Q := wp_go rfl
theorem i198_271 {x y : Int32} : WP V 198 271 ls (.int y :: .int x :: st) t I L R Q = WP V 198 272 ls (.int (x + y) :: st) t I L R Q := wp_go rfl
theorem i198_272 {j : Nat} (hL : V.1 < 2 ^ 31) (h3 : j < V.1) : WP V 198 272 ls (.int (nI j) :: .ref 1003 :: st) t I L R Q = WP V 198 273 ls (.int (V.2 1003 j) :: st) t I L R Q := wp_sload rfl (by decide) rfl h3 hL
theorem i198_273 {w1 w2 w3 : Value} {x : Nat} : WP V 198 273 [.ref x, w1, w2, w3] st t I L R Q = WP V 198 274 [.ref x, w1, w2, w3] (.ref x :: st) t I L R Q := wp_go rfl
theorem i198_274 {w0 w1 w2 : Value} {x : Int32} : WP V 198 274 [w0, w1, w2, .int x] st t I L R Q = WP V 198 275 [w0, w1, w2, .int x] (.int x :: st) t I L R Q := wp_go rfl
theorem i198_275  : WP V 198 275 ls st t I L R Q = WP V 198 276 ls (.int (nI 2) :: st) t I L R Q := wp_go rfl
theorem i198_276 {x y : Int32} : WP V 198 276 ls (.int y :: .int x :: st) t I L R Q = WP V 198 277 ls (.int (x + y) :: st) t I L R Q := wp_go rfl
theorem i198_277 {j : Nat} (hL : V.1 < 2 ^ 31) (h3 : j < V.1) : WP V 198 277 ls (.int (nI j) :: .ref 1003 :: st) t I L R Q = WP V 198 278 ls (.int (V.2 1003 j) :: st) t I L R Q := wp_sload rfl (by decide) rfl h3 hL
theorem i198_278 {x0 : Int32} {x1 : Int32} {x2 : Nat} {r0 : Int32} (h1 : x2 < t) (h2 : m_ob x2 8 = true) : WP V 198 278 ls [.int x0, .int x1, .ref x2, .int r0] t I L R Q = WPC V 133 [.ref x2, .int x1, .int x0] 198 279 ls [.int r0] t I L R Q := wp_cls (wp_icv rfl rfl h1 h2) (by decide) (Nat.le_of_ble_eq_true rfl) rfl rfl (Nat.le_of_ble_eq_true rfl) (Nat.le_of_ble_eq_true rfl)
theorem i198_279 {x y : Int32} : WP V 198 279 ls (.int y :: .int x :: st) t I L R Q = if x = y then WP V 198 558 ls st t I L R Q else WP V 198 280 ls st t I L R Q := wp_br (c := m_cc .eq x y) rfl rfl
theorem i198_280  : WP V 198 280 ls st t I L R Q = WP V 198 281 ls (.int (nI 0) :: st) t I L R Q := wp_go rfl
theorem i198_281 {x : Int32} (h : m_01 x = true) : WP V 198 281 ls [.int x] t I L R Q = Q (some (.int x)) t I L R := wp_rtz rfl rfl h
theorem i198_282 {w0 w2 w3 : Value} {x : Nat} : WP V 198 282 [w0, .ref x, w2, w3] st t I L R Q = WP V 198 283 [w0, .ref x, w2, w3] (.ref x :: st) t I L R Q := wp_go rfl
theorem i198_283 {w1 w2 w3 : Value} {x : Nat} : WP V 198 283 [.ref x, w1, w2, w3] st t I L R Q = WP V 198 284 [.ref x, w1, w2, w3] (.ref x :: st) t I L R Q := wp_go rfl
theorem i198_284 {w0 w1 w2 : Value} {x : Int32} : WP V 198 284 [w0, w1, w2, .int x] st t I L R Q = WP V 198 285 [w0, w1, w2, .int x] (.int x :: st) t I L R Q := wp_go rfl
theorem i198_285  : WP V 198 285 ls st t I L R Q = WP V 198 286 ls (.int (nI 1) :: st) t I L R Q := wp_go rfl
theorem i198_286 {x y : Int32} : WP V 198 286 ls (.int y :: .int x :: st) t I L R Q = WP V 198 287 ls (.int (x + y) :: st) t I L R Q := wp_go rfl
theorem i198_287 {j : Nat} (hL : V.1 < 2 ^ 31) (h3 : j < V.1) : WP V 198 287 ls (.int (nI j) :: .ref 1003 :: st) t I L R Q = WP V 198 288 ls (.int (V.2 1003 j) :: st) t I L R Q := wp_sload rfl (by decide) rfl h3 hL
theorem i198_288 {x0 : Int32} {x1 : Nat}  (h1 : x1 < t) (h2 : m_ob x1 7 = true) : WP V 198 288 ls [.int x0, .ref x1] t I L R Q = WPC V 94 [.ref x1, .int x0] 198 289 ls [] t I L R Q := wp_cls (wp_icv rfl rfl h1 h2) (by decide) (Nat.le_of_ble_eq_true rfl) rfl rfl (Nat.le_of_ble_eq_true rfl) (Nat.le_of_ble_eq_true rfl)
theorem i198_289 {w0 w1 w3 : Value} {x : Nat} : WP V 198 289 [w0, w1, .ref x, w3] st t I L R Q = WP V 198 290 [w0, w1, .ref x, w3] (.ref x :: st) t I L R Q := wp_go rfl
theorem i198_290 {w1 w2 w3 : Value} {x : Nat} : WP V 198 290 [.ref x, w1, w2, w3] st t I L R Q = WP V 198 291 [.ref x, w1, w2, w3] (.ref x :: st) t I L R Q := wp_go rfl
theorem i198_291 {w0 w1 w2 : Value} {x : Int32} : WP V 198 291 [w0, w1, w2, .int x] st t I L R Q = WP V 198 292 [w0, w1, w2, .int x] (.int x :: st) t I L R Q := wp_go rfl
theorem i198_292  : WP V 198 292 ls st t I L R Q = WP V 198 293 ls (.int (nI 1) :: st) t I L R Q := wp_go rfl
theorem i198_293 {x y : Int32} : WP V 198 293 ls (.int y :: .int x :: st) t I L R Q = WP V 198 294 ls (.int (x + y) :: st) t I L R Q := wp_go rfl
theorem i198_294 {j : Nat} (hL : V.1 < 2 ^ 31) (h3 : j < V.1) : WP V 198 294 ls (.int (nI j) :: .ref 1003 :: st) t I L R Q = WP V 198 295 ls (.int (V.2 1003 j) :: st) t I L R Q := wp_sload rfl (by decide) rfl h3 hL
theorem i198_295 {x0 : Int32} {x1 : Nat} {r0 : Int32} (h1 : x1 < t) (h2 : m_ob x1 8 = true) : WP V 198 295 ls [.int x0, .ref x1, .int r0] t I L R Q = WPC V 134 [.ref x1, .int x0] 198 296 ls [.int r0] t I L R Q := wp_cls (wp_icv rfl rfl h1 h2) (by decide) (Nat.le_of_ble_eq_true rfl) rfl rfl (Nat.le_of_ble_eq_true rfl) (Nat.le_of_ble_eq_true rfl)
theorem i198_296 {x y : Int32} : WP V 198 296 ls (.int y :: .int x :: st) t I L R Q = if x = y then WP V 198 558 ls st t I L R Q else WP V 198 297 ls st t I L R Q := wp_br (c := m_cc .eq x y) rfl rfl
theorem i198_297  : WP V 198 297 ls st t I L R Q = WP V 198 298 ls (.int (nI 0) :: st) t I L R Q := wp_go rfl
theorem i198_298 {x : Int32} (h : m_01 x = true) : WP V 198 298 ls [.int x] t I L R Q = Q (some (.int x)) t I L R := wp_rtz rfl rfl h
theorem i198_299 {w0 w2 w3 : Value} {x : Nat} : WP V 198 299 [w0, .ref x, w2, w3] st t I L R Q = WP V 198 300 [w0, .ref x, w2, w3] (.ref x :: st) t I L R Q := wp_go rfl
theorem i198_300 {x0 : Nat}  (h1 : x0 < t) (h2 : m_ob x0 7 = true) : WP V 198 300 ls [.ref x0] t I L R Q = WPC V 95 [.ref x0] 198 301 ls [] t I L R Q := wp_cls (wp_icv rfl rfl h1 h2) (by decide) (Nat.le_of_ble_eq_true rfl) rfl rfl (Nat.le_of_ble_eq_true rfl) (Nat.le_of_ble_eq_true rfl)
theorem i198_301 {w0 w1 w3 : Value} {x : Nat} : WP V 198 301 [w0, w1, .ref x, w3] st t I L R Q = WP V 198 302 [w0, w1, .ref x, w3] (.ref x :: st) t I L R Q := wp_go rfl
theorem i198_302 {x0 : Nat} {r0 : Int32} (h1 : x0 < t) (h2 : m_ob x0 8 = true) : WP V 198 302 ls [.ref x0, .int r0] t I L R Q = WPC V 135 [.ref x0] 198 303 ls [.int r0] t I L R Q := wp_cls (wp_icv rfl rfl h1 h2) (by decide) (Nat.le_of_ble_eq_true rfl) rfl rfl (Nat.le_of_ble_eq_true rfl) (Nat.le_of_ble_eq_true rfl)
theorem i198_303 {x y : Int32} : WP V 198 303 ls (.int y :: .int x :: st) t I L R Q = if x = y then WP V 198 558 ls st t I L R Q else WP V 198 304 ls st t I L R Q := wp_br (c := m_cc .eq x y) rfl rfl
theorem i198_304  : WP V 198 304 ls st t I L R Q = WP V 198 305 ls (.int (nI 0) :: st) t I L R Q := wp_go rfl
theorem i198_305 {x : Int32} (h : m_01 x = true) : WP V 198 305 ls [.int x] t I L R Q = Q (some (.int x)) t I L R := wp_rtz rfl rfl h
theorem i198_306 {w0 w2 w3 : Value} {x : Nat} : WP V 198 306 [w0, .ref x, w2, w3] st t I L R Q = WP V 198 307 [w0, .ref x, w2, w3] (.ref x :: st) t I L R Q := wp_go rfl
theorem i198_307 {w1 w2 w3 : Value} {x : Nat} : WP V 198 307 [.ref x, w1, w2, w3] st t I L R Q = WP V 198 308 [.ref x, w1, w2, w3] (.ref x :: st) t I L R Q := wp_go rfl
theorem i198_308 {w0 w1 w2 : Value} {x : Int32} : WP V 198 308 [w0, w1, w2, .int x] st t I L R Q = WP V 198 309 [w0, w1, w2, .int x] (.int x :: st) t I L R Q := wp_go rfl
theorem i198_309  : WP V 198 309 ls st t I L R Q = WP V 198 310 ls (.int (nI 1) :: st) t I L R Q := wp_go rfl
theorem i198_310 {x y : Int32} : WP V 198 310 ls (.int y :: .int x :: st) t I L R Q = WP V 198 311 ls (.int (x + y) :: st) t I L R Q := wp_go rfl
theorem i198_311 {j : Nat} (hL : V.1 < 2 ^ 31) (h3 : j < V.1) : WP V 198 311 ls (.int (nI j) :: .ref 1003 :: st) t I L R Q = WP V 198 312 ls (.int (V.2 1003 j) :: st) t I L R Q := wp_sload rfl (by decide) rfl h3 hL
theorem i198_312 {x0 : Int32} {x1 : Nat}  (h1 : x1 < t) (h2 : m_ob x1 7 = true) : WP V 198 312 ls [.int x0, .ref x1] t I L R Q = WPC V 96 [.ref x1, .int x0] 198 313 ls [] t I L R Q := wp_cls (wp_icv rfl rfl h1 h2) (by decide) (Nat.le_of_ble_eq_true rfl) rfl rfl (Nat.le_of_ble_eq_true rfl) (Nat.le_of_ble_eq_true rfl)
theorem i198_313 {w0 w1 w3 : Value} {x : Nat} : WP V 198 313 [w0, w1, .ref x, w3] st t I L R Q = WP V 198 314 [w0, w1, .ref x, w3] (.ref x :: st) t I L R Q := wp_go rfl
theorem i198_314 {w1 w2 w3 : Value} {x : Nat} : WP V 198 314 [.ref x, w1, w2, w3] st t I L R Q = WP V 198 315 [.ref x, w1, w2, w3] (.ref x :: st) t I L R Q := wp_go rfl
theorem i198_315 {w0 w1 w2 : Value} {x : Int32} : WP V 198 315 [w0, w1, w2, .int x] st t I L R Q = WP V 198 316 [w0, w1, w2, .int x] (.int x :: st) t I L R Q := wp_go rfl
theorem i198_316  : WP V 198 316 ls st t I L R Q = WP V 198 317 ls (.int (nI 1) :: st) t I L R Q := wp_go rfl
theorem i198_317 {x y : Int32} : WP V 198 317 ls (.int y :: .int x :: st) t I L R Q = WP V 198 318 ls (.int (x + y) :: st) t I L R Q := wp_go rfl
theorem i198_318 {j : Nat} (hL : V.1 < 2 ^ 31) (h3 : j < V.1) : WP V 198 318 ls (.int (nI j) :: .ref 1003 :: st) t I L R Q = WP V 198 319 ls (.int (V.2 1003 j) :: st) t I L R Q := wp_sload rfl (by decide) rfl h3 hL
theorem i198_319 {x0 : Int32} {x1 : Nat} {r0 : Int32} (h1 : x1 < t) (h2 : m_ob x1 8 = true) : WP V 198 319 ls [.int x0, .ref x1, .int r0] t I L R Q = WPC V 170 [.ref x1, .int x0] 198 320 ls [.int r0] t I L R Q := wp_cls (wp_icv rfl rfl h1 h2) (by decide) (Nat.le_of_ble_eq_true rfl) rfl rfl (Nat.le_of_ble_eq_true rfl) (Nat.le_of_ble_eq_true rfl)
theorem i198_320 {x y : Int32} : WP V 198 320 ls (.int y :: .int x :: st) t I L R Q = if x = y then WP V 198 558 ls st t I L R Q else WP V 198 321 ls st t I L R Q := wp_br (c := m_cc .eq x y) rfl rfl
theorem i198_321  : WP V 198 321 ls st t I L R Q = WP V 198 322 ls (.int (nI 0) :: st) t I L R Q := wp_go rfl
theorem i198_322 {x : Int32} (h : m_01 x = true) : WP V 198 322 ls [.int x] t I L R Q = Q (some (.int x)) t I L R := wp_rtz rfl rfl h
theorem i198_323 {w0 w2 w3 : Value} {x : Nat} : WP V 198 323 [w0, .ref x, w2, w3] st t I L R Q = WP V 198 324 [w0, .ref x, w2, w3] (.ref x :: st) t I L R Q := wp_go rfl
theorem i198_324 {w1 w2 w3 : Value} {x : Nat} : WP V 198 324 [.ref x, w1, w2, w3] st t I L R Q = WP V 198 325 [.ref x, w1, w2, w3] (.ref x :: st) t I L R Q := wp_go rfl
theorem i198_325 {w0 w1 w2 : Value} {x : Int32} : WP V 198 325 [w0, w1, w2, .int x] st t I L R Q = WP V 198 326 [w0, w1, w2, .int x] (.int x :: st) t I L R Q := wp_go rfl
theorem i198_326  : WP V 198 326 ls st t I L R Q = WP V 198 327 ls (.int (nI 1) :: st) t I L R Q := wp_go rfl
theorem i198_327 {x y : Int32} : WP V 198 327 ls (.int y :: .int x :: st) t I L R Q = WP V 198 328 ls (.int (x + y) :: st) t I L R Q := wp_go rfl
theorem i198_328 {j : Nat} (hL : V.1 < 2 ^ 31) (h3 : j < V.1) : WP V 198 328 ls (.int (nI j) :: .ref 1003 :: st) t I L R Q = WP V 198 329 ls (.int (V.2 1003 j) :: st) t I L R Q := wp_sload rfl (by decide) rfl h3 hL
theorem i198_329 {w1 w2 w3 : Value} {x : Nat} : WP V 198 329 [.ref x, w1, w2, w3] st t I L R Q = WP V 198 330 [.ref x, w1, w2, w3] (.ref x :: st) t I L R Q := wp_go rfl
theorem i198_330 {w0 w1 w2 : Value} {x : Int32} : WP V 198 330 [w0, w1, w2, .int x] st t I L R Q = WP V 198 331 [w0, w1, w2, .int x] (.int x :: st) t I L R Q := wp_go rfl
theorem i198_331  : WP V 198 331 ls st t I L R Q = WP V 198 332 ls (.int (nI 2) :: st) t I L R Q := wp_go rfl
theorem i198_332 {x y : Int32} : WP V 198 332 ls (.int y :: .int x :: st) t I L R Q = WP V 198 333 ls (.int (x + y) :: st) t I L R Q := wp_go rfl
theorem i198_333 {j : Nat} (hL : V.1 < 2 ^ 31) (h3 : j < V.1) : WP V 198 333 ls (.int (nI j) :: .ref 1003 :: st) t I L R Q = WP V 198 334 ls (.int (V.2 1003 j) :: st) t I L R Q := wp_sload rfl (by decide) rfl h3 hL
theorem i198_334 {x0 : Int32} {x1 : Int32} {x2 : Nat}  (h1 : x2 < t) (h2 : m_ob x2 7 = true) : WP V 198 334 ls [.int x0, .int x1, .ref x2] t I L R Q = WPC V 97 [.ref x2, .int x1, .int x0] 198 335 ls [] t I L R Q := wp_cls (wp_icv rfl rfl h1 h2) (by decide) (Nat.le_of_ble_eq_true rfl) rfl rfl (Nat.le_of_ble_eq_true rfl) (Nat.le_of_ble_eq_true rfl)
theorem i198_335 {w0 w1 w3 : Value} {x : Nat} : WP V 198 335 [w0, w1, .ref x, w3] st t I L R Q = WP V 198 336 [w0, w1, .ref x, w3] (.ref x :: st) t I L R Q := wp_go rfl
theorem i198_336 {w1 w2 w3 : Value} {x : Nat} : WP V 198 336 [.ref x, w1, w2, w3] st t I L R Q = WP V 198 337 [.ref x, w1, w2, w3] (.ref x :: st) t I L R Q := wp_go rfl
theorem i198_337 {w0 w1 w2 : Value} {x : Int32} : WP V 198 337 [w0, w1, w2, .int x] st t I L R Q = WP V 198 338 [w0, w1, w2, .int x] (.int x :: st) t I L R Q := wp_go rfl
theorem i198_338  : WP V 198 338 ls st t I L R Q = WP V 198 339 ls (.int (nI 1) :: st) t I L R Q := wp_go rfl
theorem i198_339 {x y : Int32} : WP V 198 339 ls (.int y :: .int x :: st) t I L R Q = WP V 198 340 ls (.int (x + y) :: st) t I L R Q := wp_go rfl
theorem i198_340 {j : Nat} (hL : V.1 < 2 ^ 31) (h3 : j < V.1) : WP V 198 340 ls (.int (nI j) :: .ref 1003 :: st) t I L R Q = WP V 198 341 ls (.int (V.2 1003 j) :: st) t I L R Q := wp_sload rfl (by decide) rfl h3 hL
theorem i198_341 {w1 w2 w3 : Value} {x : Nat} : WP V 198 341 [.ref x, w1, w2, w3] st t I L R Q = WP V 198 342 [.ref x, w1, w2, w3] (.ref x :: st) t I L R Q := wp_go rfl
theorem i198_342 {w0 w1 w2 : Value} {x : Int32} : WP V 198 342 [w0, w1, w2, .int x] st t I L R Q = WP V 198 343 [w0, w1, w2, .int x] (.int x :: st) t I L R Q := wp_go rfl
theorem i198_343  : WP V 198 343 ls st t I L R Q = WP V 198 344 ls (.int (nI 2) :: st) t I L R Q := wp_go rfl
theorem i198_344 {x y : Int32} : WP V 198 344 ls (.int y :: .int x :: st) t I L R Q = WP V 198 345 ls (.int (x + y) :: st) t I L R Q := wp_go rfl
theorem i198_345 {j : Nat} (hL : V.1 < 2 ^ 31) (h3 : j < V.1) : WP V 198 345 ls (.int (nI j) :: .ref 1003 :: st) t I L R Q = WP V 198 346 ls (.int (V.2 1003 j) :: st) t I L R Q := wp_sload rfl (by decide) rfl h3 hL
theorem i198_346 {x0 : Int32} {x1 : Int32} {x2 : Nat} {r0 : Int32} (h1 : x2 < t) (h2 : m_ob x2 8 = true) : WP V 198 346 ls [.int x0, .int x1, .ref x2, .int r0] t I L R Q = WPC V 171 [.ref x2, .int x1, .int x0] 198 347 ls [.int r0] t I L R Q := wp_cls (wp_icv rfl rfl h1 h2) (by decide) (Nat.le_of_ble_eq_true rfl) rfl rfl (Nat.le_of_ble_eq_true rfl) (Nat.le_of_ble_eq_true rfl)
theorem i198_347 {x y : Int32} : WP V 198 347 ls (.int y :: .int x :: st) t I L R Q = if x = y then WP V 198 558 ls st t I L R Q else WP V 198 348 ls st t I L R Q := wp_br (c := m_cc .eq x y) rfl rfl
theorem i198_348  : WP V 198 348 ls st t I L R Q = WP V 198 349 ls (.int (nI 0) :: st) t I L R Q := wp_go rfl
theorem i198_349 {x : Int32} (h : m_01 x = true) : WP V 198 349 ls [.int x] t I L R Q = Q (some (.int x)) t I L R := wp_rtz rfl rfl h
theorem i198_350 {w0 w2 w3 : Value} {x : Nat} : WP V 198 350 [w0, .ref x, w2, w3] st t I L R Q = WP V 198 351 [w0, .ref x, w2, w3] (.ref x :: st) t I L R Q := wp_go rfl
theorem i198_351 {w1 w2 w3 : Value} {x : Nat} : WP V 198 351 [.ref x, w1, w2, w3] st t I L R Q = WP V 198 352 [.ref x, w1, w2, w3] (.ref x :: st) t I L R Q := wp_go rfl
theorem i198_352 {w0 w1 w2 : Value} {x : Int32} : WP V 198 352 [w0, w1, w2, .int x] st t I L R Q = WP V 198 353 [w0, w1, w2, .int x] (.int x :: st) t I L R Q := wp_go rfl
theorem i198_353  : WP V 198 353 ls st t I L R Q = WP V 198 354 ls (.int (nI 1) :: st) t I L R Q := wp_go rfl
theorem i198_354 {x y : Int32} : WP V 198 354 ls (.int y :: .int x :: st) t I L R Q = WP V 198 355 ls (.int (x + y) :: st) t I L R Q := wp_go rfl
theorem i198_355 {j : Nat} (hL : V.1 < 2 ^ 31) (h3 : j < V.1) : WP V 198 355 ls (.int (nI j) :: .ref 1003 :: st) t I L R Q = WP V 198 356 ls (.int (V.2 1003 j) :: st) t I L R Q := wp_sload rfl (by decide) rfl h3 hL
theorem i198_356 {x0 : Int32} {x1 : Nat}  (h1 : x1 < t) (h2 : m_ob x1 7 = true) : WP V 198 356 ls [.int x0, .ref x1] t I L R Q = WPC V 98 [.ref x1, .int x0] 198 357 ls [] t I L R Q := wp_cls (wp_icv rfl rfl h1 h2) (by decide) (Nat.le_of_ble_eq_true rfl) rfl rfl (Nat.le_of_ble_eq_true rfl) (Nat.le_of_ble_eq_true rfl)
theorem i198_357 {w0 w1 w3 : Value} {x : Nat} : WP V 198 357 [w0, w1, .ref x, w3] st t I L R Q = WP V 198 358 [w0, w1, .ref x, w3] (.ref x :: st) t I L R Q := wp_go rfl
theorem i198_358 {w1 w2 w3 : Value} {x : Nat} : WP V 198 358 [.ref x, w1, w2, w3] st t I L R Q = WP V 198 359 [.ref x, w1, w2, w3] (.ref x :: st) t I L R Q := wp_go rfl
theorem i198_359 {w0 w1 w2 : Value} {x : Int32} : WP V 198 359 [w0, w1, w2, .int x] st t I L R Q = WP V 198 360 [w0, w1, w2, .int x] (.int x :: st) t I L R Q := wp_go rfl
theorem i198_360  : WP V 198 360 ls st t I L R Q = WP V 198 361 ls (.int (nI 1) :: st) t I L R Q := wp_go rfl
theorem i198_361 {x y : Int32} : WP V 198 361 ls (.int y :: .int x :: st) t I L R Q = WP V 198 362 ls (.int (x + y) :: st) t I L R Q := wp_go rfl
theorem i198_362 {j : Nat} (hL : V.1 < 2 ^ 31) (h3 : j < V.1) : WP V 198 362 ls (.int (nI j) :: .ref 1003 :: st) t I L R Q = WP V 198 363 ls (.int (V.2 1003 j) :: st) t I L R Q := wp_sload rfl (by decide) rfl h3 hL
theorem i198_363 {x0 : Int32} {x1 : Nat} {r0 : Int32} (h1 : x1 < t) (h2 : m_ob x1 8 = true) : WP V 198 363 ls [.int x0, .ref x1, .int r0] t I L R Q = WPC V 179 [.ref x1, .int x0] 198 364 ls [.int r0] t I L R Q := wp_cls (wp_icv rfl rfl h1 h2) (by decide) (Nat.le_of_ble_eq_true rfl) rfl rfl (Nat.le_of_ble_eq_true rfl) (Nat.le_of_ble_eq_true rfl)
theorem i198_364 {x y : Int32} : WP V 198 364 ls (.int y :: .int x :: st) t I L R Q = if x = y then WP V 198 558 ls st t I L R Q else WP V 198 365 ls st t I L R Q := wp_br (c := m_cc .eq x y) rfl rfl
theorem i198_365  : WP V 198 365 ls st t I L R Q = WP V 198 366 ls (.int (nI 0) :: st) t I L R Q := wp_go rfl
theorem i198_366 {x : Int32} (h : m_01 x = true) : WP V 198 366 ls [.int x] t I L R Q = Q (some (.int x)) t I L R := wp_rtz rfl rfl h
theorem i198_367 {w0 w2 w3 : Value} {x : Nat} : WP V 198 367 [w0, .ref x, w2, w3] st t I L R Q = WP V 198 368 [w0, .ref x, w2, w3] (.ref x :: st) t I L R Q := wp_go rfl
theorem i198_368 {w1 w2 w3 : Value} {x : Nat} : WP V 198 368 [.ref x, w1, w2, w3] st t I L R Q = WP V 198 369 [.ref x, w1, w2, w3] (.ref x :: st) t I L R Q := wp_go rfl
theorem i198_369 {w0 w1 w2 : Value} {x : Int32} : WP V 198 369 [w0, w1, w2, .int x] st t I L R Q = WP V 198 370 [w0, w1, w2, .int x] (.int x :: st) t I L R Q := wp_go rfl
theorem i198_370  : WP V 198 370 ls st t I L R Q = WP V 198 371 ls (.int (nI 1) :: st) t I L R Q := wp_go rfl
theorem i198_371 {x y : Int32} : WP V 198 371 ls (.int y :: .int x :: st) t I L R Q = WP V 198 372 ls (.int (x + y) :: st) t I L R Q := wp_go rfl
theorem i198_372 {j : Nat} (hL : V.1 < 2 ^ 31) (h3 : j < V.1) : WP V 198 372 ls (.int (nI j) :: .ref 1003 :: st) t I L R Q = WP V 198 373 ls (.int (V.2 1003 j) :: st) t I L R Q := wp_sload rfl (by decide) rfl h3 hL
theorem i198_373 {w1 w2 w3 : Value} {x : Nat} : WP V 198 373 [.ref x, w1, w2, w3] st t I L R Q = WP V 198 374 [.ref x, w1, w2, w3] (.ref x :: st) t I L R Q := wp_go rfl
theorem i198_374 {w0 w1 w2 : Value} {x : Int32} : WP V 198 374 [w0, w1, w2, .int x] st t I L R Q = WP V 198 375 [w0, w1, w2, .int x] (.int x :: st) t I L R Q := wp_go rfl
theorem i198_375  : WP V 198 375 ls st t I L R Q = WP V 198 376 ls (.int (nI 2) :: st) t I L R Q := wp_go rfl
theorem i198_376 {x y : Int32} : WP V 198 376 ls (.int y :: .int x :: st) t I L R Q = WP V 198 377 ls (.int (x + y) :: st) t I L R Q := wp_go rfl
theorem i198_377 {j : Nat} (hL : V.1 < 2 ^ 31) (h3 : j < V.1) : WP V 198 377 ls (.int (nI j) :: .ref 1003 :: st) t I L R Q = WP V 198 378 ls (.int (V.2 1003 j) :: st) t I L R Q := wp_sload rfl (by decide) rfl h3 hL
theorem i198_378 {x0 : Int32} {x1 : Int32} {x2 : Nat}  (h1 : x2 < t) (h2 : m_ob x2 7 = true) : WP V 198 378 ls [.int x0, .int x1, .ref x2] t I L R Q = WPC V 99 [.ref x2, .int x1, .int x0] 198 379 ls [] t I L R Q := wp_cls (wp_icv rfl rfl h1 h2) (by decide) (Nat.le_of_ble_eq_true rfl) rfl rfl (Nat.le_of_ble_eq_true rfl) (Nat.le_of_ble_eq_true rfl)
theorem i198_379 {w0 w1 w3 : Value} {x : Nat} : WP V 198 379 [w0, w1, .ref x, w3] st t I L R Q = WP V 198 380 [w0, w1, .ref x, w3] (.ref x :: st) t I L R Q := wp_go rfl
theorem i198_380 {w1 w2 w3 : Value} {x : Nat} : WP V 198 380 [.ref x, w1, w2, w3] st t I L R Q = WP V 198 381 [.ref x, w1, w2, w3] (.ref x :: st) t I L R Q := wp_go rfl
theorem i198_381 {w0 w1 w2 : Value} {x : Int32} : WP V 198 381 [w0, w1, w2, .int x] st t I L R Q = WP V 198 382 [w0, w1, w2, .int x] (.int x :: st) t I L R Q := wp_go rfl
theorem i198_382  : WP V 198 382 ls st t I L R Q = WP V 198 383 ls (.int (nI 1) :: st) t I L R Q := wp_go rfl
theorem i198_383 {x y : Int32} : WP V 198 383 ls (.int y :: .int x :: st) t I L R Q = WP V 198 384 ls (.int (x + y) :: st) t I L R Q := wp_go rfl
theorem i198_384 {j : Nat} (hL : V.1 < 2 ^ 31) (h3 : j < V.1) : WP V 198 384 ls (.int (nI j) :: .ref 1003 :: st) t I L R Q = WP V 198 385 ls (.int (V.2 1003 j) :: st) t I L R Q := wp_sload rfl (by decide) rfl h3 hL
theorem i198_385 {w1 w2 w3 : Value} {x : Nat} : WP V 198 385 [.ref x, w1, w2, w3] st t I L R Q = WP V 198 386 [.ref x, w1, w2, w3] (.ref x :: st) t I L R Q := wp_go rfl
theorem i198_386 {w0 w1 w2 : Value} {x : Int32} : WP V 198 386 [w0, w1, w2, .int x] st t I L R Q = WP V 198 387 [w0, w1, w2, .int x] (.int x :: st) t I L R Q := wp_go rfl
theorem i198_387  : WP V 198 387 ls st t I L R Q = WP V 198 388 ls (.int (nI 2) :: st) t I L R Q := wp_go rfl
theorem i198_388 {x y : Int32} : WP V 198 388 ls (.int y :: .int x :: st) t I L R Q = WP V 198 389 ls (.int (x + y) :: st) t I L R Q := wp_go rfl
theorem i198_389 {j : Nat} (hL : V.1 < 2 ^ 31) (h3 : j < V.1) : WP V 198 389 ls (.int (nI j) :: .ref 1003 :: st) t I L R Q = WP V 198 390 ls (.int (V.2 1003 j) :: st) t I L R Q := wp_sload rfl (by decide) rfl h3 hL
theorem i198_390 {x0 : Int32} {x1 : Int32} {x2 : Nat} {r0 : Int32} (h1 : x2 < t) (h2 : m_ob x2 8 = true) : WP V 198 390 ls [.int x0, .int x1, .ref x2, .int r0] t I L R Q = WPC V 181 [.ref x2, .int x1, .int x0] 198 391 ls [.int r0] t I L R Q := wp_cls (wp_icv rfl rfl h1 h2) (by decide) (Nat.le_of_ble_eq_true rfl) rfl rfl (Nat.le_of_ble_eq_true rfl) (Nat.le_of_ble_eq_true rfl)
theorem i198_391 {x y : Int32} : WP V 198 391 ls (.int y :: .int x :: st) t I L R Q = if x = y then WP V 198 558 ls st t I L R Q else WP V 198 392 ls st t I L R Q := wp_br (c := m_cc .eq x y) rfl rfl
theorem i198_392  : WP V 198 392 ls st t I L R Q = WP V 198 393 ls (.int (nI 0) :: st) t I L R Q := wp_go rfl
theorem i198_393 {x : Int32} (h : m_01 x = true) : WP V 198 393 ls [.int x] t I L R Q = Q (some (.int x)) t I L R := wp_rtz rfl rfl h
theorem i198_394 {w0 w2 w3 : Value} {x : Nat} : WP V 198 394 [w0, .ref x, w2, w3] st t I L R Q = WP V 198 395 [w0, .ref x, w2, w3] (.ref x :: st) t I L R Q := wp_go rfl
theorem i198_395 {w1 w2 w3 : Value} {x : Nat} : WP V 198 395 [.ref x, w1, w2, w3] st t I L R Q = WP V 198 396 [.ref x, w1, w2, w3] (.ref x :: st) t I L R Q := wp_go rfl
theorem i198_396 {w0 w1 w2 : Value} {x : Int32} : WP V 198 396 [w0, w1, w2, .int x] st t I L R Q = WP V 198 397 [w0, w1, w2, .int x] (.int x :: st) t I L R Q := wp_go rfl
theorem i198_397  : WP V 198 397 ls st t I L R Q = WP V 198 398 ls (.int (nI 1) :: st) t I L R Q := wp_go rfl
theorem i198_398 {x y : Int32} : WP V 198 398 ls (.int y :: .int x :: st) t I L R Q = WP V 198 399 ls (.int (x + y) :: st) t I L R Q := wp_go rfl
theorem i198_399 {j : Nat} (hL : V.1 < 2 ^ 31) (h3 : j < V.1) : WP V 198 399 ls (.int (nI j) :: .ref 1003 :: st) t I L R Q = WP V 198 400 ls (.int (V.2 1003 j) :: st) t I L R Q := wp_sload rfl (by decide) rfl h3 hL
theorem i198_400 {w1 w2 w3 : Value} {x : Nat} : WP V 198 400 [.ref x, w1, w2, w3] st t I L R Q = WP V 198 401 [.ref x, w1, w2, w3] (.ref x :: st) t I L R Q := wp_go rfl
theorem i198_401 {w0 w1 w2 : Value} {x : Int32} : WP V 198 401 [w0, w1, w2, .int x] st t I L R Q = WP V 198 402 [w0, w1, w2, .int x] (.int x :: st) t I L R Q := wp_go rfl
theorem i198_402  : WP V 198 402 ls st t I L R Q = WP V 198 403 ls (.int (nI 2) :: st) t I L R Q := wp_go rfl
theorem i198_403 {x y : Int32} : WP V 198 403 ls (.int y :: .int x :: st) t I L R Q = WP V 198 404 ls (.int (x + y) :: st) t I L R Q := wp_go rfl
theorem i198_404 {j : Nat} (hL : V.1 < 2 ^ 31) (h3 : j < V.1) : WP V 198 404 ls (.int (nI j) :: .ref 1003 :: st) t I L R Q = WP V 198 405 ls (.int (V.2 1003 j) :: st) t I L R Q := wp_sload rfl (by decide) rfl h3 hL
theorem i198_405 {x0 : Int32} {x1 : Int32} {x2 : Nat}  (h1 : x2 < t) (h2 : m_ob x2 7 = true) : WP V 198 405 ls [.int x0, .int x1, .ref x2] t I L R Q = WPC V 100 [.ref x2, .int x1, .int x0] 198 406 ls [] t I L R Q := wp_cls (wp_icv rfl rfl h1 h2) (by decide) (Nat.le_of_ble_eq_true rfl) rfl rfl (Nat.le_of_ble_eq_true rfl) (Nat.le_of_ble_eq_true rfl)
theorem i198_406 {w0 w1 w3 : Value} {x : Nat} : WP V 198 406 [w0, w1, .ref x, w3] st t I L R Q = WP V 198 407 [w0, w1, .ref x, w3] (.ref x :: st) t I L R Q := wp_go rfl
theorem i198_407 {w1 w2 w3 : Value} {x : Nat} : WP V 198 407 [.ref x, w1, w2, w3] st t I L R Q = WP V 198 408 [.ref x, w1, w2, w3] (.ref x :: st) t I L R Q := wp_go rfl
theorem i198_408 {w0 w1 w2 : Value} {x : Int32} : WP V 198 408 [w0, w1, w2, .int x] st t I L R Q = WP V 198 409 [w0, w1, w2, .int x] (.int x :: st) t I L R Q := wp_go rfl
theorem i198_409  : WP V 198 409 ls st t I L R Q = WP V 198 410 ls (.int (nI 1) :: st) t I L R Q := wp_go rfl
theorem i198_410 {x y : Int32} : WP V 198 410 ls (.int y :: .int x :: st) t I L R Q = WP V 198 411 ls (.int (x + y) :: st) t I L R Q := wp_go rfl
theorem i198_411 {j : Nat} (hL : V.1 < 2 ^ 31) (h3 : j < V.1) : WP V 198 411 ls (.int (nI j) :: .ref 1003 :: st) t I L R Q = WP V 198 412 ls (.int (V.2 1003 j) :: st) t I L R Q := wp_sload rfl (by decide) rfl h3 hL
theorem i198_412 {w1 w2 w3 : Value} {x : Nat} : WP V 198 412 [.ref x, w1, w2, w3] st t I L R Q = WP V 198 413 [.ref x, w1, w2, w3] (.ref x :: st) t I L R Q := wp_go rfl
theorem i198_413 {w0 w1 w2 : Value} {x : Int32} : WP V 198 413 [w0, w1, w2, .int x] st t I L R Q = WP V 198 414 [w0, w1, w2, .int x] (.int x :: st) t I L R Q := wp_go rfl
theorem i198_414  : WP V 198 414 ls st t I L R Q = WP V 198 415 ls (.int (nI 2) :: st) t I L R Q := wp_go rfl
theorem i198_415 {x y : Int32} : WP V 198 415 ls (.int y :: .int x :: st) t I L R Q = WP V 198 416 ls (.int (x + y) :: st) t I L R Q := wp_go rfl
theorem i198_416 {j : Nat} (hL : V.1 < 2 ^ 31) (h3 : j < V.1) : WP V 198 416 ls (.int (nI j) :: .ref 1003 :: st) t I L R Q = WP V 198 417 ls (.int (V.2 1003 j) :: st) t I L R Q := wp_sload rfl (by decide) rfl h3 hL
theorem i198_417 {x0 : Int32} {x1 : Int32} {x2 : Nat} {r0 : Int32} (h1 : x2 < t) (h2 : m_ob x2 8 = true) : WP V 198 417 ls [.int x0, .int x1, .ref x2, .int r0] t I L R Q = WPC V 182 [.ref x2, .int x1, .int x0] 198 418 ls [.int r0] t I L R Q := wp_cls (wp_icv rfl rfl h1 h2) (by decide) (Nat.le_of_ble_eq_true rfl) rfl rfl (Nat.le_of_ble_eq_true rfl) (Nat.le_of_ble_eq_true rfl)
theorem i198_418 {x y : Int32} : WP V 198 418 ls (.int y :: .int x :: st) t I L R Q = if x = y then WP V 198 558 ls st t I L R Q else WP V 198 419 ls st t I L R Q := wp_br (c := m_cc .eq x y) rfl rfl
theorem i198_419  : WP V 198 419 ls st t I L R Q = WP V 198 420 ls (.int (nI 0) :: st) t I L R Q := wp_go rfl
theorem i198_420 {x : Int32} (h : m_01 x = true) : WP V 198 420 ls [.int x] t I L R Q = Q (some (.int x)) t I L R := wp_rtz rfl rfl h
theorem i198_421 {w0 w2 w3 : Value} {x : Nat} : WP V 198 421 [w0, .ref x, w2, w3] st t I L R Q = WP V 198 422 [w0, .ref x, w2, w3] (.ref x :: st) t I L R Q := wp_go rfl
theorem i198_422 {w1 w2 w3 : Value} {x : Nat} : WP V 198 422 [.ref x, w1, w2, w3] st t I L R Q = WP V 198 423 [.ref x, w1, w2, w3] (.ref x :: st) t I L R Q := wp_go rfl
theorem i198_423 {w0 w1 w2 : Value} {x : Int32} : WP V 198 423 [w0, w1, w2, .int x] st t I L R Q = WP V 198 424 [w0, w1, w2, .int x] (.int x :: st) t I L R Q := wp_go rfl
theorem i198_424  : WP V 198 424 ls st t I L R Q = WP V 198 425 ls (.int (nI 1) :: st) t I L R Q := wp_go rfl
theorem i198_425 {x y : Int32} : WP V 198 425 ls (.int y :: .int x :: st) t I L R Q = WP V 198 426 ls (.int (x + y) :: st) t I L R Q := wp_go rfl
theorem i198_426 {j : Nat} (hL : V.1 < 2 ^ 31) (h3 : j < V.1) : WP V 198 426 ls (.int (nI j) :: .ref 1003 :: st) t I L R Q = WP V 198 427 ls (.int (V.2 1003 j) :: st) t I L R Q := wp_sload rfl (by decide) rfl h3 hL
theorem i198_427 {w1 w2 w3 : Value} {x : Nat} : WP V 198 427 [.ref x, w1, w2, w3] st t I L R Q = WP V 198 428 [.ref x, w1, w2, w3] (.ref x :: st) t I L R Q := wp_go rfl
theorem i198_428 {w0 w1 w2 : Value} {x : Int32} : WP V 198 428 [w0, w1, w2, .int x] st t I L R Q = WP V 198 429 [w0, w1, w2, .int x] (.int x :: st) t I L R Q := wp_go rfl
theorem i198_429  : WP V 198 429 ls st t I L R Q = WP V 198 430 ls (.int (nI 2) :: st) t I L R Q := wp_go rfl
theorem i198_430 {x y : Int32} : WP V 198 430 ls (.int y :: .int x :: st) t I L R Q = WP V 198 431 ls (.int (x + y) :: st) t I L R Q := wp_go rfl
theorem i198_431 {j : Nat} (hL : V.1 < 2 ^ 31) (h3 : j < V.1) : WP V 198 431 ls (.int (nI j) :: .ref 1003 :: st) t I L R Q = WP V 198 432 ls (.int (V.2 1003 j) :: st) t I L R Q := wp_sload rfl (by decide) rfl h3 hL
theorem i198_432 {x0 : Int32} {x1 : Int32} {x2 : Nat}  (h1 : x2 < t) (h2 : m_ob x2 7 = true) : WP V 198 432 ls [.int x0, .int x1, .ref x2] t I L R Q = WPC V 101 [.ref x2, .int x1, .int x0] 198 433 ls [] t I L R Q := wp_cls (wp_icv rfl rfl h1 h2) (by decide) (Nat.le_of_ble_eq_true rfl) rfl rfl (Nat.le_of_ble_eq_true rfl) (Nat.le_of_ble_eq_true rfl)
theorem i198_433 {w0 w1 w3 : Value} {x : Nat} : WP V 198 433 [w0, w1, .ref x, w3] st t I L R Q = WP V 198 434 [w0, w1, .ref x, w3] (.ref x :: st) t I L R Q := wp_go rfl
theorem i198_434 {w1 w2 w3 : Value} {x : Nat} : WP V 198 434 [.ref x, w1, w2, w3] st t I L R Q = WP V 198 435 [.ref x, w1, w2, w3] (.ref x :: st) t I L R Q := wp_go rfl
theorem i198_435 {w0 w1 w2 : Value} {x : Int32} : WP V 198 435 [w0, w1, w2, .int x] st t I L R Q = WP V 198 436 [w0, w1, w2, .int x] (.int x :: st) t I L R Q := wp_go rfl
theorem i198_436  : WP V 198 436 ls st t I L R Q = WP V 198 437 ls (.int (nI 1) :: st) t I L R Q := wp_go rfl
theorem i198_437 {x y : Int32} : WP V 198 437 ls (.int y :: .int x :: st) t I L R Q = WP V 198 438 ls (.int (x + y) :: st) t I L R Q := wp_go rfl
theorem i198_438 {j : Nat} (hL : V.1 < 2 ^ 31) (h3 : j < V.1) : WP V 198 438 ls (.int (nI j) :: .ref 1003 :: st) t I L R Q = WP V 198 439 ls (.int (V.2 1003 j) :: st) t I L R Q := wp_sload rfl (by decide) rfl h3 hL
theorem i198_439 {w1 w2 w3 : Value} {x : Nat} : WP V 198 439 [.ref x, w1, w2, w3] st t I L R Q = WP V 198 440 [.ref x, w1, w2, w3] (.ref x :: st) t I L R Q := wp_go rfl
theorem i198_440 {w0 w1 w2 : Value} {x : Int32} : WP V 198 440 [w0, w1, w2, .int x] st t I L R Q = WP V 198 441 [w0, w1, w2, .int x] (.int x :: st) t I L R Q := wp_go rfl
theorem i198_441  : WP V 198 441 ls st t I L R Q = WP V 198 442 ls (.int (nI 2) :: st) t I L R Q := wp_go rfl
theorem i198_442 {x y : Int32} : WP V 198 442 ls (.int y :: .int x :: st) t I L R Q = WP V 198 443 ls (.int (x + y) :: st) t I L R Q := wp_go rfl
theorem i198_443 {j : Nat} (hL : V.1 < 2 ^ 31) (h3 : j < V.1) : WP V 198 443 ls (.int (nI j) :: .ref 1003 :: st) t I L R Q = WP V 198 444 ls (.int (V.2 1003 j) :: st) t I L R Q := wp_sload rfl (by decide) rfl h3 hL
theorem i198_444 {x0 : Int32} {x1 : Int32} {x2 : Nat} {r0 : Int32} (h1 : x2 < t) (h2 : m_ob x2 8 = true) : WP V 198 444 ls [.int x0, .int x1, .ref x2, .int r0] t I L R Q = WPC V 183 [.ref x2, .int x1, .int x0] 198 445 ls [.int r0] t I L R Q := wp_cls (wp_icv rfl rfl h1 h2) (by decide) (Nat.le_of_ble_eq_true rfl) rfl rfl (Nat.le_of_ble_eq_true rfl) (Nat.le_of_ble_eq_true rfl)
theorem i198_445 {x y : Int32} : WP V 198 445 ls (.int y :: .int x :: st) t I L R Q = if x = y then WP V 198 558 ls st t I L R Q else WP V 198 446 ls st t I L R Q := wp_br (c := m_cc .eq x y) rfl rfl
theorem i198_446  : WP V 198 446 ls st t I L R Q = WP V 198 447 ls (.int (nI 0) :: st) t I L R Q := wp_go rfl
theorem i198_447 {x : Int32} (h : m_01 x = true) : WP V 198 447 ls [.int x] t I L R Q = Q (some (.int x)) t I L R := wp_rtz rfl rfl h
theorem i198_448 {w0 w2 w3 : Value} {x : Nat} : WP V 198 448 [w0, .ref x, w2, w3] st t I L R Q = WP V 198 449 [w0, .ref x, w2, w3] (.ref x :: st) t I L R Q := wp_go rfl
theorem i198_449 {w1 w2 w3 : Value} {x : Nat} : WP V 198 449 [.ref x, w1, w2, w3] st t I L R Q = WP V 198 450 [.ref x, w1, w2, w3] (.ref x :: st) t I L R Q := wp_go rfl
theorem i198_450 {w0 w1 w2 : Value} {x : Int32} : WP V 198 450 [w0, w1, w2, .int x] st t I L R Q = WP V 198 451 [w0, w1, w2, .int x] (.int x :: st) t I L R Q := wp_go rfl
set_option maxRecDepth 100000 in
theorem i198_451  : WP V 198 451 ls st t I L R Q = WP V 198 452 ls (.int (nI 1) :: st) t I L R Q := wp_go rfl
set_option maxRecDepth 100000 in
theorem i198_452 {x y : Int32} : WP V 198 452 ls (.int y :: .int x :: st) t I L R Q = WP V 198 453 ls (.int (x + y) :: st) t I L R Q := wp_go rfl
set_option maxRecDepth 100000 in
theorem i198_453 {j : Nat} (hL : V.1 < 2 ^ 31) (h3 : j < V.1) : WP V 198 453 ls (.int (nI j) :: .ref 1003 :: st) t I L R Q = WP V 198 454 ls (.int (V.2 1003 j) :: st) t I L R Q := wp_sload rfl (by decide) rfl h3 hL
set_option maxRecDepth 100000 in
theorem i198_454 {x0 : Int32} {x1 : Nat}  (h1 : x1 < t) (h2 : m_ob x1 7 = true) : WP V 198 454 ls [.int x0, .ref x1] t I L R Q = WPC V 102 [.ref x1, .int x0] 198 455 ls [] t I L R Q := wp_cls (wp_icv rfl rfl h1 h2) (by decide) (Nat.le_of_ble_eq_true rfl) rfl rfl (Nat.le_of_ble_eq_true rfl) (Nat.le_of_ble_eq_true rfl)
set_option maxRecDepth 100000 in
theorem i198_455 {w0 w1 w3 : Value} {x : Nat} : WP V 198 455 [w0, w1, .ref x, w3] st t I L R Q = WP V 198 456 [w0, w1, .ref x, w3] (.ref x :: st) t I L R Q := wp_go rfl
set_option maxRecDepth 100000 in
theorem i198_456 {w1 w2 w3 : Value} {x : Nat} : WP V 198 456 [.ref x, w1, w2, w3] st t I L R Q = WP V 198 457 [.ref x, w1, w2, w3] (.ref x :: st) t I L R Q := wp_go rfl
set_option maxRecDepth 100000 in
theorem i198_457 {w0 w1 w2 : Value} {x : Int32} : WP V 198 457 [w0, w1, w2, .int x] st t I L R Q = WP V 198 458 [w0, w1, w2, .int x] (.int x :: st) t I L R Q := wp_go rfl
set_option maxRecDepth 100000 in
theorem i198_458  : WP V 198 458 ls st t I L R Q = WP V 198 459 ls (.int (nI 1) :: st) t I L R Q := wp_go rfl
set_option maxRecDepth 100000 in
theorem i198_459 {x y : Int32} : WP V 198 459 ls (.int y :: .int x :: st) t I L R Q = WP V 198 460 ls (.int (x + y) :: st) t I L R Q := wp_go rfl
set_option maxRecDepth 100000 in
theorem i198_460 {j : Nat} (hL : V.1 < 2 ^ 31) (h3 : j < V.1) : WP V 198 460 ls (.int (nI j) :: .ref 1003 :: st) t I L R Q = WP V 198 461 ls (.int (V.2 1003 j) :: st) t I L R Q := wp_sload rfl (by decide) rfl h3 hL
set_option maxRecDepth 100000 in
theorem i198_461 {x0 : Int32} {x1 : Nat} {r0 : Int32} (h1 : x1 < t) (h2 : m_ob x1 8 = true) : WP V 198 461 ls [.int x0, .ref x1, .int r0] t I L R Q = WPC V 184 [.ref x1, .int x0] 198 462 ls [.int r0] t I L R Q := wp_cls (wp_icv rfl rfl h1 h2) (by decide) (Nat.le_of_ble_eq_true rfl) rfl rfl (Nat.le_of_ble_eq_true rfl) (Nat.le_of_ble_eq_true rfl)
set_option maxRecDepth 100000 in
theorem i198_462 {x y : Int32} : WP V 198 462 ls (.int y :: .int x :: st) t I L R Q = if x = y then WP V 198 558 ls st t I L R Q else WP V 198 463 ls st t I L R Q := wp_br (c := m_cc .eq x y) rfl rfl
set_option maxRecDepth 100000 in
theorem i198_463  : WP V 198 463 ls st t I L R Q = WP V 198 464 ls (.int (nI 0) :: st) t I L R Q := wp_go rfl
set_option maxRecDepth 100000 in
theorem i198_464 {x : Int32} (h : m_01 x = true) : WP V 198 464 ls [.int x] t I L R Q = Q (some (.int x)) t I L R := wp_rtz rfl rfl h
set_option maxRecDepth 100000 in
theorem i198_465 {w0 w2 w3 : Value} {x : Nat} : WP V 198 465 [w0, .ref x, w2, w3] st t I L R Q = WP V 198 466 [w0, .ref x, w2, w3] (.ref x :: st) t I L R Q := wp_go rfl
set_option maxRecDepth 100000 in
theorem i198_466 {w1 w2 w3 : Value} {x : Nat} : WP V 198 466 [.ref x, w1, w2, w3] st t I L R Q = WP V 198 467 [.ref x, w1, w2, w3] (.ref x :: st) t I L R Q := wp_go rfl
set_option maxRecDepth 100000 in
theorem i198_467 {w0 w1 w2 : Value} {x : Int32} : WP V 198 467 [w0, w1, w2, .int x] st t I L R Q = WP V 198 468 [w0, w1, w2, .int x] (.int x :: st) t I L R Q := wp_go rfl
set_option maxRecDepth 100000 in
theorem i198_468  : WP V 198 468 ls st t I L R Q = WP V 198 469 ls (.int (nI 1) :: st) t I L R Q := wp_go rfl
set_option maxRecDepth 100000 in
theorem i198_469 {x y : Int32} : WP V 198 469 ls (.int y :: .int x :: st) t I L R Q = WP V 198 470 ls (.int (x + y) :: st) t I L R Q := wp_go rfl
set_option maxRecDepth 100000 in
theorem i198_470 {j : Nat} (hL : V.1 < 2 ^ 31) (h3 : j < V.1) : WP V 198 470 ls (.int (nI j) :: .ref 1003 :: st) t I L R Q = WP V 198 471 ls (.int (V.2 1003 j) :: st) t I L R Q := wp_sload rfl (by decide) rfl h3 hL
set_option maxRecDepth 100000 in
theorem i198_471 {w1 w2 w3 : Value} {x : Nat} : WP V 198 471 [.ref x, w1, w2, w3] st t I L R Q = WP V 198 472 [.ref x, w1, w2, w3] (.ref x :: st) t I L R Q := wp_go rfl
set_option maxRecDepth 100000 in
theorem i198_472 {w0 w1 w2 : Value} {x : Int32} : WP V 198 472 [w0, w1, w2, .int x] st t I L R Q = WP V 198 473 [w0, w1, w2, .int x] (.int x :: st) t I L R Q := wp_go rfl
set_option maxRecDepth 100000 in
theorem i198_473  : WP V 198 473 ls st t I L R Q = WP V 198 474 ls (.int (nI 2) :: st) t I L R Q := wp_go rfl
set_option maxRecDepth 100000 in
theorem i198_474 {x y : Int32} : WP V 198 474 ls (.int y :: .int x :: st) t I L R Q = WP V 198 475 ls (.int (x + y) :: st) t I L R Q := wp_go rfl
set_option maxRecDepth 100000 in
theorem i198_475 {j : Nat} (hL : V.1 < 2 ^ 31) (h3 : j < V.1) : WP V 198 475 ls (.int (nI j) :: .ref 1003 :: st) t I L R Q = WP V 198 476 ls (.int (V.2 1003 j) :: st) t I L R Q := wp_sload rfl (by decide) rfl h3 hL
set_option maxRecDepth 100000 in
theorem i198_476 {x0 : Int32} {x1 : Int32} {x2 : Nat}  (h1 : x2 < t) (h2 : m_ob x2 7 = true) : WP V 198 476 ls [.int x0, .int x1, .ref x2] t I L R Q = WPC V 103 [.ref x2, .int x1, .int x0] 198 477 ls [] t I L R Q := wp_cls (wp_icv rfl rfl h1 h2) (by decide) (Nat.le_of_ble_eq_true rfl) rfl rfl (Nat.le_of_ble_eq_true rfl) (Nat.le_of_ble_eq_true rfl)
set_option maxRecDepth 100000 in
theorem i198_477 {w0 w1 w3 : Value} {x : Nat} : WP V 198 477 [w0, w1, .ref x, w3] st t I L R Q = WP V 198 478 [w0, w1, .ref x, w3] (.ref x :: st) t I L R Q := wp_go rfl
set_option maxRecDepth 100000 in
theorem i198_478 {w1 w2 w3 : Value} {x : Nat} : WP V 198 478 [.ref x, w1, w2, w3] st t I L R Q = WP V 198 479 [.ref x, w1, w2, w3] (.ref x :: st) t I L R Q := wp_go rfl
set_option maxRecDepth 100000 in
theorem i198_479 {w0 w1 w2 : Value} {x : Int32} : WP V 198 479 [w0, w1, w2, .int x] st t I L R Q = WP V 198 480 [w0, w1, w2, .int x] (.int x :: st) t I L R Q := wp_go rfl
set_option maxRecDepth 100000 in
theorem i198_480  : WP V 198 480 ls st t I L R Q = WP V 198 481 ls (.int (nI 1) :: st) t I L R Q := wp_go rfl
set_option maxRecDepth 100000 in
theorem i198_481 {x y : Int32} : WP V 198 481 ls (.int y :: .int x :: st) t I L R Q = WP V 198 482 ls (.int (x + y) :: st) t I L R Q := wp_go rfl
set_option maxRecDepth 100000 in
theorem i198_482 {j : Nat} (hL : V.1 < 2 ^ 31) (h3 : j < V.1) : WP V 198 482 ls (.int (nI j) :: .ref 1003 :: st) t I L R Q = WP V 198 483 ls (.int (V.2 1003 j) :: st) t I L R Q := wp_sload rfl (by decide) rfl h3 hL
set_option maxRecDepth 100000 in
theorem i198_483 {w1 w2 w3 : Value} {x : Nat} : WP V 198 483 [.ref x, w1, w2, w3] st t I L R Q = WP V 198 484 [.ref x, w1, w2, w3] (.ref x :: st) t I L R Q := wp_go rfl
set_option maxRecDepth 100000 in
theorem i198_484 {w0 w1 w2 : Value} {x : Int32} : WP V 198 484 [w0, w1, w2, .int x] st t I L R Q = WP V 198 485 [w0, w1, w2, .int x] (.int x :: st) t I L R Q := wp_go rfl
set_option maxRecDepth 100000 in
theorem i198_485  : WP V 198 485 ls st t I L R Q = WP V 198 486 ls (.int (nI 2) :: st) t I L R Q := wp_go rfl
set_option maxRecDepth 100000 in
theorem i198_486 {x y : Int32} : WP V 198 486 ls (.int y :: .int x :: st) t I L R Q = WP V 198 487 ls (.int (x + y) :: st) t I L R Q := wp_go rfl
set_option maxRecDepth 100000 in
theorem i198_487 {j : Nat} (hL : V.1 < 2 ^ 31) (h3 : j < V.1) : WP V 198 487 ls (.int (nI j) :: .ref 1003 :: st) t I L R Q = WP V 198 488 ls (.int (V.2 1003 j) :: st) t I L R Q := wp_sload rfl (by decide) rfl h3 hL
set_option maxRecDepth 100000 in
theorem i198_488 {x0 : Int32} {x1 : Int32} {x2 : Nat} {r0 : Int32} (h1 : x2 < t) (h2 : m_ob x2 8 = true) : WP V 198 488 ls [.int x0, .int x1, .ref x2, .int r0] t I L R Q = WPC V 185 [.ref x2, .int x1, .int x0] 198 489 ls [.int r0] t I L R Q := wp_cls (wp_icv rfl rfl h1 h2) (by decide) (Nat.le_of_ble_eq_true rfl) rfl rfl (Nat.le_of_ble_eq_true rfl) (Nat.le_of_ble_eq_true rfl)
set_option maxRecDepth 100000 in
theorem i198_489 {x y : Int32} : WP V 198 489 ls (.int y :: .int x :: st) t I L R Q = if x = y then WP V 198 558 ls st t I L R Q else WP V 198 490 ls st t I L R Q := wp_br (c := m_cc .eq x y) rfl rfl
set_option maxRecDepth 100000 in
theorem i198_490  : WP V 198 490 ls st t I L R Q = WP V 198 491 ls (.int (nI 0) :: st) t I L R Q := wp_go rfl
set_option maxRecDepth 100000 in
theorem i198_491 {x : Int32} (h : m_01 x = true) : WP V 198 491 ls [.int x] t I L R Q = Q (some (.int x)) t I L R := wp_rtz rfl rfl h
set_option maxRecDepth 100000 in
theorem i198_492 {w0 w2 w3 : Value} {x : Nat} : WP V 198 492 [w0, .ref x, w2, w3] st t I L R Q = WP V 198 493 [w0, .ref x, w2, w3] (.ref x :: st) t I L R Q := wp_go rfl
set_option maxRecDepth 100000 in
theorem i198_493 {w1 w2 w3 : Value} {x : Nat} : WP V 198 493 [.ref x, w1, w2, w3] st t I L R Q = WP V 198 494 [.ref x, w1, w2, w3] (.ref x :: st) t I L R Q := wp_go rfl
set_option maxRecDepth 100000 in
theorem i198_494 {w0 w1 w2 : Value} {x : Int32} : WP V 198 494 [w0, w1, w2, .int x] st t I L R Q = WP V 198 495 [w0, w1, w2, .int x] (.int x :: st) t I L R Q := wp_go rfl
set_option maxRecDepth 100000 in
theorem i198_495  : WP V 198 495 ls st t I L R Q = WP V 198 496 ls (.int (nI 1) :: st) t I L R Q := wp_go rfl
set_option maxRecDepth 100000 in
theorem i198_496 {x y : Int32} : WP V 198 496 ls (.int y :: .int x :: st) t I L R Q = WP V 198 497 ls (.int (x + y) :: st) t I L R Q := wp_go rfl
set_option maxRecDepth 100000 in
theorem i198_497 {j : Nat} (hL : V.1 < 2 ^ 31) (h3 : j < V.1) : WP V 198 497 ls (.int (nI j) :: .ref 1003 :: st) t I L R Q = WP V 198 498 ls (.int (V.2 1003 j) :: st) t I L R Q := wp_sload rfl (by decide) rfl h3 hL
set_option maxRecDepth 100000 in
theorem i198_498 {w1 w2 w3 : Value} {x : Nat} : WP V 198 498 [.ref x, w1, w2, w3] st t I L R Q = WP V 198 499 [.ref x, w1, w2, w3] (.ref x :: st) t I L R Q := wp_go rfl
set_option maxRecDepth 100000 in
theorem i198_499 {w0 w1 w2 : Value} {x : Int32} : WP V 198 499 [w0, w1, w2, .int x] st t I L R Q = WP V 198 500 [w0, w1, w2, .int x] (.int x :: st) t I L R Q := wp_go rfl
set_option maxRecDepth 100000 in
theorem i198_500  : WP V 198 500 ls st t I L R Q = WP V 198 501 ls (.int (nI 2) :: st) t I L R Q := wp_go rfl
set_option maxRecDepth 100000 in
theorem i198_501 {x y : Int32} : WP V 198 501 ls (.int y :: .int x :: st) t I L R Q = WP V 198 502 ls (.int (x + y) :: st) t I L R Q := wp_go rfl
set_option maxRecDepth 100000 in
theorem i198_502 {j : Nat} (hL : V.1 < 2 ^ 31) (h3 : j < V.1) : WP V 198 502 ls (.int (nI j) :: .ref 1003 :: st) t I L R Q = WP V 198 503 ls (.int (V.2 1003 j) :: st) t I L R Q := wp_sload rfl (by decide) rfl h3 hL
set_option maxRecDepth 100000 in
theorem i198_503 {w1 w2 w3 : Value} {x : Nat} : WP V 198 503 [.ref x, w1, w2, w3] st t I L R Q = WP V 198 504 [.ref x, w1, w2, w3] (.ref x :: st) t I L R Q := wp_go rfl
set_option maxRecDepth 100000 in
theorem i198_504 {w0 w1 w2 : Value} {x : Int32} : WP V 198 504 [w0, w1, w2, .int x] st t I L R Q = WP V 198 505 [w0, w1, w2, .int x] (.int x :: st) t I L R Q := wp_go rfl
set_option maxRecDepth 100000 in
theorem i198_505  : WP V 198 505 ls st t I L R Q = WP V 198 506 ls (.int (nI 3) :: st) t I L R Q := wp_go rfl
set_option maxRecDepth 100000 in
theorem i198_506 {x y : Int32} : WP V 198 506 ls (.int y :: .int x :: st) t I L R Q = WP V 198 507 ls (.int (x + y) :: st) t I L R Q := wp_go rfl
set_option maxRecDepth 100000 in
theorem i198_507 {j : Nat} (hL : V.1 < 2 ^ 31) (h3 : j < V.1) : WP V 198 507 ls (.int (nI j) :: .ref 1003 :: st) t I L R Q = WP V 198 508 ls (.int (V.2 1003 j) :: st) t I L R Q := wp_sload rfl (by decide) rfl h3 hL
set_option maxRecDepth 100000 in
theorem i198_508 {x0 : Int32} {x1 : Int32} {x2 : Int32} {x3 : Nat}  (h1 : x3 < t) (h2 : m_ob x3 7 = true) : WP V 198 508 ls [.int x0, .int x1, .int x2, .ref x3] t I L R Q = WPC V 104 [.ref x3, .int x2, .int x1, .int x0] 198 509 ls [] t I L R Q := wp_cls (wp_icv rfl rfl h1 h2) (by decide) (Nat.le_of_ble_eq_true rfl) rfl rfl (Nat.le_of_ble_eq_true rfl) (Nat.le_of_ble_eq_true rfl)
set_option maxRecDepth 100000 in
theorem i198_509 {w0 w1 w3 : Value} {x : Nat} : WP V 198 509 [w0, w1, .ref x, w3] st t I L R Q = WP V 198 510 [w0, w1, .ref x, w3] (.ref x :: st) t I L R Q := wp_go rfl
set_option maxRecDepth 100000 in
theorem i198_510 {w1 w2 w3 : Value} {x : Nat} : WP V 198 510 [.ref x, w1, w2, w3] st t I L R Q = WP V 198 511 [.ref x, w1, w2, w3] (.ref x :: st) t I L R Q := wp_go rfl
set_option maxRecDepth 100000 in
theorem i198_511 {w0 w1 w2 : Value} {x : Int32} : WP V 198 511 [w0, w1, w2, .int x] st t I L R Q = WP V 198 512 [w0, w1, w2, .int x] (.int x :: st) t I L R Q := wp_go rfl
set_option maxRecDepth 100000 in
theorem i198_512  : WP V 198 512 ls st t I L R Q = WP V 198 513 ls (.int (nI 1) :: st) t I L R Q := wp_go rfl
set_option maxRecDepth 100000 in
theorem i198_513 {x y : Int32} : WP V 198 513 ls (.int y :: .int x :: st) t I L R Q = WP V 198 514 ls (.int (x + y) :: st) t I L R Q := wp_go rfl
set_option maxRecDepth 100000 in
theorem i198_514 {j : Nat} (hL : V.1 < 2 ^ 31) (h3 : j < V.1) : WP V 198 514 ls (.int (nI j) :: .ref 1003 :: st) t I L R Q = WP V 198 515 ls (.int (V.2 1003 j) :: st) t I L R Q := wp_sload rfl (by decide) rfl h3 hL
set_option maxRecDepth 100000 in
theorem i198_515 {w1 w2 w3 : Value} {x : Nat} : WP V 198 515 [.ref x, w1, w2, w3] st t I L R Q = WP V 198 516 [.ref x, w1, w2, w3] (.ref x :: st) t I L R Q := wp_go rfl
set_option maxRecDepth 100000 in
theorem i198_516 {w0 w1 w2 : Value} {x : Int32} : WP V 198 516 [w0, w1, w2, .int x] st t I L R Q = WP V 198 517 [w0, w1, w2, .int x] (.int x :: st) t I L R Q := wp_go rfl
set_option maxRecDepth 100000 in
theorem i198_517  : WP V 198 517 ls st t I L R Q = WP V 198 518 ls (.int (nI 2) :: st) t I L R Q := wp_go rfl
set_option maxRecDepth 100000 in
theorem i198_518 {x y : Int32} : WP V 198 518 ls (.int y :: .int x :: st) t I L R Q = WP V 198 519 ls (.int (x + y) :: st) t I L R Q := wp_go rfl
set_option maxRecDepth 100000 in
theorem i198_519 {j : Nat} (hL : V.1 < 2 ^ 31) (h3 : j < V.1) : WP V 198 519 ls (.int (nI j) :: .ref 1003 :: st) t I L R Q = WP V 198 520 ls (.int (V.2 1003 j) :: st) t I L R Q := wp_sload rfl (by decide) rfl h3 hL
set_option maxRecDepth 100000 in
theorem i198_520 {w1 w2 w3 : Value} {x : Nat} : WP V 198 520 [.ref x, w1, w2, w3] st t I L R Q = WP V 198 521 [.ref x, w1, w2, w3] (.ref x :: st) t I L R Q := wp_go rfl
set_option maxRecDepth 100000 in
theorem i198_521 {w0 w1 w2 : Value} {x : Int32} : WP V 198 521 [w0, w1, w2, .int x] st t I L R Q = WP V 198 522 [w0, w1, w2, .int x] (.int x :: st) t I L R Q := wp_go rfl
set_option maxRecDepth 100000 in
theorem i198_522  : WP V 198 522 ls st t I L R Q = WP V 198 523 ls (.int (nI 3) :: st) t I L R Q := wp_go rfl
set_option maxRecDepth 100000 in
theorem i198_523 {x y : Int32} : WP V 198 523 ls (.int y :: .int x :: st) t I L R Q = WP V 198 524 ls (.int (x + y) :: st) t I L R Q := wp_go rfl
set_option maxRecDepth 100000 in
theorem i198_524 {j : Nat} (hL : V.1 < 2 ^ 31) (h3 : j < V.1) : WP V 198 524 ls (.int (nI j) :: .ref 1003 :: st) t I L R Q = WP V 198 525 ls (.int (V.2 1003 j) :: st) t I L R Q := wp_sload rfl (by decide) rfl h3 hL
set_option maxRecDepth 100000 in
theorem i198_525 {x0 : Int32} {x1 : Int32} {x2 : Int32} {x3 : Nat} {r0 : Int32} (h1 : x3 < t) (h2 : m_ob x3 8 = true) : WP V 198 525 ls [.int x0, .int x1, .int x2, .ref x3, .int r0] t I L R Q = WPC V 186 [.ref x3, .int x2, .int x1, .int x0] 198 526 ls [.int r0] t I L R Q := wp_cls (wp_icv rfl rfl h1 h2) (by decide) (Nat.le_of_ble_eq_true rfl) rfl rfl (Nat.le_of_ble_eq_true rfl) (Nat.le_of_ble_eq_true rfl)
set_option maxRecDepth 100000 in
theorem i198_526 {x y : Int32} : WP V 198 526 ls (.int y :: .int x :: st) t I L R Q = if x = y then WP V 198 558 ls st t I L R Q else WP V 198 527 ls st t I L R Q := wp_br (c := m_cc .eq x y) rfl rfl
set_option maxRecDepth 100000 in
theorem i198_527  : WP V 198 527 ls st t I L R Q = WP V 198 528 ls (.int (nI 0) :: st) t I L R Q := wp_go rfl
set_option maxRecDepth 100000 in
theorem i198_528 {x : Int32} (h : m_01 x = true) : WP V 198 528 ls [.int x] t I L R Q = Q (some (.int x)) t I L R := wp_rtz rfl rfl h
set_option maxRecDepth 100000 in
theorem i198_529 {w0 w2 w3 : Value} {x : Nat} : WP V 198 529 [w0, .ref x, w2, w3] st t I L R Q = WP V 198 530 [w0, .ref x, w2, w3] (.ref x :: st) t I L R Q := wp_go rfl
set_option maxRecDepth 100000 in
theorem i198_530 {x0 : Nat}  (h1 : x0 < t) (h2 : m_ob x0 7 = true) : WP V 198 530 ls [.ref x0] t I L R Q = WPC V 105 [.ref x0] 198 531 ls [] t I L R Q := wp_cls (wp_icv rfl rfl h1 h2) (by decide) (Nat.le_of_ble_eq_true rfl) rfl rfl (Nat.le_of_ble_eq_true rfl) (Nat.le_of_ble_eq_true rfl)
set_option maxRecDepth 100000 in
theorem i198_531 {w0 w1 w3 : Value} {x : Nat} : WP V 198 531 [w0, w1, .ref x, w3] st t I L R Q = WP V 198 532 [w0, w1, .ref x, w3] (.ref x :: st) t I L R Q := wp_go rfl
set_option maxRecDepth 100000 in
theorem i198_532 {x0 : Nat} {r0 : Int32} (h1 : x0 < t) (h2 : m_ob x0 8 = true) : WP V 198 532 ls [.ref x0, .int r0] t I L R Q = WPC V 187 [.ref x0] 198 533 ls [.int r0] t I L R Q := wp_cls (wp_icv rfl rfl h1 h2) (by decide) (Nat.le_of_ble_eq_true rfl) rfl rfl (Nat.le_of_ble_eq_true rfl) (Nat.le_of_ble_eq_true rfl)
set_option maxRecDepth 100000 in
theorem i198_533 {x y : Int32} : WP V 198 533 ls (.int y :: .int x :: st) t I L R Q = if x = y then WP V 198 558 ls st t I L R Q else WP V 198 534 ls st t I L R Q := wp_br (c := m_cc .eq x y) rfl rfl
set_option maxRecDepth 100000 in
theorem i198_534  : WP V 198 534 ls st t I L R Q = WP V 198 535 ls (.int (nI 0) :: st) t I L R Q := wp_go rfl
set_option maxRecDepth 100000 in
theorem i198_535 {x : Int32} (h : m_01 x = true) : WP V 198 535 ls [.int x] t I L R Q = Q (some (.int x)) t I L R := wp_rtz rfl rfl h
set_option maxRecDepth 100000 in
theorem i198_536 {w0 w2 w3 : Value} {x : Nat} : WP V 198 536 [w0, .ref x, w2, w3] st t I L R Q = WP V 198 537 [w0, .ref x, w2, w3] (.ref x :: st) t I L R Q := wp_go rfl
set_option maxRecDepth 100000 in
theorem i198_537 {x0 : Nat}  (h1 : x0 < t) (h2 : m_ob x0 7 = true) : WP V 198 537 ls [.ref x0] t I L R Q = WPC V 106 [.ref x0] 198 538 ls [] t I L R Q := wp_cls (wp_icv rfl rfl h1 h2) (by decide) (Nat.le_of_ble_eq_true rfl) rfl rfl (Nat.le_of_ble_eq_true rfl) (Nat.le_of_ble_eq_true rfl)
set_option maxRecDepth 100000 in
theorem i198_538 {w0 w1 w3 : Value} {x : Nat} : WP V 198 538 [w0, w1, .ref x, w3] st t I L R Q = WP V 198 539 [w0, w1, .ref x, w3] (.ref x :: st) t I L R Q := wp_go rfl
set_option maxRecDepth 100000 in
theorem i198_539 {x0 : Nat} {r0 : Int32} (h1 : x0 < t) (h2 : m_ob x0 8 = true) : WP V 198 539 ls [.ref x0, .int r0] t I L R Q = WPC V 190 [.ref x0] 198 540 ls [.int r0] t I L R Q := wp_cls (wp_icv rfl rfl h1 h2) (by decide) (Nat.le_of_ble_eq_true rfl) rfl rfl (Nat.le_of_ble_eq_true rfl) (Nat.le_of_ble_eq_true rfl)
set_option maxRecDepth 100000 in
theorem i198_540 {x y : Int32} : WP V 198 540 ls (.int y :: .int x :: st) t I L R Q = if x = y then WP V 198 558 ls st t I L R Q else WP V 198 541 ls st t I L R Q := wp_br (c := m_cc .eq x y) rfl rfl
set_option maxRecDepth 100000 in
theorem i198_541  : WP V 198 541 ls st t I L R Q = WP V 198 542 ls (.int (nI 0) :: st) t I L R Q := wp_go rfl
set_option maxRecDepth 100000 in
theorem i198_542 {x : Int32} (h : m_01 x = true) : WP V 198 542 ls [.int x] t I L R Q = Q (some (.int x)) t I L R := wp_rtz rfl rfl h
set_option maxRecDepth 100000 in
theorem i198_543 {w0 w2 w3 : Value} {x : Nat} : WP V 198 543 [w0, .ref x, w2, w3] st t I L R Q = WP V 198 544 [w0, .ref x, w2, w3] (.ref x :: st) t I L R Q := wp_go rfl
set_option maxRecDepth 100000 in
theorem i198_544 {x0 : Nat}  (h1 : x0 < t) (h2 : m_ob x0 7 = true) : WP V 198 544 ls [.ref x0] t I L R Q = WPC V 107 [.ref x0] 198 545 ls [] t I L R Q := wp_cls (wp_icv rfl rfl h1 h2) (by decide) (Nat.le_of_ble_eq_true rfl) rfl rfl (Nat.le_of_ble_eq_true rfl) (Nat.le_of_ble_eq_true rfl)
set_option maxRecDepth 100000 in
theorem i198_545 {w0 w1 w3 : Value} {x : Nat} : WP V 198 545 [w0, w1, .ref x, w3] st t I L R Q = WP V 198 546 [w0, w1, .ref x, w3] (.ref x :: st) t I L R Q := wp_go rfl
set_option maxRecDepth 100000 in
theorem i198_546 {x0 : Nat} {r0 : Int32} (h1 : x0 < t) (h2 : m_ob x0 8 = true) : WP V 198 546 ls [.ref x0, .int r0] t I L R Q = WPC V 191 [.ref x0] 198 547 ls [.int r0] t I L R Q := wp_cls (wp_icv rfl rfl h1 h2) (by decide) (Nat.le_of_ble_eq_true rfl) rfl rfl (Nat.le_of_ble_eq_true rfl) (Nat.le_of_ble_eq_true rfl)
set_option maxRecDepth 100000 in
theorem i198_547 {x y : Int32} : WP V 198 547 ls (.int y :: .int x :: st) t I L R Q = if x = y then WP V 198 558 ls st t I L R Q else WP V 198 548 ls st t I L R Q := wp_br (c := m_cc .eq x y) rfl rfl
set_option maxRecDepth 100000 in
theorem i198_548  : WP V 198 548 ls st t I L R Q = WP V 198 549 ls (.int (nI 0) :: st) t I L R Q := wp_go rfl
set_option maxRecDepth 100000 in
theorem i198_549 {x : Int32} (h : m_01 x = true) : WP V 198 549 ls [.int x] t I L R Q = Q (some (.int x)) t I L R := wp_rtz rfl rfl h
set_option maxRecDepth 100000 in
theorem i198_550 {w0 w2 w3 : Value} {x : Nat} : WP V 198 550 [w0, .ref x, w2, w3] st t I L R Q = WP V 198 551 [w0, .ref x, w2, w3] (.ref x :: st) t I L R Q := wp_go rfl
set_option maxRecDepth 100000 in
theorem i198_551 {x0 : Nat}  (h1 : x0 < t) (h2 : m_ob x0 7 = true) : WP V 198 551 ls [.ref x0] t I L R Q = WPC V 108 [.ref x0] 198 552 ls [] t I L R Q := wp_cls (wp_icv rfl rfl h1 h2) (by decide) (Nat.le_of_ble_eq_true rfl) rfl rfl (Nat.le_of_ble_eq_true rfl) (Nat.le_of_ble_eq_true rfl)
set_option maxRecDepth 100000 in
theorem i198_552 {w0 w1 w3 : Value} {x : Nat} : WP V 198 552 [w0, w1, .ref x, w3] st t I L R Q = WP V 198 553 [w0, w1, .ref x, w3] (.ref x :: st) t I L R Q := wp_go rfl
set_option maxRecDepth 100000 in
theorem i198_553 {x0 : Nat} {r0 : Int64} (h1 : x0 < t) (h2 : m_ob x0 8 = true) : WP V 198 553 ls [.ref x0, .long r0] t I L R Q = WPC V 192 [.ref x0] 198 554 ls [.long r0] t I L R Q := wp_cls (wp_icv rfl rfl h1 h2) (by decide) (Nat.le_of_ble_eq_true rfl) rfl rfl (Nat.le_of_ble_eq_true rfl) (Nat.le_of_ble_eq_true rfl)
set_option maxRecDepth 100000 in
theorem i198_554 {x y : Int64} : WP V 198 554 ls (.long y :: .long x :: st) t I L R Q = WP V 198 555 ls (.int (lg_cmp x y) :: st) t I L R Q := wp_go rfl
set_option maxRecDepth 100000 in
theorem i198_555 {x : Int32} : WP V 198 555 ls (.int x :: st) t I L R Q = if x = nI 0 then WP V 198 558 ls st t I L R Q else WP V 198 556 ls st t I L R Q := wp_br (c := m_cc .eq x 0) rfl rfl
set_option maxRecDepth 100000 in
theorem i198_556  : WP V 198 556 ls st t I L R Q = WP V 198 557 ls (.int (nI 0) :: st) t I L R Q := wp_go rfl
set_option maxRecDepth 100000 in
theorem i198_557 {x : Int32} (h : m_01 x = true) : WP V 198 557 ls [.int x] t I L R Q = Q (some (.int x)) t I L R := wp_rtz rfl rfl h
set_option maxRecDepth 100000 in
theorem i198_558 {p : Nat} {w0 w1 : Value} {x : Int32} : WP V 198 558 [w0, w1, .ref p, .int x] st t I L R Q = WP V 198 559 [w0, w1, .ref p, .int (x + (nI 6))] st t I L R Q := wp_go rfl
set_option maxRecDepth 100000 in
theorem i198_559  : WP V 198 559 ls st t I L R Q = WP V 198 10 ls st t I L R Q := wp_go rfl
set_option maxRecDepth 100000 in
theorem i198_560  : WP V 198 560 ls st t I L R Q = WP V 198 561 ls (.int (nI 1) :: st) t I L R Q := wp_go rfl
set_option maxRecDepth 100000 in
theorem i198_561 {x : Int32} (h : m_01 x = true) : WP V 198 561 ls [.int x] t I L R Q = Q (some (.int x)) t I L R := wp_rtz rfl rfl h
end
