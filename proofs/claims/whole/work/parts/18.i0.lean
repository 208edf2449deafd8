section
variable {V : m_V} {t : Nat} {I : m_I} {L : m_L} {R : m_R} {Q : Option Value → Nat → m_I → m_L → m_R → Prop} {ls st : List Value}
-- TransactionCells$Codes.<init>()V
theorem i0_0 {x : Nat} : WP V 0 0 [.ref x] st t I L R Q = WP V 0 1 [.ref x] (.ref x :: st) t I L R Q := wp_go rfl
theorem i0_1 {k : Nat}  : WP V 0 1 ls [.ref k] t I L R Q = WP V 0 2 ls [] t I L R Q := wp_objI rfl (Nat.le_of_ble_eq_true rfl)
theorem i0_2 {x : Nat} : WP V 0 2 [.ref x] st t I L R Q = WP V 0 3 [.ref x] (.ref x :: st) t I L R Q := wp_go rfl
theorem i0_3  : WP V 0 3 ls st t I L R Q = WP V 0 4 ls (.int (nI 960) :: st) t I L R Q := wp_go rfl
theorem i0_4 {N : Nat} (h : m_ar t 2 N = true) : WP V 0 4 ls (.int (nI N) :: st) t I L R Q = WP V 0 5 ls (.ref t :: st) (t + 1) (m_sc I t (fun _ => 0)) (m_sc L t (fun _ => 0)) R Q := wp_newi rfl h
theorem i0_5 {k x : Nat} (h1 : k < t) (h2 : m_ob k 0 = true) : WP V 0 5 ls (.ref x :: .ref k :: st) t I L R Q = WP V 0 6 ls st t I L (m_sc R k (m_sc (R k) 0 (some x))) Q := wp_putR rfl (by decide) h1 h2
theorem i0_5n {k : Nat} (h1 : k < t) (h2 : m_ob k 0 = true) : WP V 0 5 ls (.null :: .ref k :: st) t I L R Q = WP V 0 6 ls st t I L (m_sc R k (m_sc (R k) 0 none)) Q := wp_putN rfl (by decide) h1 h2
theorem i0_6 {x : Nat} : WP V 0 6 [.ref x] st t I L R Q = WP V 0 7 [.ref x] (.ref x :: st) t I L R Q := wp_go rfl
theorem i0_7  : WP V 0 7 ls st t I L R Q = WP V 0 8 ls (.int (nI 6) :: st) t I L R Q := wp_go rfl
theorem i0_8 {N : Nat} (h : m_ar t 2 N = true) : WP V 0 8 ls (.int (nI N) :: st) t I L R Q = WP V 0 9 ls (.ref t :: st) (t + 1) (m_sc I t (fun _ => 0)) (m_sc L t (fun _ => 0)) R Q := wp_newi rfl h
theorem i0_9 {k x : Nat} (h1 : k < t) (h2 : m_ob k 0 = true) : WP V 0 9 ls (.ref x :: .ref k :: st) t I L R Q = WP V 0 10 ls st t I L (m_sc R k (m_sc (R k) 1 (some x))) Q := wp_putR rfl (by decide) h1 h2
theorem i0_9n {k : Nat} (h1 : k < t) (h2 : m_ob k 0 = true) : WP V 0 9 ls (.null :: .ref k :: st) t I L R Q = WP V 0 10 ls st t I L (m_sc R k (m_sc (R k) 1 none)) Q := wp_putN rfl (by decide) h1 h2
theorem i0_10  : WP V 0 10 ls [] t I L R Q = Q none t I L R := wp_rtv rfl rfl
-- TransactionCells$Codes.fits(IIII)Z
theorem i1_0 {w1 w2 w3 : Value} {x : Int32} : WP V 1 0 [.int x, w1, w2, w3] st t I L R Q = WP V 1 1 [.int x, w1, w2, w3] (.int x :: st) t I L R Q := wp_go rfl
theorem i1_1 {x : Int32} : WP V 1 1 ls (.int x :: st) t I L R Q = if x < nI 0 then WP V 1 26 ls st t I L R Q else WP V 1 2 ls st t I L R Q := wp_br (c := m_cc .lt x 0) rfl rfl
theorem i1_2 {w1 w2 w3 : Value} {x : Int32} : WP V 1 2 [.int x, w1, w2, w3] st t I L R Q = WP V 1 3 [.int x, w1, w2, w3] (.int x :: st) t I L R Q := wp_go rfl
theorem i1_3  : WP V 1 3 ls st t I L R Q = WP V 1 4 ls (.ref 1000 :: st) t I L R Q := wp_go rfl
theorem i1_4 {k ty N : Nat} (h2 : m_ar k ty N = true) (h1 : k < t) (h3 : 2 ≤ ty) : WP V 1 4 ls (.ref k :: st) t I L R Q = WP V 1 5 ls (.int (nI N) :: st) t I L R Q := wp_alen rfl h1 h2 h3
theorem i1_5 {x y : Int32} : WP V 1 5 ls (.int y :: .int x :: st) t I L R Q = if y ≤ x then WP V 1 26 ls st t I L R Q else WP V 1 6 ls st t I L R Q := wp_br (c := m_cc .ge x y) rfl rfl
theorem i1_6 {w0 w2 w3 : Value} {x : Int32} : WP V 1 6 [w0, .int x, w2, w3] st t I L R Q = WP V 1 7 [w0, .int x, w2, w3] (.int x :: st) t I L R Q := wp_go rfl
theorem i1_7  : WP V 1 7 ls st t I L R Q = WP V 1 8 ls (.ref 1000 :: st) t I L R Q := wp_go rfl
theorem i1_8 {w1 w2 w3 : Value} {x : Int32} : WP V 1 8 [.int x, w1, w2, w3] st t I L R Q = WP V 1 9 [.int x, w1, w2, w3] (.int x :: st) t I L R Q := wp_go rfl
theorem i1_9 {k j : Nat} (h1 : 1000 ≤ k) (h2 : k < 1003) (h3 : j < 22) : WP V 1 9 ls (.int (nI j) :: .ref k :: st) t I L R Q = WP V 1 10 ls (.int (V.2 k j) :: st) t I L R Q := wp_tload rfl h1 h2 h3
theorem i1_10 {x0 : Int32} {x1 : Int32}  : WP V 1 10 ls [.int x0, .int x1] t I L R Q = WPC V 2 [.int x1, .int x0] 1 11 ls [] t I L R Q := wp_cls (wp_ics rfl (by decide)) (by decide) (Nat.le_of_ble_eq_true rfl) rfl rfl (Nat.le_of_ble_eq_true rfl) (Nat.le_of_ble_eq_true rfl)
theorem i1_11 {x : Int32} : WP V 1 11 ls (.int x :: st) t I L R Q = if x = nI 0 then WP V 1 26 ls st t I L R Q else WP V 1 12 ls st t I L R Q := wp_br (c := m_cc .eq x 0) rfl rfl
theorem i1_12 {w0 w1 w3 : Value} {x : Int32} : WP V 1 12 [w0, w1, .int x, w3] st t I L R Q = WP V 1 13 [w0, w1, .int x, w3] (.int x :: st) t I L R Q := wp_go rfl
theorem i1_13  : WP V 1 13 ls st t I L R Q = WP V 1 14 ls (.ref 1001 :: st) t I L R Q := wp_go rfl
theorem i1_14 {w1 w2 w3 : Value} {x : Int32} : WP V 1 14 [.int x, w1, w2, w3] st t I L R Q = WP V 1 15 [.int x, w1, w2, w3] (.int x :: st) t I L R Q := wp_go rfl
theorem i1_15 {k j : Nat} (h1 : 1000 ≤ k) (h2 : k < 1003) (h3 : j < 22) : WP V 1 15 ls (.int (nI j) :: .ref k :: st) t I L R Q = WP V 1 16 ls (.int (V.2 k j) :: st) t I L R Q := wp_tload rfl h1 h2 h3
theorem i1_16 {x0 : Int32} {x1 : Int32}  : WP V 1 16 ls [.int x0, .int x1] t I L R Q = WPC V 2 [.int x1, .int x0] 1 17 ls [] t I L R Q := wp_cls (wp_ics rfl (by decide)) (by decide) (Nat.le_of_ble_eq_true rfl) rfl rfl (Nat.le_of_ble_eq_true rfl) (Nat.le_of_ble_eq_true rfl)
theorem i1_17 {x : Int32} : WP V 1 17 ls (.int x :: st) t I L R Q = if x = nI 0 then WP V 1 26 ls st t I L R Q else WP V 1 18 ls st t I L R Q := wp_br (c := m_cc .eq x 0) rfl rfl
theorem i1_18 {w0 w1 w2 : Value} {x : Int32} : WP V 1 18 [w0, w1, w2, .int x] st t I L R Q = WP V 1 19 [w0, w1, w2, .int x] (.int x :: st) t I L R Q := wp_go rfl
theorem i1_19  : WP V 1 19 ls st t I L R Q = WP V 1 20 ls (.ref 1002 :: st) t I L R Q := wp_go rfl
theorem i1_20 {w1 w2 w3 : Value} {x : Int32} : WP V 1 20 [.int x, w1, w2, w3] st t I L R Q = WP V 1 21 [.int x, w1, w2, w3] (.int x :: st) t I L R Q := wp_go rfl
theorem i1_21 {k j : Nat} (h1 : 1000 ≤ k) (h2 : k < 1003) (h3 : j < 22) : WP V 1 21 ls (.int (nI j) :: .ref k :: st) t I L R Q = WP V 1 22 ls (.int (V.2 k j) :: st) t I L R Q := wp_tload rfl h1 h2 h3
theorem i1_22 {x0 : Int32} {x1 : Int32}  : WP V 1 22 ls [.int x0, .int x1] t I L R Q = WPC V 2 [.int x1, .int x0] 1 23 ls [] t I L R Q := wp_cls (wp_ics rfl (by decide)) (by decide) (Nat.le_of_ble_eq_true rfl) rfl rfl (Nat.le_of_ble_eq_true rfl) (Nat.le_of_ble_eq_true rfl)
theorem i1_23 {x : Int32} : WP V 1 23 ls (.int x :: st) t I L R Q = if x = nI 0 then WP V 1 26 ls st t I L R Q else WP V 1 24 ls st t I L R Q := wp_br (c := m_cc .eq x 0) rfl rfl
theorem i1_24  : WP V 1 24 ls st t I L R Q = WP V 1 25 ls (.int (nI 1) :: st) t I L R Q := wp_go rfl
theorem i1_25  : WP V 1 25 ls st t I L R Q = WP V 1 27 ls st t I L R Q := wp_go rfl
theorem i1_26  : WP V 1 26 ls st t I L R Q = WP V 1 27 ls (.int (nI 0) :: st) t I L R Q := wp_go rfl
theorem i1_27 {x : Int32} (h : m_01 x = true) : WP V 1 27 ls [.int x] t I L R Q = Q (some (.int x)) t I L R := wp_rtz rfl rfl h
-- TransactionCells$Codes.isBelow(II)Z
theorem i2_0 {w0 : Value} {x : Int32} : WP V 2 0 [w0, .int x] st t I L R Q = WP V 2 1 [w0, .int x] (.int x :: st) t I L R Q := wp_go rfl
theorem i2_1 {x : Int32} : WP V 2 1 ls (.int x :: st) t I L R Q = if x = nI 0 then WP V 2 6 ls st t I L R Q else WP V 2 2 ls st t I L R Q := wp_br (c := m_cc .eq x 0) rfl rfl
theorem i2_2 {w1 : Value} {x : Int32} : WP V 2 2 [.int x, w1] st t I L R Q = WP V 2 3 [.int x, w1] (.int x :: st) t I L R Q := wp_go rfl
theorem i2_3 {w0 : Value} {x : Int32} : WP V 2 3 [w0, .int x] st t I L R Q = WP V 2 4 [w0, .int x] (.int x :: st) t I L R Q := wp_go rfl
theorem i2_4 {x0 : Int32} {x1 : Int32}  : WP V 2 4 ls [.int x0, .int x1] t I L R Q = WPC V 109 [.int x1, .int x0] 2 5 ls [] t I L R Q := wp_cls (wp_ics rfl (by decide)) (by decide) (Nat.le_of_ble_eq_true rfl) rfl rfl (Nat.le_of_ble_eq_true rfl) (Nat.le_of_ble_eq_true rfl)
theorem i2_5 {x : Int32} : WP V 2 5 ls (.int x :: st) t I L R Q = if x = nI 0 then WP V 2 8 ls st t I L R Q else WP V 2 6 ls st t I L R Q := wp_br (c := m_cc .eq x 0) rfl rfl
theorem i2_6  : WP V 2 6 ls st t I L R Q = WP V 2 7 ls (.int (nI 1) :: st) t I L R Q := wp_go rfl
theorem i2_7  : WP V 2 7 ls st t I L R Q = WP V 2 9 ls st t I L R Q := wp_go rfl
theorem i2_8  : WP V 2 8 ls st t I L R Q = WP V 2 9 ls (.int (nI 0) :: st) t I L R Q := wp_go rfl
theorem i2_9 {x : Int32} (h : m_01 x = true) : WP V 2 9 ls [.int x] t I L R Q = Q (some (.int x)) t I L R := wp_rtz rfl rfl h
-- TransactionCells$Codes.at(II)I
theorem i3_0 {w0 w1 : Value} {x : Int32} : WP V 3 0 [w0, w1, .int x] st t I L R Q = WP V 3 1 [w0, w1, .int x] (.int x :: st) t I L R Q := wp_go rfl
theorem i3_1 {w1 w2 : Value} {x : Nat} : WP V 3 1 [.ref x, w1, w2] st t I L R Q = WP V 3 2 [.ref x, w1, w2] (.ref x :: st) t I L R Q := wp_go rfl
theorem i3_2 {k : Nat} (h1 : k < t) (h2 : m_ob k 0 = true) : WP V 3 2 ls (.ref k :: st) t I L R Q = WP V 3 3 ls (m_rv (R k 1) :: st) t I L R Q := wp_getR rfl (by decide) h1 h2
theorem i3_3 {w0 w2 : Value} {x : Int32} : WP V 3 3 [w0, .int x, w2] st t I L R Q = WP V 3 4 [w0, .int x, w2] (.int x :: st) t I L R Q := wp_go rfl
theorem i3_4 {k j : Nat} (h2 : m_ar k 2 6 = true) (h1 : k < t) (h3 : j < 6) : WP V 3 4 ls (.int (nI j) :: .ref k :: st) t I L R Q = WP V 3 5 ls (.int (I k j) :: st) t I L R Q := wp_iaload rfl (by decide) h1 h2 h3
theorem i3_5 {x0 : Int32} {x1 : Int32}  : WP V 3 5 ls [.int x0, .int x1] t I L R Q = WPC V 109 [.int x1, .int x0] 3 6 ls [] t I L R Q := wp_cls (wp_ics rfl (by decide)) (by decide) (Nat.le_of_ble_eq_true rfl) rfl rfl (Nat.le_of_ble_eq_true rfl) (Nat.le_of_ble_eq_true rfl)
theorem i3_6 {x : Int32} : WP V 3 6 ls (.int x :: st) t I L R Q = if x = nI 0 then WP V 3 15 ls st t I L R Q else WP V 3 7 ls st t I L R Q := wp_br (c := m_cc .eq x 0) rfl rfl
theorem i3_7 {w0 w2 : Value} {x : Int32} : WP V 3 7 [w0, .int x, w2] st t I L R Q = WP V 3 8 [w0, .int x, w2] (.int x :: st) t I L R Q := wp_go rfl
theorem i3_8  : WP V 3 8 ls st t I L R Q = WP V 3 9 ls (.int (nI 40) :: st) t I L R Q := wp_go rfl
theorem i3_9 {x y : Int32} : WP V 3 9 ls (.int y :: .int x :: st) t I L R Q = WP V 3 10 ls (.int (x * y) :: st) t I L R Q := wp_go rfl
theorem i3_10 {w0 w1 : Value} {x : Int32} : WP V 3 10 [w0, w1, .int x] st t I L R Q = WP V 3 11 [w0, w1, .int x] (.int x :: st) t I L R Q := wp_go rfl
theorem i3_11 {x y : Int32} : WP V 3 11 ls (.int y :: .int x :: st) t I L R Q = WP V 3 12 ls (.int (x + y) :: st) t I L R Q := wp_go rfl
theorem i3_12  : WP V 3 12 ls st t I L R Q = WP V 3 13 ls (.int (nI 4) :: st) t I L R Q := wp_go rfl
theorem i3_13 {x y : Int32} : WP V 3 13 ls (.int y :: .int x :: st) t I L R Q = WP V 3 14 ls (.int (x * y) :: st) t I L R Q := wp_go rfl
theorem i3_14  : WP V 3 14 ls st t I L R Q = WP V 3 16 ls st t I L R Q := wp_go rfl
theorem i3_15  : WP V 3 15 ls st t I L R Q = WP V 3 16 ls (.int (-1) :: st) t I L R Q := wp_go rfl
theorem i3_16 {x : Int32} : WP V 3 16 ls [.int x] t I L R Q = Q (some (.int x)) t I L R := wp_rti rfl rfl
-- TransactionCells$Codes.append(IIIII)I
theorem i4_0 {w1 w2 w3 w4 w5 w6 w7 : Value} {x : Nat} : WP V 4 0 [.ref x, w1, w2, w3, w4, w5, w6, w7] st t I L R Q = WP V 4 1 [.ref x, w1, w2, w3, w4, w5, w6, w7] (.ref x :: st) t I L R Q := wp_go rfl
theorem i4_1 {k : Nat} (h1 : k < t) (h2 : m_ob k 0 = true) : WP V 4 1 ls (.ref k :: st) t I L R Q = WP V 4 2 ls (m_rv (R k 1) :: st) t I L R Q := wp_getR rfl (by decide) h1 h2
theorem i4_2 {w0 w2 w3 w4 w5 w6 w7 : Value} {x : Int32} : WP V 4 2 [w0, .int x, w2, w3, w4, w5, w6, w7] st t I L R Q = WP V 4 3 [w0, .int x, w2, w3, w4, w5, w6, w7] (.int x :: st) t I L R Q := wp_go rfl
theorem i4_3 {v0 : Int32} {v1 : Nat} : WP V 4 3 ls (.int v0 :: .ref v1 :: st) t I L R Q = WP V 4 4 ls (.int v0 :: .ref v1 :: .int v0 :: .ref v1 :: st) t I L R Q := wp_go rfl
theorem i4_4 {k j : Nat} (h2 : m_ar k 2 6 = true) (h1 : k < t) (h3 : j < 6) : WP V 4 4 ls (.int (nI j) :: .ref k :: st) t I L R Q = WP V 4 5 ls (.int (I k j) :: st) t I L R Q := wp_iaload rfl (by decide) h1 h2 h3
theorem i4_5 {v0 : Int32} {v1 : Int32} {v2 : Nat} : WP V 4 5 ls (.int v0 :: .int v1 :: .ref v2 :: st) t I L R Q = WP V 4 6 ls (.int v0 :: .int v1 :: .ref v2 :: .int v0 :: st) t I L R Q := wp_go rfl
theorem i4_6  : WP V 4 6 ls st t I L R Q = WP V 4 7 ls (.int (nI 1) :: st) t I L R Q := wp_go rfl
theorem i4_7 {x y : Int32} : WP V 4 7 ls (.int y :: .int x :: st) t I L R Q = WP V 4 8 ls (.int (x + y) :: st) t I L R Q := wp_go rfl
theorem i4_8 {k j : Nat} {x : Int32} (h2 : m_ar k 2 6 = true) (h1 : k < t) (h3 : j < 6) : WP V 4 8 ls (.int x :: .int (nI j) :: .ref k :: st) t I L R Q = WP V 4 9 ls st t (m_sc I k (m_sc (I k) j x)) L R Q := wp_iastore rfl (by decide) h1 h2 h3
theorem i4_9 {p : Int32} {w0 w1 w2 w3 w4 w6 w7 : Value} {x : Int32} : WP V 4 9 [w0, w1, w2, w3, w4, .int p, w6, w7] (.int x :: st) t I L R Q = WP V 4 10 [w0, w1, w2, w3, w4, .int p, .int x, w7] st t I L R Q := wp_go rfl
theorem i4_10 {w1 w2 w3 w4 w5 w6 w7 : Value} {x : Nat} : WP V 4 10 [.ref x, w1, w2, w3, w4, w5, w6, w7] st t I L R Q = WP V 4 11 [.ref x, w1, w2, w3, w4, w5, w6, w7] (.ref x :: st) t I L R Q := wp_go rfl
theorem i4_11 {w0 w2 w3 w4 w5 w6 w7 : Value} {x : Int32} : WP V 4 11 [w0, .int x, w2, w3, w4, w5, w6, w7] st t I L R Q = WP V 4 12 [w0, .int x, w2, w3, w4, w5, w6, w7] (.int x :: st) t I L R Q := wp_go rfl
theorem i4_12 {w0 w1 w2 w3 w4 w5 w7 : Value} {x : Int32} : WP V 4 12 [w0, w1, w2, w3, w4, w5, .int x, w7] st t I L R Q = WP V 4 13 [w0, w1, w2, w3, w4, w5, .int x, w7] (.int x :: st) t I L R Q := wp_go rfl
theorem i4_13 {x0 : Int32} {x1 : Int32} {x2 : Nat}  (h1 : x2 < t) (h2 : m_ob x2 0 = true) : WP V 4 13 ls [.int x0, .int x1, .ref x2] t I L R Q = WPC V 3 [.ref x2, .int x1, .int x0] 4 14 ls [] t I L R Q := wp_cls (wp_icv rfl rfl h1 h2) (by decide) (Nat.le_of_ble_eq_true rfl) rfl rfl (Nat.le_of_ble_eq_true rfl) (Nat.le_of_ble_eq_true rfl)
theorem i4_14 {p : Int32} {w0 w1 w2 w3 w4 w5 w7 : Value} {x : Int32} : WP V 4 14 [w0, w1, w2, w3, w4, w5, .int p, w7] (.int x :: st) t I L R Q = WP V 4 15 [w0, w1, w2, w3, w4, w5, .int p, .int x] st t I L R Q := wp_go rfl
theorem i4_15 {w1 w2 w3 w4 w5 w6 w7 : Value} {x : Nat} : WP V 4 15 [.ref x, w1, w2, w3, w4, w5, w6, w7] st t I L R Q = WP V 4 16 [.ref x, w1, w2, w3, w4, w5, w6, w7] (.ref x :: st) t I L R Q := wp_go rfl
theorem i4_16 {k : Nat} (h1 : k < t) (h2 : m_ob k 0 = true) : WP V 4 16 ls (.ref k :: st) t I L R Q = WP V 4 17 ls (m_rv (R k 0) :: st) t I L R Q := wp_getR rfl (by decide) h1 h2
theorem i4_17 {w0 w1 w2 w3 w4 w5 w6 : Value} {x : Int32} : WP V 4 17 [w0, w1, w2, w3, w4, w5, w6, .int x] st t I L R Q = WP V 4 18 [w0, w1, w2, w3, w4, w5, w6, .int x] (.int x :: st) t I L R Q := wp_go rfl
theorem i4_18 {w0 w1 w3 w4 w5 w6 w7 : Value} {x : Int32} : WP V 4 18 [w0, w1, .int x, w3, w4, w5, w6, w7] st t I L R Q = WP V 4 19 [w0, w1, .int x, w3, w4, w5, w6, w7] (.int x :: st) t I L R Q := wp_go rfl
theorem i4_19 {k j : Nat} {x : Int32} (h2 : m_ar k 2 960 = true) (h1 : k < t) (h3 : j < 960) : WP V 4 19 ls (.int x :: .int (nI j) :: .ref k :: st) t I L R Q = WP V 4 20 ls st t (m_sc I k (m_sc (I k) j x)) L R Q := wp_iastore rfl (by decide) h1 h2 h3
theorem i4_20 {w1 w2 w3 w4 w5 w6 w7 : Value} {x : Nat} : WP V 4 20 [.ref x, w1, w2, w3, w4, w5, w6, w7] st t I L R Q = WP V 4 21 [.ref x, w1, w2, w3, w4, w5, w6, w7] (.ref x :: st) t I L R Q := wp_go rfl
theorem i4_21 {k : Nat} (h1 : k < t) (h2 : m_ob k 0 = true) : WP V 4 21 ls (.ref k :: st) t I L R Q = WP V 4 22 ls (m_rv (R k 0) :: st) t I L R Q := wp_getR rfl (by decide) h1 h2
theorem i4_22 {w0 w1 w2 w3 w4 w5 w6 : Value} {x : Int32} : WP V 4 22 [w0, w1, w2, w3, w4, w5, w6, .int x] st t I L R Q = WP V 4 23 [w0, w1, w2, w3, w4, w5, w6, .int x] (.int x :: st) t I L R Q := wp_go rfl
theorem i4_23  : WP V 4 23 ls st t I L R Q = WP V 4 24 ls (.int (nI 1) :: st) t I L R Q := wp_go rfl
theorem i4_24 {x y : Int32} : WP V 4 24 ls (.int y :: .int x :: st) t I L R Q = WP V 4 25 ls (.int (x + y) :: st) t I L R Q := wp_go rfl
theorem i4_25 {w0 w1 w2 w4 w5 w6 w7 : Value} {x : Int32} : WP V 4 25 [w0, w1, w2, .int x, w4, w5, w6, w7] st t I L R Q = WP V 4 26 [w0, w1, w2, .int x, w4, w5, w6, w7] (.int x :: st) t I L R Q := wp_go rfl
theorem i4_26 {k j : Nat} {x : Int32} (h2 : m_ar k 2 960 = true) (h1 : k < t) (h3 : j < 960) : WP V 4 26 ls (.int x :: .int (nI j) :: .ref k :: st) t I L R Q = WP V 4 27 ls st t (m_sc I k (m_sc (I k) j x)) L R Q := wp_iastore rfl (by decide) h1 h2 h3
theorem i4_27 {w1 w2 w3 w4 w5 w6 w7 : Value} {x : Nat} : WP V 4 27 [.ref x, w1, w2, w3, w4, w5, w6, w7] st t I L R Q = WP V 4 28 [.ref x, w1, w2, w3, w4, w5, w6, w7] (.ref x :: st) t I L R Q := wp_go rfl
theorem i4_28 {k : Nat} (h1 : k < t) (h2 : m_ob k 0 = true) : WP V 4 28 ls (.ref k :: st) t I L R Q = WP V 4 29 ls (m_rv (R k 0) :: st) t I L R Q := wp_getR rfl (by decide) h1 h2
theorem i4_29 {w0 w1 w2 w3 w4 w5 w6 : Value} {x : Int32} : WP V 4 29 [w0, w1, w2, w3, w4, w5, w6, .int x] st t I L R Q = WP V 4 30 [w0, w1, w2, w3, w4, w5, w6, .int x] (.int x :: st) t I L R Q := wp_go rfl
theorem i4_30  : WP V 4 30 ls st t I L R Q = WP V 4 31 ls (.int (nI 2) :: st) t I L R Q := wp_go rfl
theorem i4_31 {x y : Int32} : WP V 4 31 ls (.int y :: .int x :: st) t I L R Q = WP V 4 32 ls (.int (x + y) :: st) t I L R Q := wp_go rfl
theorem i4_32 {w0 w1 w2 w3 w5 w6 w7 : Value} {x : Int32} : WP V 4 32 [w0, w1, w2, w3, .int x, w5, w6, w7] st t I L R Q = WP V 4 33 [w0, w1, w2, w3, .int x, w5, w6, w7] (.int x :: st) t I L R Q := wp_go rfl
theorem i4_33 {k j : Nat} {x : Int32} (h2 : m_ar k 2 960 = true) (h1 : k < t) (h3 : j < 960) : WP V 4 33 ls (.int x :: .int (nI j) :: .ref k :: st) t I L R Q = WP V 4 34 ls st t (m_sc I k (m_sc (I k) j x)) L R Q := wp_iastore rfl (by decide) h1 h2 h3
theorem i4_34 {w1 w2 w3 w4 w5 w6 w7 : Value} {x : Nat} : WP V 4 34 [.ref x, w1, w2, w3, w4, w5, w6, w7] st t I L R Q = WP V 4 35 [.ref x, w1, w2, w3, w4, w5, w6, w7] (.ref x :: st) t I L R Q := wp_go rfl
theorem i4_35 {k : Nat} (h1 : k < t) (h2 : m_ob k 0 = true) : WP V 4 35 ls (.ref k :: st) t I L R Q = WP V 4 36 ls (m_rv (R k 0) :: st) t I L R Q := wp_getR rfl (by decide) h1 h2
theorem i4_36 {w0 w1 w2 w3 w4 w5 w6 : Value} {x : Int32} : WP V 4 36 [w0, w1, w2, w3, w4, w5, w6, .int x] st t I L R Q = WP V 4 37 [w0, w1, w2, w3, w4, w5, w6, .int x] (.int x :: st) t I L R Q := wp_go rfl
theorem i4_37  : WP V 4 37 ls st t I L R Q = WP V 4 38 ls (.int (nI 3) :: st) t I L R Q := wp_go rfl
theorem i4_38 {x y : Int32} : WP V 4 38 ls (.int y :: .int x :: st) t I L R Q = WP V 4 39 ls (.int (x + y) :: st) t I L R Q := wp_go rfl
theorem i4_39 {w0 w1 w2 w3 w4 w6 w7 : Value} {x : Int32} : WP V 4 39 [w0, w1, w2, w3, w4, .int x, w6, w7] st t I L R Q = WP V 4 40 [w0, w1, w2, w3, w4, .int x, w6, w7] (.int x :: st) t I L R Q := wp_go rfl
theorem i4_40 {k j : Nat} {x : Int32} (h2 : m_ar k 2 960 = true) (h1 : k < t) (h3 : j < 960) : WP V 4 40 ls (.int x :: .int (nI j) :: .ref k :: st) t I L R Q = WP V 4 41 ls st t (m_sc I k (m_sc (I k) j x)) L R Q := wp_iastore rfl (by decide) h1 h2 h3
theorem i4_41 {w0 w1 w2 w3 w4 w5 w7 : Value} {x : Int32} : WP V 4 41 [w0, w1, w2, w3, w4, w5, .int x, w7] st t I L R Q = WP V 4 42 [w0, w1, w2, w3, w4, w5, .int x, w7] (.int x :: st) t I L R Q := wp_go rfl
theorem i4_42 {x : Int32} : WP V 4 42 ls [.int x] t I L R Q = Q (some (.int x)) t I L R := wp_rti rfl rfl
-- TransactionCells$Codes.empty()I
theorem i5_0  : WP V 5 0 ls st t I L R Q = WP V 5 1 ls (.int (nI 0) :: st) t I L R Q := wp_go rfl
theorem i5_1 {p : Nat} {w1 w2 : Value} {x : Int32} : WP V 5 1 [.ref p, w1, w2] (.int x :: st) t I L R Q = WP V 5 2 [.ref p, .int x, w2] st t I L R Q := wp_go rfl
theorem i5_2  : WP V 5 2 ls st t I L R Q = WP V 5 3 ls (.int (nI 0) :: st) t I L R Q := wp_go rfl
theorem i5_3 {p : Int32} {w0 w2 : Value} {x : Int32} : WP V 5 3 [w0, .int p, w2] (.int x :: st) t I L R Q = WP V 5 4 [w0, .int p, .int x] st t I L R Q := wp_go rfl
theorem i5_4 {w0 w1 : Value} {x : Int32} : WP V 5 4 [w0, w1, .int x] st t I L R Q = WP V 5 5 [w0, w1, .int x] (.int x :: st) t I L R Q := wp_go rfl
theorem i5_5  : WP V 5 5 ls st t I L R Q = WP V 5 6 ls (.int (nI 6) :: st) t I L R Q := wp_go rfl
theorem i5_6 {x y : Int32} : WP V 5 6 ls (.int y :: .int x :: st) t I L R Q = if y ≤ x then WP V 5 21 ls st t I L R Q else WP V 5 7 ls st t I L R Q := wp_br (c := m_cc .ge x y) rfl rfl
theorem i5_7 {w0 w2 : Value} {x : Int32} : WP V 5 7 [w0, .int x, w2] st t I L R Q = WP V 5 8 [w0, .int x, w2] (.int x :: st) t I L R Q := wp_go rfl
theorem i5_8 {w1 w2 : Value} {x : Nat} : WP V 5 8 [.ref x, w1, w2] st t I L R Q = WP V 5 9 [.ref x, w1, w2] (.ref x :: st) t I L R Q := wp_go rfl
theorem i5_9 {k : Nat} (h1 : k < t) (h2 : m_ob k 0 = true) : WP V 5 9 ls (.ref k :: st) t I L R Q = WP V 5 10 ls (m_rv (R k 1) :: st) t I L R Q := wp_getR rfl (by decide) h1 h2
theorem i5_10 {w0 w1 : Value} {x : Int32} : WP V 5 10 [w0, w1, .int x] st t I L R Q = WP V 5 11 [w0, w1, .int x] (.int x :: st) t I L R Q := wp_go rfl
theorem i5_11 {k j : Nat} (h2 : m_ar k 2 6 = true) (h1 : k < t) (h3 : j < 6) : WP V 5 11 ls (.int (nI j) :: .ref k :: st) t I L R Q = WP V 5 12 ls (.int (I k j) :: st) t I L R Q := wp_iaload rfl (by decide) h1 h2 h3
theorem i5_12 {x y : Int32} : WP V 5 12 ls (.int y :: .int x :: st) t I L R Q = WP V 5 13 ls (.int (x + y) :: st) t I L R Q := wp_go rfl
theorem i5_13 {p : Nat} {w1 w2 : Value} {x : Int32} : WP V 5 13 [.ref p, w1, w2] (.int x :: st) t I L R Q = WP V 5 14 [.ref p, .int x, w2] st t I L R Q := wp_go rfl
theorem i5_14 {w1 w2 : Value} {x : Nat} : WP V 5 14 [.ref x, w1, w2] st t I L R Q = WP V 5 15 [.ref x, w1, w2] (.ref x :: st) t I L R Q := wp_go rfl
theorem i5_15 {k : Nat} (h1 : k < t) (h2 : m_ob k 0 = true) : WP V 5 15 ls (.ref k :: st) t I L R Q = WP V 5 16 ls (m_rv (R k 1) :: st) t I L R Q := wp_getR rfl (by decide) h1 h2
theorem i5_16 {w0 w1 : Value} {x : Int32} : WP V 5 16 [w0, w1, .int x] st t I L R Q = WP V 5 17 [w0, w1, .int x] (.int x :: st) t I L R Q := wp_go rfl
theorem i5_17  : WP V 5 17 ls st t I L R Q = WP V 5 18 ls (.int (nI 0) :: st) t I L R Q := wp_go rfl
theorem i5_18 {k j : Nat} {x : Int32} (h2 : m_ar k 2 6 = true) (h1 : k < t) (h3 : j < 6) : WP V 5 18 ls (.int x :: .int (nI j) :: .ref k :: st) t I L R Q = WP V 5 19 ls st t (m_sc I k (m_sc (I k) j x)) L R Q := wp_iastore rfl (by decide) h1 h2 h3
theorem i5_19 {p : Int32} {w0 : Value} {x : Int32} : WP V 5 19 [w0, .int p, .int x] st t I L R Q = WP V 5 20 [w0, .int p, .int (x + (nI 1))] st t I L R Q := wp_go rfl
theorem i5_20  : WP V 5 20 ls st t I L R Q = WP V 5 4 ls st t I L R Q := wp_go rfl
theorem i5_21 {w0 w2 : Value} {x : Int32} : WP V 5 21 [w0, .int x, w2] st t I L R Q = WP V 5 22 [w0, .int x, w2] (.int x :: st) t I L R Q := wp_go rfl
theorem i5_22 {x : Int32} : WP V 5 22 ls [.int x] t I L R Q = Q (some (.int x)) t I L R := wp_rti rfl rfl
-- TransactionCells$Codes.copyFrom(LTransactionCells$Codes;)V
theorem i6_0 {w0 : Value} {x : Nat} : WP V 6 0 [w0, .ref x] st t I L R Q = WP V 6 1 [w0, .ref x] (.ref x :: st) t I L R Q := wp_go rfl
theorem i6_1 {k : Nat} (h1 : k < t) (h2 : m_ob k 0 = true) : WP V 6 1 ls (.ref k :: st) t I L R Q = WP V 6 2 ls (m_rv (R k 0) :: st) t I L R Q := wp_getR rfl (by decide) h1 h2
theorem i6_2  : WP V 6 2 ls st t I L R Q = WP V 6 3 ls (.int (nI 0) :: st) t I L R Q := wp_go rfl
theorem i6_3 {w1 : Value} {x : Nat} : WP V 6 3 [.ref x, w1] st t I L R Q = WP V 6 4 [.ref x, w1] (.ref x :: st) t I L R Q := wp_go rfl
theorem i6_4 {k : Nat} (h1 : k < t) (h2 : m_ob k 0 = true) : WP V 6 4 ls (.ref k :: st) t I L R Q = WP V 6 5 ls (m_rv (R k 0) :: st) t I L R Q := wp_getR rfl (by decide) h1 h2
theorem i6_5  : WP V 6 5 ls st t I L R Q = WP V 6 6 ls (.int (nI 0) :: st) t I L R Q := wp_go rfl
theorem i6_6 {w1 : Value} {x : Nat} : WP V 6 6 [.ref x, w1] st t I L R Q = WP V 6 7 [.ref x, w1] (.ref x :: st) t I L R Q := wp_go rfl
theorem i6_7 {k : Nat} (h1 : k < t) (h2 : m_ob k 0 = true) : WP V 6 7 ls (.ref k :: st) t I L R Q = WP V 6 8 ls (m_rv (R k 0) :: st) t I L R Q := wp_getR rfl (by decide) h1 h2
theorem i6_8 {k ty N : Nat} (h2 : m_ar k ty N = true) (h1 : k < t) (h3 : 2 ≤ ty) : WP V 6 8 ls (.ref k :: st) t I L R Q = WP V 6 9 ls (.int (nI N) :: st) t I L R Q := wp_alen rfl h1 h2 h3
theorem i6_9 {s d sp dp cnt : Nat} (h3 : m_ar s 2 960 = true) (h4 : m_ar d 2 960 = true) (h1 : s < t) (h2 : d < t) (h5 : sp + cnt ≤ 960) (h6 : dp + cnt ≤ 960) : WP V 6 9 ls [.int (nI cnt), .int (nI dp), .ref d, .int (nI sp), .ref s] t I L R Q = WP V 6 10 ls [] t (m_sc I d (va_cpy (I s) (I d) sp dp cnt)) L R Q := wp_copyi rfl (by decide) (by decide) h1 h2 h3 h4 h5 h6 (by decide)
theorem i6_10 {w0 : Value} {x : Nat} : WP V 6 10 [w0, .ref x] st t I L R Q = WP V 6 11 [w0, .ref x] (.ref x :: st) t I L R Q := wp_go rfl
theorem i6_11 {k : Nat} (h1 : k < t) (h2 : m_ob k 0 = true) : WP V 6 11 ls (.ref k :: st) t I L R Q = WP V 6 12 ls (m_rv (R k 1) :: st) t I L R Q := wp_getR rfl (by decide) h1 h2
theorem i6_12  : WP V 6 12 ls st t I L R Q = WP V 6 13 ls (.int (nI 0) :: st) t I L R Q := wp_go rfl
theorem i6_13 {w1 : Value} {x : Nat} : WP V 6 13 [.ref x, w1] st t I L R Q = WP V 6 14 [.ref x, w1] (.ref x :: st) t I L R Q := wp_go rfl
theorem i6_14 {k : Nat} (h1 : k < t) (h2 : m_ob k 0 = true) : WP V 6 14 ls (.ref k :: st) t I L R Q = WP V 6 15 ls (m_rv (R k 1) :: st) t I L R Q := wp_getR rfl (by decide) h1 h2
theorem i6_15  : WP V 6 15 ls st t I L R Q = WP V 6 16 ls (.int (nI 0) :: st) t I L R Q := wp_go rfl
theorem i6_16  : WP V 6 16 ls st t I L R Q = WP V 6 17 ls (.int (nI 6) :: st) t I L R Q := wp_go rfl
theorem i6_17 {s d sp dp cnt : Nat} (h3 : m_ar s 2 6 = true) (h4 : m_ar d 2 6 = true) (h1 : s < t) (h2 : d < t) (h5 : sp + cnt ≤ 6) (h6 : dp + cnt ≤ 6) : WP V 6 17 ls [.int (nI cnt), .int (nI dp), .ref d, .int (nI sp), .ref s] t I L R Q = WP V 6 18 ls [] t (m_sc I d (va_cpy (I s) (I d) sp dp cnt)) L R Q := wp_copyi rfl (by decide) (by decide) h1 h2 h3 h4 h5 h6 (by decide)
theorem i6_18  : WP V 6 18 ls [] t I L R Q = Q none t I L R := wp_rtv rfl rfl
-- TransactionCells$Dealings.<init>(LTransactionCells$House;)V
theorem i7_0 {w1 : Value} {x : Nat} : WP V 7 0 [.ref x, w1] st t I L R Q = WP V 7 1 [.ref x, w1] (.ref x :: st) t I L R Q := wp_go rfl
theorem i7_1 {k : Nat}  : WP V 7 1 ls [.ref k] t I L R Q = WP V 7 2 ls [] t I L R Q := wp_objI rfl (Nat.le_of_ble_eq_true rfl)
theorem i7_2 {w1 : Value} {x : Nat} : WP V 7 2 [.ref x, w1] st t I L R Q = WP V 7 3 [.ref x, w1] (.ref x :: st) t I L R Q := wp_go rfl
theorem i7_3  : WP V 7 3 ls st t I L R Q = WP V 7 4 ls (.int (nI 0) :: st) t I L R Q := wp_go rfl
theorem i7_4 {k : Nat} {x : Int32} (h1 : k < t) (h2 : m_ob k 1 = true) : WP V 7 4 ls (.int x :: .ref k :: st) t I L R Q = WP V 7 5 ls st t (m_sc I k (m_sc (I k) 2 x)) L R Q := wp_putI rfl (by decide) h1 h2
theorem i7_5 {w1 : Value} {x : Nat} : WP V 7 5 [.ref x, w1] st t I L R Q = WP V 7 6 [.ref x, w1] (.ref x :: st) t I L R Q := wp_go rfl
theorem i7_6  : WP V 7 6 ls st t I L R Q = WP V 7 7 ls (.int (nI 0) :: st) t I L R Q := wp_go rfl
theorem i7_7 {k : Nat} {x : Int32} (h1 : k < t) (h2 : m_ob k 1 = true) : WP V 7 7 ls (.int x :: .ref k :: st) t I L R Q = WP V 7 8 ls st t (m_sc I k (m_sc (I k) 3 x)) L R Q := wp_putI rfl (by decide) h1 h2
theorem i7_8 {w1 : Value} {x : Nat} : WP V 7 8 [.ref x, w1] st t I L R Q = WP V 7 9 [.ref x, w1] (.ref x :: st) t I L R Q := wp_go rfl
theorem i7_9 {w0 : Value} {x : Nat} : WP V 7 9 [w0, .ref x] st t I L R Q = WP V 7 10 [w0, .ref x] (.ref x :: st) t I L R Q := wp_go rfl
theorem i7_10 {k x : Nat} (h1 : k < t) (h2 : m_ob k 1 = true) : WP V 7 10 ls (.ref x :: .ref k :: st) t I L R Q = WP V 7 11 ls st t I L (m_sc R k (m_sc (R k) 0 (some x))) Q := wp_putR rfl (by decide) h1 h2
theorem i7_10n {k : Nat} (h1 : k < t) (h2 : m_ob k 1 = true) : WP V 7 10 ls (.null :: .ref k :: st) t I L R Q = WP V 7 11 ls st t I L (m_sc R k (m_sc (R k) 0 none)) Q := wp_putN rfl (by decide) h1 h2
theorem i7_11 {w1 : Value} {x : Nat} : WP V 7 11 [.ref x, w1] st t I L R Q = WP V 7 12 [.ref x, w1] (.ref x :: st) t I L R Q := wp_go rfl
theorem i7_12 {w0 : Value} {x : Nat} : WP V 7 12 [w0, .ref x] st t I L R Q = WP V 7 13 [w0, .ref x] (.ref x :: st) t I L R Q := wp_go rfl
theorem i7_13 {k : Nat} (h1 : k < t) (h2 : m_ob k 3 = true) : WP V 7 13 ls (.ref k :: st) t I L R Q = WP V 7 14 ls (m_rv (R k 0) :: st) t I L R Q := wp_getR rfl (by decide) h1 h2
theorem i7_14 {k x : Nat} (h1 : k < t) (h2 : m_ob k 1 = true) : WP V 7 14 ls (.ref x :: .ref k :: st) t I L R Q = WP V 7 15 ls st t I L (m_sc R k (m_sc (R k) 1 (some x))) Q := wp_putR rfl (by decide) h1 h2
theorem i7_14n {k : Nat} (h1 : k < t) (h2 : m_ob k 1 = true) : WP V 7 14 ls (.null :: .ref k :: st) t I L R Q = WP V 7 15 ls st t I L (m_sc R k (m_sc (R k) 1 none)) Q := wp_putN rfl (by decide) h1 h2
theorem i7_15  : WP V 7 15 ls [] t I L R Q = Q none t I L R := wp_rtv rfl rfl
-- TransactionCells$Dealings.isWay(I)Z
theorem i8_0 {w1 : Value} {x : Nat} : WP V 8 0 [.ref x, w1] st t I L R Q = WP V 8 1 [.ref x, w1] (.ref x :: st) t I L R Q := wp_go rfl
theorem i8_1 {k : Nat} (h1 : k < t) (h2 : m_ob k 1 = true) : WP V 8 1 ls (.ref k :: st) t I L R Q = WP V 8 2 ls (m_rv (R k 1) :: st) t I L R Q := wp_getR rfl (by decide) h1 h2
theorem i8_2  : WP V 8 2 ls st t I L R Q = WP V 8 3 ls (.int (nI 564) :: st) t I L R Q := wp_go rfl
theorem i8_3 {k j : Nat} (h2 : m_ar k 2 581 = true) (h1 : k < t) (h3 : j < 581) : WP V 8 3 ls (.int (nI j) :: .ref k :: st) t I L R Q = WP V 8 4 ls (.int (I k j) :: st) t I L R Q := wp_iaload rfl (by decide) h1 h2 h3
theorem i8_4 {w0 : Value} {x : Int32} : WP V 8 4 [w0, .int x] st t I L R Q = WP V 8 5 [w0, .int x] (.int x :: st) t I L R Q := wp_go rfl
theorem i8_5 {x y : Int32} : WP V 8 5 ls (.int y :: .int x :: st) t I L R Q = if x = y then WP V 8 6 ls st t I L R Q else WP V 8 8 ls st t I L R Q := wp_brn (c := m_cc .ne x y) rfl rfl
theorem i8_6  : WP V 8 6 ls st t I L R Q = WP V 8 7 ls (.int (nI 1) :: st) t I L R Q := wp_go rfl
theorem i8_7  : WP V 8 7 ls st t I L R Q = WP V 8 9 ls st t I L R Q := wp_go rfl
theorem i8_8  : WP V 8 8 ls st t I L R Q = WP V 8 9 ls (.int (nI 0) :: st) t I L R Q := wp_go rfl
theorem i8_9 {x : Int32} (h : m_01 x = true) : WP V 8 9 ls [.int x] t I L R Q = Q (some (.int x)) t I L R := wp_rtz rfl rfl h
-- TransactionCells$Dealings.isOfAnother(II)Z
theorem i9_0 {w1 : Value} {x : Int32} : WP V 9 0 [.int x, w1] st t I L R Q = WP V 9 1 [.int x, w1] (.int x :: st) t I L R Q := wp_go rfl
theorem i9_1  : WP V 9 1 ls st t I L R Q = WP V 9 2 ls (.int (-1) :: st) t I L R Q := wp_go rfl
theorem i9_2 {x y : Int32} : WP V 9 2 ls (.int y :: .int x :: st) t I L R Q = if x = y then WP V 9 8 ls st t I L R Q else WP V 9 3 ls st t I L R Q := wp_br (c := m_cc .eq x y) rfl rfl
theorem i9_3 {w1 : Value} {x : Int32} : WP V 9 3 [.int x, w1] st t I L R Q = WP V 9 4 [.int x, w1] (.int x :: st) t I L R Q := wp_go rfl
theorem i9_4 {w0 : Value} {x : Int32} : WP V 9 4 [w0, .int x] st t I L R Q = WP V 9 5 [w0, .int x] (.int x :: st) t I L R Q := wp_go rfl
theorem i9_5 {x y : Int32} : WP V 9 5 ls (.int y :: .int x :: st) t I L R Q = if x = y then WP V 9 8 ls st t I L R Q else WP V 9 6 ls st t I L R Q := wp_br (c := m_cc .eq x y) rfl rfl
theorem i9_6  : WP V 9 6 ls st t I L R Q = WP V 9 7 ls (.int (nI 1) :: st) t I L R Q := wp_go rfl
theorem i9_7  : WP V 9 7 ls st t I L R Q = WP V 9 9 ls st t I L R Q := wp_go rfl
theorem i9_8  : WP V 9 8 ls st t I L R Q = WP V 9 9 ls (.int (nI 0) :: st) t I L R Q := wp_go rfl
theorem i9_9 {x : Int32} (h : m_01 x = true) : WP V 9 9 ls [.int x] t I L R Q = Q (some (.int x)) t I L R := wp_rtz rfl rfl h
-- TransactionCells$Dealings.begin(II)I
theorem i10_0 {w1 w2 w3 : Value} {x : Nat} : WP V 10 0 [.ref x, w1, w2, w3] st t I L R Q = WP V 10 1 [.ref x, w1, w2, w3] (.ref x :: st) t I L R Q := wp_go rfl
theorem i10_1 {k : Nat} (h1 : k < t) (h2 : m_ob k 1 = true) : WP V 10 1 ls (.ref k :: st) t I L R Q = WP V 10 2 ls (m_rv (R k 1) :: st) t I L R Q := wp_getR rfl (by decide) h1 h2
theorem i10_2  : WP V 10 2 ls st t I L R Q = WP V 10 3 ls (.int (nI 15) :: st) t I L R Q := wp_go rfl
theorem i10_3 {w0 w2 w3 : Value} {x : Int32} : WP V 10 3 [w0, .int x, w2, w3] st t I L R Q = WP V 10 4 [w0, .int x, w2, w3] (.int x :: st) t I L R Q := wp_go rfl
theorem i10_4 {x y : Int32} : WP V 10 4 ls (.int y :: .int x :: st) t I L R Q = WP V 10 5 ls (.int (x + y) :: st) t I L R Q := wp_go rfl
theorem i10_5 {k j : Nat} (h2 : m_ar k 2 581 = true) (h1 : k < t) (h3 : j < 581) : WP V 10 5 ls (.int (nI j) :: .ref k :: st) t I L R Q = WP V 10 6 ls (.int (I k j) :: st) t I L R Q := wp_iaload rfl (by decide) h1 h2 h3
theorem i10_6  : WP V 10 6 ls st t I L R Q = WP V 10 7 ls (.int (-1) :: st) t I L R Q := wp_go rfl
theorem i10_7 {x y : Int32} : WP V 10 7 ls (.int y :: .int x :: st) t I L R Q = if x = y then WP V 10 10 ls st t I L R Q else WP V 10 8 ls st t I L R Q := wp_br (c := m_cc .eq x y) rfl rfl
theorem i10_8  : WP V 10 8 ls st t I L R Q = WP V 10 9 ls (.int (nI 105) :: st) t I L R Q := wp_go rfl
theorem i10_9 {x : Int32} : WP V 10 9 ls [.int x] t I L R Q = Q (some (.int x)) t I L R := wp_rti rfl rfl
theorem i10_10 {w1 w2 w3 : Value} {x : Nat} : WP V 10 10 [.ref x, w1, w2, w3] st t I L R Q = WP V 10 11 [.ref x, w1, w2, w3] (.ref x :: st) t I L R Q := wp_go rfl
theorem i10_11  : WP V 10 11 ls st t I L R Q = WP V 10 12 ls (.int (nI 3) :: st) t I L R Q := wp_go rfl
theorem i10_12 {x0 : Int32} {x1 : Nat}  (h1 : x1 < t) (h2 : m_ob x1 1 = true) : WP V 10 12 ls [.int x0, .ref x1] t I L R Q = WPC V 8 [.ref x1, .int x0] 10 13 ls [] t I L R Q := wp_cls (wp_icv rfl rfl h1 h2) (by decide) (Nat.le_of_ble_eq_true rfl) rfl rfl (Nat.le_of_ble_eq_true rfl) (Nat.le_of_ble_eq_true rfl)
theorem i10_13 {x : Int32} : WP V 10 13 ls (.int x :: st) t I L R Q = if x = nI 0 then WP V 10 23 ls st t I L R Q else WP V 10 14 ls st t I L R Q := wp_br (c := m_cc .eq x 0) rfl rfl
theorem i10_14 {w1 w2 w3 : Value} {x : Nat} : WP V 10 14 [.ref x, w1, w2, w3] st t I L R Q = WP V 10 15 [.ref x, w1, w2, w3] (.ref x :: st) t I L R Q := wp_go rfl
theorem i10_15 {k : Nat} (h1 : k < t) (h2 : m_ob k 1 = true) : WP V 10 15 ls (.ref k :: st) t I L R Q = WP V 10 16 ls (m_rv (R k 1) :: st) t I L R Q := wp_getR rfl (by decide) h1 h2
theorem i10_16  : WP V 10 16 ls st t I L R Q = WP V 10 17 ls (.int (nI 1) :: st) t I L R Q := wp_go rfl
theorem i10_17 {k j : Nat} (h2 : m_ar k 2 581 = true) (h1 : k < t) (h3 : j < 581) : WP V 10 17 ls (.int (nI j) :: .ref k :: st) t I L R Q = WP V 10 18 ls (.int (I k j) :: st) t I L R Q := wp_iaload rfl (by decide) h1 h2 h3
theorem i10_18 {w0 w2 w3 : Value} {x : Int32} : WP V 10 18 [w0, .int x, w2, w3] st t I L R Q = WP V 10 19 [w0, .int x, w2, w3] (.int x :: st) t I L R Q := wp_go rfl
theorem i10_19 {x0 : Int32} {x1 : Int32}  : WP V 10 19 ls [.int x0, .int x1] t I L R Q = WPC V 9 [.int x1, .int x0] 10 20 ls [] t I L R Q := wp_cls (wp_ics rfl (by decide)) (by decide) (Nat.le_of_ble_eq_true rfl) rfl rfl (Nat.le_of_ble_eq_true rfl) (Nat.le_of_ble_eq_true rfl)
theorem i10_20 {x : Int32} : WP V 10 20 ls (.int x :: st) t I L R Q = if x = nI 0 then WP V 10 23 ls st t I L R Q else WP V 10 21 ls st t I L R Q := wp_br (c := m_cc .eq x 0) rfl rfl
theorem i10_21  : WP V 10 21 ls st t I L R Q = WP V 10 22 ls (.int (nI 0) :: st) t I L R Q := wp_go rfl
theorem i10_22 {x : Int32} : WP V 10 22 ls [.int x] t I L R Q = Q (some (.int x)) t I L R := wp_rti rfl rfl
theorem i10_23 {w0 w1 w3 : Value} {x : Int32} : WP V 10 23 [w0, w1, .int x, w3] st t I L R Q = WP V 10 24 [w0, w1, .int x, w3] (.int x :: st) t I L R Q := wp_go rfl
theorem i10_24  : WP V 10 24 ls st t I L R Q = WP V 10 25 ls (.int (nI 3) :: st) t I L R Q := wp_go rfl
theorem i10_25 {x y : Int32} : WP V 10 25 ls (.int y :: .int x :: st) t I L R Q = if x = y then WP V 10 26 ls st t I L R Q else WP V 10 34 ls st t I L R Q := wp_brn (c := m_cc .ne x y) rfl rfl
theorem i10_26 {w1 w2 w3 : Value} {x : Nat} : WP V 10 26 [.ref x, w1, w2, w3] st t I L R Q = WP V 10 27 [.ref x, w1, w2, w3] (.ref x :: st) t I L R Q := wp_go rfl
theorem i10_27 {k : Nat} (h1 : k < t) (h2 : m_ob k 1 = true) : WP V 10 27 ls (.ref k :: st) t I L R Q = WP V 10 28 ls (m_rv (R k 1) :: st) t I L R Q := wp_getR rfl (by decide) h1 h2
theorem i10_28  : WP V 10 28 ls st t I L R Q = WP V 10 29 ls (.int (nI 2) :: st) t I L R Q := wp_go rfl
theorem i10_29 {k j : Nat} (h2 : m_ar k 2 581 = true) (h1 : k < t) (h3 : j < 581) : WP V 10 29 ls (.int (nI j) :: .ref k :: st) t I L R Q = WP V 10 30 ls (.int (I k j) :: st) t I L R Q := wp_iaload rfl (by decide) h1 h2 h3
theorem i10_30  : WP V 10 30 ls st t I L R Q = WP V 10 31 ls (.int (-1) :: st) t I L R Q := wp_go rfl
theorem i10_31 {x y : Int32} : WP V 10 31 ls (.int y :: .int x :: st) t I L R Q = if x = y then WP V 10 34 ls st t I L R Q else WP V 10 32 ls st t I L R Q := wp_br (c := m_cc .eq x y) rfl rfl
theorem i10_32  : WP V 10 32 ls st t I L R Q = WP V 10 33 ls (.int (nI 0) :: st) t I L R Q := wp_go rfl
theorem i10_33 {x : Int32} : WP V 10 33 ls [.int x] t I L R Q = Q (some (.int x)) t I L R := wp_rti rfl rfl
theorem i10_34 {w1 w2 w3 : Value} {x : Nat} : WP V 10 34 [.ref x, w1, w2, w3] st t I L R Q = WP V 10 35 [.ref x, w1, w2, w3] (.ref x :: st) t I L R Q := wp_go rfl
theorem i10_35  : WP V 10 35 ls st t I L R Q = WP V 10 36 ls (.int (nI 3) :: st) t I L R Q := wp_go rfl
theorem i10_36 {x0 : Int32} {x1 : Nat}  (h1 : x1 < t) (h2 : m_ob x1 1 = true) : WP V 10 36 ls [.int x0, .ref x1] t I L R Q = WPC V 8 [.ref x1, .int x0] 10 37 ls [] t I L R Q := wp_cls (wp_icv rfl rfl h1 h2) (by decide) (Nat.le_of_ble_eq_true rfl) rfl rfl (Nat.le_of_ble_eq_true rfl) (Nat.le_of_ble_eq_true rfl)
theorem i10_37 {x : Int32} : WP V 10 37 ls (.int x :: st) t I L R Q = if x = nI 0 then WP V 10 43 ls st t I L R Q else WP V 10 38 ls st t I L R Q := wp_br (c := m_cc .eq x 0) rfl rfl
theorem i10_38 {w1 w2 w3 : Value} {x : Nat} : WP V 10 38 [.ref x, w1, w2, w3] st t I L R Q = WP V 10 39 [.ref x, w1, w2, w3] (.ref x :: st) t I L R Q := wp_go rfl
theorem i10_39 {k : Nat} (h1 : k < t) (h2 : m_ob k 1 = true) : WP V 10 39 ls (.ref k :: st) t I L R Q = WP V 10 40 ls (m_rv (R k 1) :: st) t I L R Q := wp_getR rfl (by decide) h1 h2
theorem i10_40  : WP V 10 40 ls st t I L R Q = WP V 10 41 ls (.int (nI 1) :: st) t I L R Q := wp_go rfl
theorem i10_41 {w0 w2 w3 : Value} {x : Int32} : WP V 10 41 [w0, .int x, w2, w3] st t I L R Q = WP V 10 42 [w0, .int x, w2, w3] (.int x :: st) t I L R Q := wp_go rfl
theorem i10_42 {k j : Nat} {x : Int32} (h2 : m_ar k 2 581 = true) (h1 : k < t) (h3 : j < 581) : WP V 10 42 ls (.int x :: .int (nI j) :: .ref k :: st) t I L R Q = WP V 10 43 ls st t (m_sc I k (m_sc (I k) j x)) L R Q := wp_iastore rfl (by decide) h1 h2 h3
theorem i10_43 {w0 w1 w3 : Value} {x : Int32} : WP V 10 43 [w0, w1, .int x, w3] st t I L R Q = WP V 10 44 [w0, w1, .int x, w3] (.int x :: st) t I L R Q := wp_go rfl
theorem i10_44  : WP V 10 44 ls st t I L R Q = WP V 10 45 ls (.int (nI 3) :: st) t I L R Q := wp_go rfl
theorem i10_45 {x y : Int32} : WP V 10 45 ls (.int y :: .int x :: st) t I L R Q = if x = y then WP V 10 46 ls st t I L R Q else WP V 10 51 ls st t I L R Q := wp_brn (c := m_cc .ne x y) rfl rfl
theorem i10_46 {w1 w2 w3 : Value} {x : Nat} : WP V 10 46 [.ref x, w1, w2, w3] st t I L R Q = WP V 10 47 [.ref x, w1, w2, w3] (.ref x :: st) t I L R Q := wp_go rfl
theorem i10_47 {k : Nat} (h1 : k < t) (h2 : m_ob k 1 = true) : WP V 10 47 ls (.ref k :: st) t I L R Q = WP V 10 48 ls (m_rv (R k 1) :: st) t I L R Q := wp_getR rfl (by decide) h1 h2
theorem i10_48  : WP V 10 48 ls st t I L R Q = WP V 10 49 ls (.int (nI 2) :: st) t I L R Q := wp_go rfl
theorem i10_49 {w0 w2 w3 : Value} {x : Int32} : WP V 10 49 [w0, .int x, w2, w3] st t I L R Q = WP V 10 50 [w0, .int x, w2, w3] (.int x :: st) t I L R Q := wp_go rfl
theorem i10_50 {k j : Nat} {x : Int32} (h2 : m_ar k 2 581 = true) (h1 : k < t) (h3 : j < 581) : WP V 10 50 ls (.int x :: .int (nI j) :: .ref k :: st) t I L R Q = WP V 10 51 ls st t (m_sc I k (m_sc (I k) j x)) L R Q := wp_iastore rfl (by decide) h1 h2 h3
theorem i10_51  : WP V 10 51 ls st t I L R Q = WP V 10 52 ls (.int (nI 47) :: st) t I L R Q := wp_go rfl
theorem i10_52 {w0 w2 w3 : Value} {x : Int32} : WP V 10 52 [w0, .int x, w2, w3] st t I L R Q = WP V 10 53 [w0, .int x, w2, w3] (.int x :: st) t I L R Q := wp_go rfl
theorem i10_53 {x y : Int32} : WP V 10 53 ls (.int y :: .int x :: st) t I L R Q = WP V 10 54 ls (.int (x * y) :: st) t I L R Q := wp_go rfl
theorem i10_54 {p : Int32} {w0 w1 w3 : Value} {x : Int32} : WP V 10 54 [w0, w1, .int p, w3] (.int x :: st) t I L R Q = WP V 10 55 [w0, w1, .int p, .int x] st t I L R Q := wp_go rfl
theorem i10_55 {w1 w2 w3 : Value} {x : Nat} : WP V 10 55 [.ref x, w1, w2, w3] st t I L R Q = WP V 10 56 [.ref x, w1, w2, w3] (.ref x :: st) t I L R Q := wp_go rfl
theorem i10_56 {k : Nat} (h1 : k < t) (h2 : m_ob k 1 = true) : WP V 10 56 ls (.ref k :: st) t I L R Q = WP V 10 57 ls (m_rv (R k 1) :: st) t I L R Q := wp_getR rfl (by decide) h1 h2
theorem i10_57  : WP V 10 57 ls st t I L R Q = WP V 10 58 ls (.int (nI 15) :: st) t I L R Q := wp_go rfl
theorem i10_58 {w0 w2 w3 : Value} {x : Int32} : WP V 10 58 [w0, .int x, w2, w3] st t I L R Q = WP V 10 59 [w0, .int x, w2, w3] (.int x :: st) t I L R Q := wp_go rfl
theorem i10_59 {x y : Int32} : WP V 10 59 ls (.int y :: .int x :: st) t I L R Q = WP V 10 60 ls (.int (x + y) :: st) t I L R Q := wp_go rfl
theorem i10_60 {w0 w1 w3 : Value} {x : Int32} : WP V 10 60 [w0, w1, .int x, w3] st t I L R Q = WP V 10 61 [w0, w1, .int x, w3] (.int x :: st) t I L R Q := wp_go rfl
theorem i10_61 {k j : Nat} {x : Int32} (h2 : m_ar k 2 581 = true) (h1 : k < t) (h3 : j < 581) : WP V 10 61 ls (.int x :: .int (nI j) :: .ref k :: st) t I L R Q = WP V 10 62 ls st t (m_sc I k (m_sc (I k) j x)) L R Q := wp_iastore rfl (by decide) h1 h2 h3
theorem i10_62 {w1 w2 w3 : Value} {x : Nat} : WP V 10 62 [.ref x, w1, w2, w3] st t I L R Q = WP V 10 63 [.ref x, w1, w2, w3] (.ref x :: st) t I L R Q := wp_go rfl
theorem i10_63 {k : Nat} (h1 : k < t) (h2 : m_ob k 1 = true) : WP V 10 63 ls (.ref k :: st) t I L R Q = WP V 10 64 ls (m_rv (R k 1) :: st) t I L R Q := wp_getR rfl (by decide) h1 h2
theorem i10_64  : WP V 10 64 ls st t I L R Q = WP V 10 65 ls (.int (nI 18) :: st) t I L R Q := wp_go rfl
theorem i10_65 {w0 w2 w3 : Value} {x : Int32} : WP V 10 65 [w0, .int x, w2, w3] st t I L R Q = WP V 10 66 [w0, .int x, w2, w3] (.int x :: st) t I L R Q := wp_go rfl
theorem i10_66 {x y : Int32} : WP V 10 66 ls (.int y :: .int x :: st) t I L R Q = WP V 10 67 ls (.int (x + y) :: st) t I L R Q := wp_go rfl
theorem i10_67 {w1 w2 w3 : Value} {x : Nat} : WP V 10 67 [.ref x, w1, w2, w3] st t I L R Q = WP V 10 68 [.ref x, w1, w2, w3] (.ref x :: st) t I L R Q := wp_go rfl
theorem i10_68 {k : Nat} (h1 : k < t) (h2 : m_ob k 1 = true) : WP V 10 68 ls (.ref k :: st) t I L R Q = WP V 10 69 ls (m_rv (R k 1) :: st) t I L R Q := wp_getR rfl (by decide) h1 h2
theorem i10_69  : WP V 10 69 ls st t I L R Q = WP V 10 70 ls (.int (nI 559) :: st) t I L R Q := wp_go rfl
theorem i10_70 {v0 : Int32} {v1 : Nat} : WP V 10 70 ls (.int v0 :: .ref v1 :: st) t I L R Q = WP V 10 71 ls (.int v0 :: .ref v1 :: .int v0 :: .ref v1 :: st) t I L R Q := wp_go rfl
theorem i10_71 {k j : Nat} (h2 : m_ar k 2 581 = true) (h1 : k < t) (h3 : j < 581) : WP V 10 71 ls (.int (nI j) :: .ref k :: st) t I L R Q = WP V 10 72 ls (.int (I k j) :: st) t I L R Q := wp_iaload rfl (by decide) h1 h2 h3
theorem i10_72 {v0 : Int32} {v1 : Int32} {v2 : Nat} : WP V 10 72 ls (.int v0 :: .int v1 :: .ref v2 :: st) t I L R Q = WP V 10 73 ls (.int v0 :: .int v1 :: .ref v2 :: .int v0 :: st) t I L R Q := wp_go rfl
theorem i10_73  : WP V 10 73 ls st t I L R Q = WP V 10 74 ls (.int (nI 1) :: st) t I L R Q := wp_go rfl
theorem i10_74 {x y : Int32} : WP V 10 74 ls (.int y :: .int x :: st) t I L R Q = WP V 10 75 ls (.int (x + y) :: st) t I L R Q := wp_go rfl
theorem i10_75 {k j : Nat} {x : Int32} (h2 : m_ar k 2 581 = true) (h1 : k < t) (h3 : j < 581) : WP V 10 75 ls (.int x :: .int (nI j) :: .ref k :: st) t I L R Q = WP V 10 76 ls st t (m_sc I k (m_sc (I k) j x)) L R Q := wp_iastore rfl (by decide) h1 h2 h3
theorem i10_76 {k j : Nat} {x : Int32} (h2 : m_ar k 2 581 = true) (h1 : k < t) (h3 : j < 581) : WP V 10 76 ls (.int x :: .int (nI j) :: .ref k :: st) t I L R Q = WP V 10 77 ls st t (m_sc I k (m_sc (I k) j x)) L R Q := wp_iastore rfl (by decide) h1 h2 h3
theorem i10_77 {w1 w2 w3 : Value} {x : Nat} : WP V 10 77 [.ref x, w1, w2, w3] st t I L R Q = WP V 10 78 [.ref x, w1, w2, w3] (.ref x :: st) t I L R Q := wp_go rfl
theorem i10_78 {k : Nat} (h1 : k < t) (h2 : m_ob k 1 = true) : WP V 10 78 ls (.ref k :: st) t I L R Q = WP V 10 79 ls (m_rv (R k 1) :: st) t I L R Q := wp_getR rfl (by decide) h1 h2
theorem i10_79  : WP V 10 79 ls st t I L R Q = WP V 10 80 ls (.int (nI 145) :: st) t I L R Q := wp_go rfl
theorem i10_80 {w0 w1 w2 : Value} {x : Int32} : WP V 10 80 [w0, w1, w2, .int x] st t I L R Q = WP V 10 81 [w0, w1, w2, .int x] (.int x :: st) t I L R Q := wp_go rfl
theorem i10_81 {x y : Int32} : WP V 10 81 ls (.int y :: .int x :: st) t I L R Q = WP V 10 82 ls (.int (x + y) :: st) t I L R Q := wp_go rfl
theorem i10_82 {w1 w2 w3 : Value} {x : Nat} : WP V 10 82 [.ref x, w1, w2, w3] st t I L R Q = WP V 10 83 [.ref x, w1, w2, w3] (.ref x :: st) t I L R Q := wp_go rfl
theorem i10_83 {k : Nat} (h1 : k < t) (h2 : m_ob k 1 = true) : WP V 10 83 ls (.ref k :: st) t I L R Q = WP V 10 84 ls (m_rv (R k 1) :: st) t I L R Q := wp_getR rfl (by decide) h1 h2
theorem i10_84  : WP V 10 84 ls st t I L R Q = WP V 10 85 ls (.int (nI 0) :: st) t I L R Q := wp_go rfl
theorem i10_85 {k j : Nat} (h2 : m_ar k 2 581 = true) (h1 : k < t) (h3 : j < 581) : WP V 10 85 ls (.int (nI j) :: .ref k :: st) t I L R Q = WP V 10 86 ls (.int (I k j) :: st) t I L R Q := wp_iaload rfl (by decide) h1 h2 h3
theorem i10_86 {k j : Nat} {x : Int32} (h2 : m_ar k 2 581 = true) (h1 : k < t) (h3 : j < 581) : WP V 10 86 ls (.int x :: .int (nI j) :: .ref k :: st) t I L R Q = WP V 10 87 ls st t (m_sc I k (m_sc (I k) j x)) L R Q := wp_iastore rfl (by decide) h1 h2 h3
theorem i10_87 {w1 w2 w3 : Value} {x : Nat} : WP V 10 87 [.ref x, w1, w2, w3] st t I L R Q = WP V 10 88 [.ref x, w1, w2, w3] (.ref x :: st) t I L R Q := wp_go rfl
theorem i10_88 {k : Nat} (h1 : k < t) (h2 : m_ob k 1 = true) : WP V 10 88 ls (.ref k :: st) t I L R Q = WP V 10 89 ls (m_rv (R k 1) :: st) t I L R Q := wp_getR rfl (by decide) h1 h2
theorem i10_89  : WP V 10 89 ls st t I L R Q = WP V 10 90 ls (.int (nI 146) :: st) t I L R Q := wp_go rfl
theorem i10_90 {w0 w1 w2 : Value} {x : Int32} : WP V 10 90 [w0, w1, w2, .int x] st t I L R Q = WP V 10 91 [w0, w1, w2, .int x] (.int x :: st) t I L R Q := wp_go rfl
theorem i10_91 {x y : Int32} : WP V 10 91 ls (.int y :: .int x :: st) t I L R Q = WP V 10 92 ls (.int (x + y) :: st) t I L R Q := wp_go rfl
theorem i10_92 {w1 w2 w3 : Value} {x : Nat} : WP V 10 92 [.ref x, w1, w2, w3] st t I L R Q = WP V 10 93 [.ref x, w1, w2, w3] (.ref x :: st) t I L R Q := wp_go rfl
theorem i10_93 {k : Nat} (h1 : k < t) (h2 : m_ob k 1 = true) : WP V 10 93 ls (.ref k :: st) t I L R Q = WP V 10 94 ls (m_rv (R k 1) :: st) t I L R Q := wp_getR rfl (by decide) h1 h2
theorem i10_94  : WP V 10 94 ls st t I L R Q = WP V 10 95 ls (.int (nI 6) :: st) t I L R Q := wp_go rfl
theorem i10_95 {w0 w2 w3 : Value} {x : Int32} : WP V 10 95 [w0, .int x, w2, w3] st t I L R Q = WP V 10 96 [w0, .int x, w2, w3] (.int x :: st) t I L R Q := wp_go rfl
theorem i10_96 {x y : Int32} : WP V 10 96 ls (.int y :: .int x :: st) t I L R Q = WP V 10 97 ls (.int (x + y) :: st) t I L R Q := wp_go rfl
theorem i10_97 {k j : Nat} (h2 : m_ar k 2 581 = true) (h1 : k < t) (h3 : j < 581) : WP V 10 97 ls (.int (nI j) :: .ref k :: st) t I L R Q = WP V 10 98 ls (.int (I k j) :: st) t I L R Q := wp_iaload rfl (by decide) h1 h2 h3
theorem i10_98  : WP V 10 98 ls st t I L R Q = WP V 10 99 ls (.int (nI 1) :: st) t I L R Q := wp_go rfl
theorem i10_99 {x y : Int32} : WP V 10 99 ls (.int y :: .int x :: st) t I L R Q = WP V 10 100 ls (.int (x + y) :: st) t I L R Q := wp_go rfl
theorem i10_100 {k j : Nat} {x : Int32} (h2 : m_ar k 2 581 = true) (h1 : k < t) (h3 : j < 581) : WP V 10 100 ls (.int x :: .int (nI j) :: .ref k :: st) t I L R Q = WP V 10 101 ls st t (m_sc I k (m_sc (I k) j x)) L R Q := wp_iastore rfl (by decide) h1 h2 h3
theorem i10_101 {w1 w2 w3 : Value} {x : Nat} : WP V 10 101 [.ref x, w1, w2, w3] st t I L R Q = WP V 10 102 [.ref x, w1, w2, w3] (.ref x :: st) t I L R Q := wp_go rfl
theorem i10_102 {k : Nat} (h1 : k < t) (h2 : m_ob k 1 = true) : WP V 10 102 ls (.ref k :: st) t I L R Q = WP V 10 103 ls (m_rv (R k 1) :: st) t I L R Q := wp_getR rfl (by decide) h1 h2
theorem i10_103  : WP V 10 103 ls st t I L R Q = WP V 10 104 ls (.int (nI 147) :: st) t I L R Q := wp_go rfl
theorem i10_104 {w0 w1 w2 : Value} {x : Int32} : WP V 10 104 [w0, w1, w2, .int x] st t I L R Q = WP V 10 105 [w0, w1, w2, .int x] (.int x :: st) t I L R Q := wp_go rfl
theorem i10_105 {x y : Int32} : WP V 10 105 ls (.int y :: .int x :: st) t I L R Q = WP V 10 106 ls (.int (x + y) :: st) t I L R Q := wp_go rfl
theorem i10_106 {w1 w2 w3 : Value} {x : Nat} : WP V 10 106 [.ref x, w1, w2, w3] st t I L R Q = WP V 10 107 [.ref x, w1, w2, w3] (.ref x :: st) t I L R Q := wp_go rfl
theorem i10_107 {k : Nat} (h1 : k < t) (h2 : m_ob k 1 = true) : WP V 10 107 ls (.ref k :: st) t I L R Q = WP V 10 108 ls (m_rv (R k 1) :: st) t I L R Q := wp_getR rfl (by decide) h1 h2
theorem i10_108  : WP V 10 108 ls st t I L R Q = WP V 10 109 ls (.int (nI 12) :: st) t I L R Q := wp_go rfl
theorem i10_109 {w0 w2 w3 : Value} {x : Int32} : WP V 10 109 [w0, .int x, w2, w3] st t I L R Q = WP V 10 110 [w0, .int x, w2, w3] (.int x :: st) t I L R Q := wp_go rfl
theorem i10_110 {x y : Int32} : WP V 10 110 ls (.int y :: .int x :: st) t I L R Q = WP V 10 111 ls (.int (x + y) :: st) t I L R Q := wp_go rfl
theorem i10_111 {k j : Nat} (h2 : m_ar k 2 581 = true) (h1 : k < t) (h3 : j < 581) : WP V 10 111 ls (.int (nI j) :: .ref k :: st) t I L R Q = WP V 10 112 ls (.int (I k j) :: st) t I L R Q := wp_iaload rfl (by decide) h1 h2 h3
theorem i10_112 {k j : Nat} {x : Int32} (h2 : m_ar k 2 581 = true) (h1 : k < t) (h3 : j < 581) : WP V 10 112 ls (.int x :: .int (nI j) :: .ref k :: st) t I L R Q = WP V 10 113 ls st t (m_sc I k (m_sc (I k) j x)) L R Q := wp_iastore rfl (by decide) h1 h2 h3
theorem i10_113 {w1 w2 w3 : Value} {x : Nat} : WP V 10 113 [.ref x, w1, w2, w3] st t I L R Q = WP V 10 114 [.ref x, w1, w2, w3] (.ref x :: st) t I L R Q := wp_go rfl
theorem i10_114 {k : Nat} (h1 : k < t) (h2 : m_ob k 1 = true) : WP V 10 114 ls (.ref k :: st) t I L R Q = WP V 10 115 ls (m_rv (R k 1) :: st) t I L R Q := wp_getR rfl (by decide) h1 h2
theorem i10_115  : WP V 10 115 ls st t I L R Q = WP V 10 116 ls (.int (nI 21) :: st) t I L R Q := wp_go rfl
theorem i10_116  : WP V 10 116 ls st t I L R Q = WP V 10 117 ls (.int (nI 4) :: st) t I L R Q := wp_go rfl
theorem i10_117 {w0 w2 w3 : Value} {x : Int32} : WP V 10 117 [w0, .int x, w2, w3] st t I L R Q = WP V 10 118 [w0, .int x, w2, w3] (.int x :: st) t I L R Q := wp_go rfl
theorem i10_118 {x y : Int32} : WP V 10 118 ls (.int y :: .int x :: st) t I L R Q = WP V 10 119 ls (.int (x * y) :: st) t I L R Q := wp_go rfl
theorem i10_119 {x y : Int32} : WP V 10 119 ls (.int y :: .int x :: st) t I L R Q = WP V 10 120 ls (.int (x + y) :: st) t I L R Q := wp_go rfl
theorem i10_120 {w1 w2 w3 : Value} {x : Nat} : WP V 10 120 [.ref x, w1, w2, w3] st t I L R Q = WP V 10 121 [.ref x, w1, w2, w3] (.ref x :: st) t I L R Q := wp_go rfl
theorem i10_121 {k : Nat} (h1 : k < t) (h2 : m_ob k 1 = true) : WP V 10 121 ls (.ref k :: st) t I L R Q = WP V 10 122 ls (m_rv (R k 1) :: st) t I L R Q := wp_getR rfl (by decide) h1 h2
theorem i10_122  : WP V 10 122 ls st t I L R Q = WP V 10 123 ls (.int (nI 148) :: st) t I L R Q := wp_go rfl
theorem i10_123 {w0 w1 w2 : Value} {x : Int32} : WP V 10 123 [w0, w1, w2, .int x] st t I L R Q = WP V 10 124 [w0, w1, w2, .int x] (.int x :: st) t I L R Q := wp_go rfl
theorem i10_124 {x y : Int32} : WP V 10 124 ls (.int y :: .int x :: st) t I L R Q = WP V 10 125 ls (.int (x + y) :: st) t I L R Q := wp_go rfl
theorem i10_125  : WP V 10 125 ls st t I L R Q = WP V 10 126 ls (.int (nI 4) :: st) t I L R Q := wp_go rfl
theorem i10_126 {s d sp dp cnt : Nat} (h3 : m_ar s 2 581 = true) (h4 : m_ar d 2 581 = true) (h1 : s < t) (h2 : d < t) (h5 : sp + cnt ≤ 581) (h6 : dp + cnt ≤ 581) : WP V 10 126 ls [.int (nI cnt), .int (nI dp), .ref d, .int (nI sp), .ref s] t I L R Q = WP V 10 127 ls [] t (m_sc I d (va_cpy (I s) (I d) sp dp cnt)) L R Q := wp_copyi rfl (by decide) (by decide) h1 h2 h3 h4 h5 h6 (by decide)
theorem i10_127  : WP V 10 127 ls st t I L R Q = WP V 10 128 ls (.int (nI 6) :: st) t I L R Q := wp_go rfl
theorem i10_128 {x : Int32} : WP V 10 128 ls [.int x] t I L R Q = Q (some (.int x)) t I L R := wp_rti rfl rfl
-- TransactionCells$Dealings.look(II)I
theorem i11_0 {w1 w2 w3 w4 : Value} {x : Nat} : WP V 11 0 [.ref x, w1, w2, w3, w4] st t I L R Q = WP V 11 1 [.ref x, w1, w2, w3, w4] (.ref x :: st) t I L R Q := wp_go rfl
theorem i11_1 {k : Nat} (h1 : k < t) (h2 : m_ob k 1 = true) : WP V 11 1 ls (.ref k :: st) t I L R Q = WP V 11 2 ls (m_rv (R k 1) :: st) t I L R Q := wp_getR rfl (by decide) h1 h2
theorem i11_2  : WP V 11 2 ls st t I L R Q = WP V 11 3 ls (.int (nI 15) :: st) t I L R Q := wp_go rfl
theorem i11_3 {w0 w2 w3 w4 : Value} {x : Int32} : WP V 11 3 [w0, .int x, w2, w3, w4] st t I L R Q = WP V 11 4 [w0, .int x, w2, w3, w4] (.int x :: st) t I L R Q := wp_go rfl
theorem i11_4 {x y : Int32} : WP V 11 4 ls (.int y :: .int x :: st) t I L R Q = WP V 11 5 ls (.int (x + y) :: st) t I L R Q := wp_go rfl
theorem i11_5 {k j : Nat} (h2 : m_ar k 2 581 = true) (h1 : k < t) (h3 : j < 581) : WP V 11 5 ls (.int (nI j) :: .ref k :: st) t I L R Q = WP V 11 6 ls (.int (I k j) :: st) t I L R Q := wp_iaload rfl (by decide) h1 h2 h3
theorem i11_6  : WP V 11 6 ls st t I L R Q = WP V 11 7 ls (.int (-1) :: st) t I L R Q := wp_go rfl
theorem i11_7 {x y : Int32} : WP V 11 7 ls (.int y :: .int x :: st) t I L R Q = if x = y then WP V 11 8 ls st t I L R Q else WP V 11 13 ls st t I L R Q := wp_brn (c := m_cc .ne x y) rfl rfl
theorem i11_8 {w1 w2 w3 w4 : Value} {x : Nat} : WP V 11 8 [.ref x, w1, w2, w3, w4] st t I L R Q = WP V 11 9 [.ref x, w1, w2, w3, w4] (.ref x :: st) t I L R Q := wp_go rfl
theorem i11_9 {w0 w2 w3 w4 : Value} {x : Int32} : WP V 11 9 [w0, .int x, w2, w3, w4] st t I L R Q = WP V 11 10 [w0, .int x, w2, w3, w4] (.int x :: st) t I L R Q := wp_go rfl
theorem i11_10 {w0 w1 w3 w4 : Value} {x : Int32} : WP V 11 10 [w0, w1, .int x, w3, w4] st t I L R Q = WP V 11 11 [w0, w1, .int x, w3, w4] (.int x :: st) t I L R Q := wp_go rfl
theorem i11_11 {x0 : Int32} {x1 : Int32} {x2 : Nat}  (h1 : x2 < t) (h2 : m_ob x2 1 = true) : WP V 11 11 ls [.int x0, .int x1, .ref x2] t I L R Q = WPC V 12 [.ref x2, .int x1, .int x0] 11 12 ls [] t I L R Q := wp_cls (wp_icv rfl rfl h1 h2) (by decide) (Nat.le_of_ble_eq_true rfl) rfl rfl (Nat.le_of_ble_eq_true rfl) (Nat.le_of_ble_eq_true rfl)
theorem i11_12 {x : Int32} : WP V 11 12 ls [.int x] t I L R Q = Q (some (.int x)) t I L R := wp_rti rfl rfl
theorem i11_13  : WP V 11 13 ls st t I L R Q = WP V 11 14 ls (.int (nI 176) :: st) t I L R Q := wp_go rfl
theorem i11_14  : WP V 11 14 ls st t I L R Q = WP V 11 15 ls (.int (nI 47) :: st) t I L R Q := wp_go rfl
theorem i11_15 {w0 w2 w3 w4 : Value} {x : Int32} : WP V 11 15 [w0, .int x, w2, w3, w4] st t I L R Q = WP V 11 16 [w0, .int x, w2, w3, w4] (.int x :: st) t I L R Q := wp_go rfl
theorem i11_16 {x y : Int32} : WP V 11 16 ls (.int y :: .int x :: st) t I L R Q = WP V 11 17 ls (.int (x * y) :: st) t I L R Q := wp_go rfl
theorem i11_17 {x y : Int32} : WP V 11 17 ls (.int y :: .int x :: st) t I L R Q = WP V 11 18 ls (.int (x + y) :: st) t I L R Q := wp_go rfl
theorem i11_18 {w0 w1 w3 w4 : Value} {x : Int32} : WP V 11 18 [w0, w1, .int x, w3, w4] st t I L R Q = WP V 11 19 [w0, w1, .int x, w3, w4] (.int x :: st) t I L R Q := wp_go rfl
theorem i11_19 {x y : Int32} : WP V 11 19 ls (.int y :: .int x :: st) t I L R Q = WP V 11 20 ls (.int (x + y) :: st) t I L R Q := wp_go rfl
theorem i11_20 {p : Int32} {w0 w1 w3 w4 : Value} {x : Int32} : WP V 11 20 [w0, w1, .int p, w3, w4] (.int x :: st) t I L R Q = WP V 11 21 [w0, w1, .int p, .int x, w4] st t I L R Q := wp_go rfl
theorem i11_21 {w1 w2 w3 w4 : Value} {x : Nat} : WP V 11 21 [.ref x, w1, w2, w3, w4] st t I L R Q = WP V 11 22 [.ref x, w1, w2, w3, w4] (.ref x :: st) t I L R Q := wp_go rfl
theorem i11_22 {k : Nat} (h1 : k < t) (h2 : m_ob k 1 = true) : WP V 11 22 ls (.ref k :: st) t I L R Q = WP V 11 23 ls (m_rv (R k 1) :: st) t I L R Q := wp_getR rfl (by decide) h1 h2
theorem i11_23 {w0 w1 w2 w4 : Value} {x : Int32} : WP V 11 23 [w0, w1, w2, .int x, w4] st t I L R Q = WP V 11 24 [w0, w1, w2, .int x, w4] (.int x :: st) t I L R Q := wp_go rfl
theorem i11_24 {k j : Nat} (h2 : m_ar k 2 581 = true) (h1 : k < t) (h3 : j < 581) : WP V 11 24 ls (.int (nI j) :: .ref k :: st) t I L R Q = WP V 11 25 ls (.int (I k j) :: st) t I L R Q := wp_iaload rfl (by decide) h1 h2 h3
theorem i11_25  : WP V 11 25 ls st t I L R Q = WP V 11 26 ls (.int (-1) :: st) t I L R Q := wp_go rfl
theorem i11_26 {x y : Int32} : WP V 11 26 ls (.int y :: .int x :: st) t I L R Q = if x = y then WP V 11 40 ls st t I L R Q else WP V 11 27 ls st t I L R Q := wp_br (c := m_cc .eq x y) rfl rfl
theorem i11_27 {w1 w2 w3 w4 : Value} {x : Nat} : WP V 11 27 [.ref x, w1, w2, w3, w4] st t I L R Q = WP V 11 28 [.ref x, w1, w2, w3, w4] (.ref x :: st) t I L R Q := wp_go rfl
theorem i11_28 {w1 w2 w3 w4 : Value} {x : Nat} : WP V 11 28 [.ref x, w1, w2, w3, w4] st t I L R Q = WP V 11 29 [.ref x, w1, w2, w3, w4] (.ref x :: st) t I L R Q := wp_go rfl
theorem i11_29 {k : Nat} (h1 : k < t) (h2 : m_ob k 1 = true) : WP V 11 29 ls (.ref k :: st) t I L R Q = WP V 11 30 ls (m_rv (R k 1) :: st) t I L R Q := wp_getR rfl (by decide) h1 h2
theorem i11_30 {w0 w1 w2 w4 : Value} {x : Int32} : WP V 11 30 [w0, w1, w2, .int x, w4] st t I L R Q = WP V 11 31 [w0, w1, w2, .int x, w4] (.int x :: st) t I L R Q := wp_go rfl
theorem i11_31 {k j : Nat} (h2 : m_ar k 2 581 = true) (h1 : k < t) (h3 : j < 581) : WP V 11 31 ls (.int (nI j) :: .ref k :: st) t I L R Q = WP V 11 32 ls (.int (I k j) :: st) t I L R Q := wp_iaload rfl (by decide) h1 h2 h3
theorem i11_32 {w1 w2 w3 w4 : Value} {x : Nat} : WP V 11 32 [.ref x, w1, w2, w3, w4] st t I L R Q = WP V 11 33 [.ref x, w1, w2, w3, w4] (.ref x :: st) t I L R Q := wp_go rfl
theorem i11_33 {k : Nat} (h1 : k < t) (h2 : m_ob k 1 = true) : WP V 11 33 ls (.ref k :: st) t I L R Q = WP V 11 34 ls (m_rv (R k 1) :: st) t I L R Q := wp_getR rfl (by decide) h1 h2
theorem i11_34 {w0 w1 w2 w4 : Value} {x : Int32} : WP V 11 34 [w0, w1, w2, .int x, w4] st t I L R Q = WP V 11 35 [w0, w1, w2, .int x, w4] (.int x :: st) t I L R Q := wp_go rfl
theorem i11_35  : WP V 11 35 ls st t I L R Q = WP V 11 36 ls (.int (nI 8) :: st) t I L R Q := wp_go rfl
theorem i11_36 {x y : Int32} : WP V 11 36 ls (.int y :: .int x :: st) t I L R Q = WP V 11 37 ls (.int (x + y) :: st) t I L R Q := wp_go rfl
theorem i11_37 {k j : Nat} (h2 : m_ar k 2 581 = true) (h1 : k < t) (h3 : j < 581) : WP V 11 37 ls (.int (nI j) :: .ref k :: st) t I L R Q = WP V 11 38 ls (.int (I k j) :: st) t I L R Q := wp_iaload rfl (by decide) h1 h2 h3
theorem i11_38 {x0 : Int32} {x1 : Int32} {x2 : Nat}  (h1 : x2 < t) (h2 : m_ob x2 1 = true) : WP V 11 38 ls [.int x0, .int x1, .ref x2] t I L R Q = WPC V 17 [.ref x2, .int x1, .int x0] 11 39 ls [] t I L R Q := wp_cls (wp_icv rfl rfl h1 h2) (by decide) (Nat.le_of_ble_eq_true rfl) rfl rfl (Nat.le_of_ble_eq_true rfl) (Nat.le_of_ble_eq_true rfl)
theorem i11_39 {x : Int32} : WP V 11 39 ls [.int x] t I L R Q = Q (some (.int x)) t I L R := wp_rti rfl rfl
theorem i11_40 {w1 w2 w3 w4 : Value} {x : Nat} : WP V 11 40 [.ref x, w1, w2, w3, w4] st t I L R Q = WP V 11 41 [.ref x, w1, w2, w3, w4] (.ref x :: st) t I L R Q := wp_go rfl
theorem i11_41  : WP V 11 41 ls st t I L R Q = WP V 11 42 ls (.int (nI 3) :: st) t I L R Q := wp_go rfl
theorem i11_42 {x0 : Int32} {x1 : Nat}  (h1 : x1 < t) (h2 : m_ob x1 1 = true) : WP V 11 42 ls [.int x0, .ref x1] t I L R Q = WPC V 8 [.ref x1, .int x0] 11 43 ls [] t I L R Q := wp_cls (wp_icv rfl rfl h1 h2) (by decide) (Nat.le_of_ble_eq_true rfl) rfl rfl (Nat.le_of_ble_eq_true rfl) (Nat.le_of_ble_eq_true rfl)
theorem i11_43 {x : Int32} : WP V 11 43 ls (.int x :: st) t I L R Q = if x = nI 0 then WP V 11 54 ls st t I L R Q else WP V 11 44 ls st t I L R Q := wp_br (c := m_cc .eq x 0) rfl rfl
theorem i11_44 {w1 w2 w3 w4 : Value} {x : Nat} : WP V 11 44 [.ref x, w1, w2, w3, w4] st t I L R Q = WP V 11 45 [.ref x, w1, w2, w3, w4] (.ref x :: st) t I L R Q := wp_go rfl
theorem i11_45 {w0 w2 w3 w4 : Value} {x : Int32} : WP V 11 45 [w0, .int x, w2, w3, w4] st t I L R Q = WP V 11 46 [w0, .int x, w2, w3, w4] (.int x :: st) t I L R Q := wp_go rfl
theorem i11_46 {w0 w1 w3 w4 : Value} {x : Int32} : WP V 11 46 [w0, w1, .int x, w3, w4] st t I L R Q = WP V 11 47 [w0, w1, .int x, w3, w4] (.int x :: st) t I L R Q := wp_go rfl
theorem i11_47 {x0 : Int32} {x1 : Int32} {x2 : Nat}  (h1 : x2 < t) (h2 : m_ob x2 1 = true) : WP V 11 47 ls [.int x0, .int x1, .ref x2] t I L R Q = WPC V 13 [.ref x2, .int x1, .int x0] 11 48 ls [] t I L R Q := wp_cls (wp_icv rfl rfl h1 h2) (by decide) (Nat.le_of_ble_eq_true rfl) rfl rfl (Nat.le_of_ble_eq_true rfl) (Nat.le_of_ble_eq_true rfl)
theorem i11_48 {w1 w2 w3 w4 : Value} {x : Nat} : WP V 11 48 [.ref x, w1, w2, w3, w4] st t I L R Q = WP V 11 49 [.ref x, w1, w2, w3, w4] (.ref x :: st) t I L R Q := wp_go rfl
theorem i11_49 {w0 w2 w3 w4 : Value} {x : Int32} : WP V 11 49 [w0, .int x, w2, w3, w4] st t I L R Q = WP V 11 50 [w0, .int x, w2, w3, w4] (.int x :: st) t I L R Q := wp_go rfl
theorem i11_50 {w0 w1 w3 w4 : Value} {x : Int32} : WP V 11 50 [w0, w1, .int x, w3, w4] st t I L R Q = WP V 11 51 [w0, w1, .int x, w3, w4] (.int x :: st) t I L R Q := wp_go rfl
theorem i11_51  : WP V 11 51 ls st t I L R Q = WP V 11 52 ls (.int (nI 0) :: st) t I L R Q := wp_go rfl
theorem i11_52 {x0 : Int32} {x1 : Int32} {x2 : Int32} {x3 : Nat}  (h1 : x3 < t) (h2 : m_ob x3 1 = true) : WP V 11 52 ls [.int x0, .int x1, .int x2, .ref x3] t I L R Q = WPC V 16 [.ref x3, .int x2, .int x1, .int x0] 11 53 ls [] t I L R Q := wp_cls (wp_icv rfl rfl h1 h2) (by decide) (Nat.le_of_ble_eq_true rfl) rfl rfl (Nat.le_of_ble_eq_true rfl) (Nat.le_of_ble_eq_true rfl)
theorem i11_53 {x : Int32} : WP V 11 53 ls [.int x] t I L R Q = Q (some (.int x)) t I L R := wp_rti rfl rfl
theorem i11_54 {w1 w2 w3 w4 : Value} {x : Nat} : WP V 11 54 [.ref x, w1, w2, w3, w4] st t I L R Q = WP V 11 55 [.ref x, w1, w2, w3, w4] (.ref x :: st) t I L R Q := wp_go rfl
theorem i11_55 {k : Nat} (h1 : k < t) (h2 : m_ob k 1 = true) : WP V 11 55 ls (.ref k :: st) t I L R Q = WP V 11 56 ls (m_rv (R k 1) :: st) t I L R Q := wp_getR rfl (by decide) h1 h2
theorem i11_56  : WP V 11 56 ls st t I L R Q = WP V 11 57 ls (.int (nI 41) :: st) t I L R Q := wp_go rfl
theorem i11_57 {w0 w1 w3 w4 : Value} {x : Int32} : WP V 11 57 [w0, w1, .int x, w3, w4] st t I L R Q = WP V 11 58 [w0, w1, .int x, w3, w4] (.int x :: st) t I L R Q := wp_go rfl
theorem i11_58 {x y : Int32} : WP V 11 58 ls (.int y :: .int x :: st) t I L R Q = WP V 11 59 ls (.int (x + y) :: st) t I L R Q := wp_go rfl
theorem i11_59 {k j : Nat} (h2 : m_ar k 2 581 = true) (h1 : k < t) (h3 : j < 581) : WP V 11 59 ls (.int (nI j) :: .ref k :: st) t I L R Q = WP V 11 60 ls (.int (I k j) :: st) t I L R Q := wp_iaload rfl (by decide) h1 h2 h3
theorem i11_60 {w0 w2 w3 w4 : Value} {x : Int32} : WP V 11 60 [w0, .int x, w2, w3, w4] st t I L R Q = WP V 11 61 [w0, .int x, w2, w3, w4] (.int x :: st) t I L R Q := wp_go rfl
theorem i11_61 {x0 : Int32} {x1 : Int32}  : WP V 11 61 ls [.int x0, .int x1] t I L R Q = WPC V 9 [.int x1, .int x0] 11 62 ls [] t I L R Q := wp_cls (wp_ics rfl (by decide)) (by decide) (Nat.le_of_ble_eq_true rfl) rfl rfl (Nat.le_of_ble_eq_true rfl) (Nat.le_of_ble_eq_true rfl)
theorem i11_62 {x : Int32} : WP V 11 62 ls (.int x :: st) t I L R Q = if x = nI 0 then WP V 11 65 ls st t I L R Q else WP V 11 63 ls st t I L R Q := wp_br (c := m_cc .eq x 0) rfl rfl
theorem i11_63  : WP V 11 63 ls st t I L R Q = WP V 11 64 ls (.int (nI 0) :: st) t I L R Q := wp_go rfl
theorem i11_64 {x : Int32} : WP V 11 64 ls [.int x] t I L R Q = Q (some (.int x)) t I L R := wp_rti rfl rfl
theorem i11_65 {w1 w2 w3 w4 : Value} {x : Nat} : WP V 11 65 [.ref x, w1, w2, w3, w4] st t I L R Q = WP V 11 66 [.ref x, w1, w2, w3, w4] (.ref x :: st) t I L R Q := wp_go rfl
theorem i11_66 {w0 w2 w3 w4 : Value} {x : Int32} : WP V 11 66 [w0, .int x, w2, w3, w4] st t I L R Q = WP V 11 67 [w0, .int x, w2, w3, w4] (.int x :: st) t I L R Q := wp_go rfl
theorem i11_67 {w0 w1 w3 w4 : Value} {x : Int32} : WP V 11 67 [w0, w1, .int x, w3, w4] st t I L R Q = WP V 11 68 [w0, w1, .int x, w3, w4] (.int x :: st) t I L R Q := wp_go rfl
theorem i11_68 {x0 : Int32} {x1 : Int32} {x2 : Nat}  (h1 : x2 < t) (h2 : m_ob x2 1 = true) : WP V 11 68 ls [.int x0, .int x1, .ref x2] t I L R Q = WPC V 18 [.ref x2, .int x1, .int x0] 11 69 ls [] t I L R Q := wp_cls (wp_icv rfl rfl h1 h2) (by decide) (Nat.le_of_ble_eq_true rfl) rfl rfl (Nat.le_of_ble_eq_true rfl) (Nat.le_of_ble_eq_true rfl)
theorem i11_69 {p : Int32} {w0 w1 w2 w4 : Value} {x : Int32} : WP V 11 69 [w0, w1, w2, .int p, w4] (.int x :: st) t I L R Q = WP V 11 70 [w0, w1, w2, .int p, .int x] st t I L R Q := wp_go rfl
theorem i11_70 {w0 w1 w2 w3 : Value} {x : Int32} : WP V 11 70 [w0, w1, w2, w3, .int x] st t I L R Q = WP V 11 71 [w0, w1, w2, w3, .int x] (.int x :: st) t I L R Q := wp_go rfl
theorem i11_71  : WP V 11 71 ls st t I L R Q = WP V 11 72 ls (.int (-1) :: st) t I L R Q := wp_go rfl
theorem i11_72 {x y : Int32} : WP V 11 72 ls (.int y :: .int x :: st) t I L R Q = if x = y then WP V 11 80 ls st t I L R Q else WP V 11 73 ls st t I L R Q := wp_br (c := m_cc .eq x y) rfl rfl
theorem i11_73 {w1 w2 w3 w4 : Value} {x : Nat} : WP V 11 73 [.ref x, w1, w2, w3, w4] st t I L R Q = WP V 11 74 [.ref x, w1, w2, w3, w4] (.ref x :: st) t I L R Q := wp_go rfl
theorem i11_74 {w0 w2 w3 w4 : Value} {x : Int32} : WP V 11 74 [w0, .int x, w2, w3, w4] st t I L R Q = WP V 11 75 [w0, .int x, w2, w3, w4] (.int x :: st) t I L R Q := wp_go rfl
theorem i11_75 {w0 w1 w2 w3 : Value} {x : Int32} : WP V 11 75 [w0, w1, w2, w3, .int x] st t I L R Q = WP V 11 76 [w0, w1, w2, w3, .int x] (.int x :: st) t I L R Q := wp_go rfl
theorem i11_76 {x0 : Int32} {x1 : Int32} {x2 : Nat}  (h1 : x2 < t) (h2 : m_ob x2 1 = true) : WP V 11 76 ls [.int x0, .int x1, .ref x2] t I L R Q = WPC V 19 [.ref x2, .int x1, .int x0] 11 77 ls [] t I L R Q := wp_cls (wp_icv rfl rfl h1 h2) (by decide) (Nat.le_of_ble_eq_true rfl) rfl rfl (Nat.le_of_ble_eq_true rfl) (Nat.le_of_ble_eq_true rfl)
theorem i11_77 {x : Int32} : WP V 11 77 ls (.int x :: st) t I L R Q = if x = nI 0 then WP V 11 78 ls st t I L R Q else WP V 11 80 ls st t I L R Q := wp_brn (c := m_cc .ne x 0) rfl rfl
theorem i11_78  : WP V 11 78 ls st t I L R Q = WP V 11 79 ls (.int (nI 0) :: st) t I L R Q := wp_go rfl
theorem i11_79 {x : Int32} : WP V 11 79 ls [.int x] t I L R Q = Q (some (.int x)) t I L R := wp_rti rfl rfl
theorem i11_80 {w0 w1 w2 w3 : Value} {x : Int32} : WP V 11 80 [w0, w1, w2, w3, .int x] st t I L R Q = WP V 11 81 [w0, w1, w2, w3, .int x] (.int x :: st) t I L R Q := wp_go rfl
theorem i11_81  : WP V 11 81 ls st t I L R Q = WP V 11 82 ls (.int (-1) :: st) t I L R Q := wp_go rfl
theorem i11_82 {x y : Int32} : WP V 11 82 ls (.int y :: .int x :: st) t I L R Q = if x = y then WP V 11 86 ls st t I L R Q else WP V 11 83 ls st t I L R Q := wp_br (c := m_cc .eq x y) rfl rfl
theorem i11_83 {w1 w2 w3 w4 : Value} {x : Nat} : WP V 11 83 [.ref x, w1, w2, w3, w4] st t I L R Q = WP V 11 84 [.ref x, w1, w2, w3, w4] (.ref x :: st) t I L R Q := wp_go rfl
theorem i11_84 {w0 w1 w2 w3 : Value} {x : Int32} : WP V 11 84 [w0, w1, w2, w3, .int x] st t I L R Q = WP V 11 85 [w0, w1, w2, w3, .int x] (.int x :: st) t I L R Q := wp_go rfl
theorem i11_85 {x0 : Int32} {x1 : Nat}  (h1 : x1 < t) (h2 : m_ob x1 1 = true) : WP V 11 85 ls [.int x0, .ref x1] t I L R Q = WPC V 30 [.ref x1, .int x0] 11 86 ls [] t I L R Q := wp_cls (wp_icv rfl rfl h1 h2) (by decide) (Nat.le_of_ble_eq_true rfl) rfl rfl (Nat.le_of_ble_eq_true rfl) (Nat.le_of_ble_eq_true rfl)
theorem i11_86 {w1 w2 w3 w4 : Value} {x : Nat} : WP V 11 86 [.ref x, w1, w2, w3, w4] st t I L R Q = WP V 11 87 [.ref x, w1, w2, w3, w4] (.ref x :: st) t I L R Q := wp_go rfl
theorem i11_87 {k : Nat} (h1 : k < t) (h2 : m_ob k 1 = true) : WP V 11 87 ls (.ref k :: st) t I L R Q = WP V 11 88 ls (m_rv (R k 1) :: st) t I L R Q := wp_getR rfl (by decide) h1 h2
theorem i11_88  : WP V 11 88 ls st t I L R Q = WP V 11 89 ls (.int (nI 15) :: st) t I L R Q := wp_go rfl
theorem i11_89 {w0 w2 w3 w4 : Value} {x : Int32} : WP V 11 89 [w0, .int x, w2, w3, w4] st t I L R Q = WP V 11 90 [w0, .int x, w2, w3, w4] (.int x :: st) t I L R Q := wp_go rfl
theorem i11_90 {x y : Int32} : WP V 11 90 ls (.int y :: .int x :: st) t I L R Q = WP V 11 91 ls (.int (x + y) :: st) t I L R Q := wp_go rfl
theorem i11_91 {k j : Nat} (h2 : m_ar k 2 581 = true) (h1 : k < t) (h3 : j < 581) : WP V 11 91 ls (.int (nI j) :: .ref k :: st) t I L R Q = WP V 11 92 ls (.int (I k j) :: st) t I L R Q := wp_iaload rfl (by decide) h1 h2 h3
theorem i11_92  : WP V 11 92 ls st t I L R Q = WP V 11 93 ls (.int (nI 3) :: st) t I L R Q := wp_go rfl
theorem i11_93 {x y : Int32} : WP V 11 93 ls (.int y :: .int x :: st) t I L R Q = if x = y then WP V 11 94 ls st t I L R Q else WP V 11 107 ls st t I L R Q := wp_brn (c := m_cc .ne x y) rfl rfl
theorem i11_94 {w1 w2 w3 w4 : Value} {x : Nat} : WP V 11 94 [.ref x, w1, w2, w3, w4] st t I L R Q = WP V 11 95 [.ref x, w1, w2, w3, w4] (.ref x :: st) t I L R Q := wp_go rfl
theorem i11_95 {k : Nat} (h1 : k < t) (h2 : m_ob k 1 = true) : WP V 11 95 ls (.ref k :: st) t I L R Q = WP V 11 96 ls (m_rv (R k 1) :: st) t I L R Q := wp_getR rfl (by decide) h1 h2
theorem i11_96  : WP V 11 96 ls st t I L R Q = WP V 11 97 ls (.int (nI 41) :: st) t I L R Q := wp_go rfl
theorem i11_97 {w0 w1 w3 w4 : Value} {x : Int32} : WP V 11 97 [w0, w1, .int x, w3, w4] st t I L R Q = WP V 11 98 [w0, w1, .int x, w3, w4] (.int x :: st) t I L R Q := wp_go rfl
theorem i11_98 {x y : Int32} : WP V 11 98 ls (.int y :: .int x :: st) t I L R Q = WP V 11 99 ls (.int (x + y) :: st) t I L R Q := wp_go rfl
theorem i11_99 {w0 w2 w3 w4 : Value} {x : Int32} : WP V 11 99 [w0, .int x, w2, w3, w4] st t I L R Q = WP V 11 100 [w0, .int x, w2, w3, w4] (.int x :: st) t I L R Q := wp_go rfl
theorem i11_100 {k j : Nat} {x : Int32} (h2 : m_ar k 2 581 = true) (h1 : k < t) (h3 : j < 581) : WP V 11 100 ls (.int x :: .int (nI j) :: .ref k :: st) t I L R Q = WP V 11 101 ls st t (m_sc I k (m_sc (I k) j x)) L R Q := wp_iastore rfl (by decide) h1 h2 h3
theorem i11_101 {w1 w2 w3 w4 : Value} {x : Nat} : WP V 11 101 [.ref x, w1, w2, w3, w4] st t I L R Q = WP V 11 102 [.ref x, w1, w2, w3, w4] (.ref x :: st) t I L R Q := wp_go rfl
theorem i11_102 {w0 w2 w3 w4 : Value} {x : Int32} : WP V 11 102 [w0, .int x, w2, w3, w4] st t I L R Q = WP V 11 103 [w0, .int x, w2, w3, w4] (.int x :: st) t I L R Q := wp_go rfl
theorem i11_103 {w0 w1 w3 w4 : Value} {x : Int32} : WP V 11 103 [w0, w1, .int x, w3, w4] st t I L R Q = WP V 11 104 [w0, w1, .int x, w3, w4] (.int x :: st) t I L R Q := wp_go rfl
theorem i11_104  : WP V 11 104 ls st t I L R Q = WP V 11 105 ls (.int (nI 0) :: st) t I L R Q := wp_go rfl
theorem i11_105 {x0 : Int32} {x1 : Int32} {x2 : Int32} {x3 : Nat}  (h1 : x3 < t) (h2 : m_ob x3 1 = true) : WP V 11 105 ls [.int x0, .int x1, .int x2, .ref x3] t I L R Q = WPC V 16 [.ref x3, .int x2, .int x1, .int x0] 11 106 ls [] t I L R Q := wp_cls (wp_icv rfl rfl h1 h2) (by decide) (Nat.le_of_ble_eq_true rfl) rfl rfl (Nat.le_of_ble_eq_true rfl) (Nat.le_of_ble_eq_true rfl)
theorem i11_106 {x : Int32} : WP V 11 106 ls [.int x] t I L R Q = Q (some (.int x)) t I L R := wp_rti rfl rfl
theorem i11_107 {w1 w2 w3 w4 : Value} {x : Nat} : WP V 11 107 [.ref x, w1, w2, w3, w4] st t I L R Q = WP V 11 108 [.ref x, w1, w2, w3, w4] (.ref x :: st) t I L R Q := wp_go rfl
theorem i11_108 {k : Nat} (h1 : k < t) (h2 : m_ob k 1 = true) : WP V 11 108 ls (.ref k :: st) t I L R Q = WP V 11 109 ls (m_rv (R k 1) :: st) t I L R Q := wp_getR rfl (by decide) h1 h2
theorem i11_109  : WP V 11 109 ls st t I L R Q = WP V 11 110 ls (.int (nI 15) :: st) t I L R Q := wp_go rfl
theorem i11_110 {w0 w2 w3 w4 : Value} {x : Int32} : WP V 11 110 [w0, .int x, w2, w3, w4] st t I L R Q = WP V 11 111 [w0, .int x, w2, w3, w4] (.int x :: st) t I L R Q := wp_go rfl
theorem i11_111 {x y : Int32} : WP V 11 111 ls (.int y :: .int x :: st) t I L R Q = WP V 11 112 ls (.int (x + y) :: st) t I L R Q := wp_go rfl
theorem i11_112 {k j : Nat} (h2 : m_ar k 2 581 = true) (h1 : k < t) (h3 : j < 581) : WP V 11 112 ls (.int (nI j) :: .ref k :: st) t I L R Q = WP V 11 113 ls (.int (I k j) :: st) t I L R Q := wp_iaload rfl (by decide) h1 h2 h3
theorem i11_113  : WP V 11 113 ls st t I L R Q = WP V 11 114 ls (.int (nI 1) :: st) t I L R Q := wp_go rfl
theorem i11_114 {x y : Int32} : WP V 11 114 ls (.int y :: .int x :: st) t I L R Q = if x = y then WP V 11 115 ls st t I L R Q else WP V 11 124 ls st t I L R Q := wp_brn (c := m_cc .ne x y) rfl rfl
theorem i11_115 {w1 w2 w3 w4 : Value} {x : Nat} : WP V 11 115 [.ref x, w1, w2, w3, w4] st t I L R Q = WP V 11 116 [.ref x, w1, w2, w3, w4] (.ref x :: st) t I L R Q := wp_go rfl
theorem i11_116  : WP V 11 116 ls st t I L R Q = WP V 11 117 ls (.int (nI 2) :: st) t I L R Q := wp_go rfl
theorem i11_117 {x0 : Int32} {x1 : Nat}  (h1 : x1 < t) (h2 : m_ob x1 1 = true) : WP V 11 117 ls [.int x0, .ref x1] t I L R Q = WPC V 8 [.ref x1, .int x0] 11 118 ls [] t I L R Q := wp_cls (wp_icv rfl rfl h1 h2) (by decide) (Nat.le_of_ble_eq_true rfl) rfl rfl (Nat.le_of_ble_eq_true rfl) (Nat.le_of_ble_eq_true rfl)
theorem i11_118 {x : Int32} : WP V 11 118 ls (.int x :: st) t I L R Q = if x = nI 0 then WP V 11 124 ls st t I L R Q else WP V 11 119 ls st t I L R Q := wp_br (c := m_cc .eq x 0) rfl rfl
theorem i11_119 {w1 w2 w3 w4 : Value} {x : Nat} : WP V 11 119 [.ref x, w1, w2, w3, w4] st t I L R Q = WP V 11 120 [.ref x, w1, w2, w3, w4] (.ref x :: st) t I L R Q := wp_go rfl
theorem i11_120 {w0 w2 w3 w4 : Value} {x : Int32} : WP V 11 120 [w0, .int x, w2, w3, w4] st t I L R Q = WP V 11 121 [w0, .int x, w2, w3, w4] (.int x :: st) t I L R Q := wp_go rfl
theorem i11_121 {w0 w1 w3 w4 : Value} {x : Int32} : WP V 11 121 [w0, w1, .int x, w3, w4] st t I L R Q = WP V 11 122 [w0, w1, .int x, w3, w4] (.int x :: st) t I L R Q := wp_go rfl
theorem i11_122 {x0 : Int32} {x1 : Int32} {x2 : Nat}  (h1 : x2 < t) (h2 : m_ob x2 1 = true) : WP V 11 122 ls [.int x0, .int x1, .ref x2] t I L R Q = WPC V 14 [.ref x2, .int x1, .int x0] 11 123 ls [] t I L R Q := wp_cls (wp_icv rfl rfl h1 h2) (by decide) (Nat.le_of_ble_eq_true rfl) rfl rfl (Nat.le_of_ble_eq_true rfl) (Nat.le_of_ble_eq_true rfl)
theorem i11_123 {x : Int32} : WP V 11 123 ls [.int x] t I L R Q = Q (some (.int x)) t I L R := wp_rti rfl rfl
theorem i11_124 {w1 w2 w3 w4 : Value} {x : Nat} : WP V 11 124 [.ref x, w1, w2, w3, w4] st t I L R Q = WP V 11 125 [.ref x, w1, w2, w3, w4] (.ref x :: st) t I L R Q := wp_go rfl
theorem i11_125 {w0 w2 w3 w4 : Value} {x : Int32} : WP V 11 125 [w0, .int x, w2, w3, w4] st t I L R Q = WP V 11 126 [w0, .int x, w2, w3, w4] (.int x :: st) t I L R Q := wp_go rfl
theorem i11_126 {w0 w1 w3 w4 : Value} {x : Int32} : WP V 11 126 [w0, w1, .int x, w3, w4] st t I L R Q = WP V 11 127 [w0, w1, .int x, w3, w4] (.int x :: st) t I L R Q := wp_go rfl
theorem i11_127 {x0 : Int32} {x1 : Int32} {x2 : Nat}  (h1 : x2 < t) (h2 : m_ob x2 1 = true) : WP V 11 127 ls [.int x0, .int x1, .ref x2] t I L R Q = WPC V 15 [.ref x2, .int x1, .int x0] 11 128 ls [] t I L R Q := wp_cls (wp_icv rfl rfl h1 h2) (by decide) (Nat.le_of_ble_eq_true rfl) rfl rfl (Nat.le_of_ble_eq_true rfl) (Nat.le_of_ble_eq_true rfl)
theorem i11_128 {x : Int32} : WP V 11 128 ls [.int x] t I L R Q = Q (some (.int x)) t I L R := wp_rti rfl rfl
-- TransactionCells$Dealings.lookOutside(II)I
theorem i12_0 {w1 w2 : Value} {x : Nat} : WP V 12 0 [.ref x, w1, w2] st t I L R Q = WP V 12 1 [.ref x, w1, w2] (.ref x :: st) t I L R Q := wp_go rfl
theorem i12_1 {k : Nat} (h1 : k < t) (h2 : m_ob k 1 = true) : WP V 12 1 ls (.ref k :: st) t I L R Q = WP V 12 2 ls (m_rv (R k 1) :: st) t I L R Q := wp_getR rfl (by decide) h1 h2
theorem i12_2  : WP V 12 2 ls st t I L R Q = WP V 12 3 ls (.int (nI 41) :: st) t I L R Q := wp_go rfl
theorem i12_3 {w0 w1 : Value} {x : Int32} : WP V 12 3 [w0, w1, .int x] st t I L R Q = WP V 12 4 [w0, w1, .int x] (.int x :: st) t I L R Q := wp_go rfl
theorem i12_4 {x y : Int32} : WP V 12 4 ls (.int y :: .int x :: st) t I L R Q = WP V 12 5 ls (.int (x + y) :: st) t I L R Q := wp_go rfl
theorem i12_5 {k j : Nat} (h2 : m_ar k 2 581 = true) (h1 : k < t) (h3 : j < 581) : WP V 12 5 ls (.int (nI j) :: .ref k :: st) t I L R Q = WP V 12 6 ls (.int (I k j) :: st) t I L R Q := wp_iaload rfl (by decide) h1 h2 h3
theorem i12_6  : WP V 12 6 ls st t I L R Q = WP V 12 7 ls (.int (-1) :: st) t I L R Q := wp_go rfl
theorem i12_7 {x y : Int32} : WP V 12 7 ls (.int y :: .int x :: st) t I L R Q = if x = y then WP V 12 8 ls st t I L R Q else WP V 12 15 ls st t I L R Q := wp_brn (c := m_cc .ne x y) rfl rfl
theorem i12_8 {w1 w2 : Value} {x : Nat} : WP V 12 8 [.ref x, w1, w2] st t I L R Q = WP V 12 9 [.ref x, w1, w2] (.ref x :: st) t I L R Q := wp_go rfl
theorem i12_9 {k : Nat} (h1 : k < t) (h2 : m_ob k 1 = true) : WP V 12 9 ls (.ref k :: st) t I L R Q = WP V 12 10 ls (m_rv (R k 1) :: st) t I L R Q := wp_getR rfl (by decide) h1 h2
theorem i12_10  : WP V 12 10 ls st t I L R Q = WP V 12 11 ls (.int (nI 1) :: st) t I L R Q := wp_go rfl
theorem i12_11 {k j : Nat} (h2 : m_ar k 2 581 = true) (h1 : k < t) (h3 : j < 581) : WP V 12 11 ls (.int (nI j) :: .ref k :: st) t I L R Q = WP V 12 12 ls (.int (I k j) :: st) t I L R Q := wp_iaload rfl (by decide) h1 h2 h3
theorem i12_12 {w0 w2 : Value} {x : Int32} : WP V 12 12 [w0, .int x, w2] st t I L R Q = WP V 12 13 [w0, .int x, w2] (.int x :: st) t I L R Q := wp_go rfl
theorem i12_13 {x0 : Int32} {x1 : Int32}  : WP V 12 13 ls [.int x0, .int x1] t I L R Q = WPC V 9 [.int x1, .int x0] 12 14 ls [] t I L R Q := wp_cls (wp_ics rfl (by decide)) (by decide) (Nat.le_of_ble_eq_true rfl) rfl rfl (Nat.le_of_ble_eq_true rfl) (Nat.le_of_ble_eq_true rfl)
theorem i12_14 {x : Int32} : WP V 12 14 ls (.int x :: st) t I L R Q = if x = nI 0 then WP V 12 17 ls st t I L R Q else WP V 12 15 ls st t I L R Q := wp_br (c := m_cc .eq x 0) rfl rfl
theorem i12_15  : WP V 12 15 ls st t I L R Q = WP V 12 16 ls (.int (nI 0) :: st) t I L R Q := wp_go rfl
theorem i12_16 {x : Int32} : WP V 12 16 ls [.int x] t I L R Q = Q (some (.int x)) t I L R := wp_rti rfl rfl
theorem i12_17 {w1 w2 : Value} {x : Nat} : WP V 12 17 [.ref x, w1, w2] st t I L R Q = WP V 12 18 [.ref x, w1, w2] (.ref x :: st) t I L R Q := wp_go rfl
theorem i12_18 {w1 w2 : Value} {x : Nat} : WP V 12 18 [.ref x, w1, w2] st t I L R Q = WP V 12 19 [.ref x, w1, w2] (.ref x :: st) t I L R Q := wp_go rfl
theorem i12_19 {k : Nat} (h1 : k < t) (h2 : m_ob k 1 = true) : WP V 12 19 ls (.ref k :: st) t I L R Q = WP V 12 20 ls (m_rv (R k 1) :: st) t I L R Q := wp_getR rfl (by decide) h1 h2
theorem i12_20  : WP V 12 20 ls st t I L R Q = WP V 12 21 ls (.int (nI 49) :: st) t I L R Q := wp_go rfl
theorem i12_21 {w0 w1 : Value} {x : Int32} : WP V 12 21 [w0, w1, .int x] st t I L R Q = WP V 12 22 [w0, w1, .int x] (.int x :: st) t I L R Q := wp_go rfl
theorem i12_22 {x y : Int32} : WP V 12 22 ls (.int y :: .int x :: st) t I L R Q = WP V 12 23 ls (.int (x + y) :: st) t I L R Q := wp_go rfl
theorem i12_23 {k j : Nat} (h2 : m_ar k 2 581 = true) (h1 : k < t) (h3 : j < 581) : WP V 12 23 ls (.int (nI j) :: .ref k :: st) t I L R Q = WP V 12 24 ls (.int (I k j) :: st) t I L R Q := wp_iaload rfl (by decide) h1 h2 h3
theorem i12_24 {w1 w2 : Value} {x : Nat} : WP V 12 24 [.ref x, w1, w2] st t I L R Q = WP V 12 25 [.ref x, w1, w2] (.ref x :: st) t I L R Q := wp_go rfl
theorem i12_25 {k : Nat} (h1 : k < t) (h2 : m_ob k 1 = true) : WP V 12 25 ls (.ref k :: st) t I L R Q = WP V 12 26 ls (m_rv (R k 1) :: st) t I L R Q := wp_getR rfl (by decide) h1 h2
theorem i12_26  : WP V 12 26 ls st t I L R Q = WP V 12 27 ls (.int (nI 57) :: st) t I L R Q := wp_go rfl
theorem i12_27 {w0 w1 : Value} {x : Int32} : WP V 12 27 [w0, w1, .int x] st t I L R Q = WP V 12 28 [w0, w1, .int x] (.int x :: st) t I L R Q := wp_go rfl
theorem i12_28 {x y : Int32} : WP V 12 28 ls (.int y :: .int x :: st) t I L R Q = WP V 12 29 ls (.int (x + y) :: st) t I L R Q := wp_go rfl
theorem i12_29 {k j : Nat} (h2 : m_ar k 2 581 = true) (h1 : k < t) (h3 : j < 581) : WP V 12 29 ls (.int (nI j) :: .ref k :: st) t I L R Q = WP V 12 30 ls (.int (I k j) :: st) t I L R Q := wp_iaload rfl (by decide) h1 h2 h3
theorem i12_30 {x0 : Int32} {x1 : Int32} {x2 : Nat}  (h1 : x2 < t) (h2 : m_ob x2 1 = true) : WP V 12 30 ls [.int x0, .int x1, .ref x2] t I L R Q = WPC V 17 [.ref x2, .int x1, .int x0] 12 31 ls [] t I L R Q := wp_cls (wp_icv rfl rfl h1 h2) (by decide) (Nat.le_of_ble_eq_true rfl) rfl rfl (Nat.le_of_ble_eq_true rfl) (Nat.le_of_ble_eq_true rfl)
theorem i12_31 {x : Int32} : WP V 12 31 ls [.int x] t I L R Q = Q (some (.int x)) t I L R := wp_rti rfl rfl
-- TransactionCells$Dealings.comeToReads(II)V
theorem i13_0  : WP V 13 0 ls st t I L R Q = WP V 13 1 ls (.int (nI 152) :: st) t I L R Q := wp_go rfl
theorem i13_1  : WP V 13 1 ls st t I L R Q = WP V 13 2 ls (.int (nI 47) :: st) t I L R Q := wp_go rfl
theorem i13_2 {w0 w2 w3 : Value} {x : Int32} : WP V 13 2 [w0, .int x, w2, w3] st t I L R Q = WP V 13 3 [w0, .int x, w2, w3] (.int x :: st) t I L R Q := wp_go rfl
theorem i13_3 {x y : Int32} : WP V 13 3 ls (.int y :: .int x :: st) t I L R Q = WP V 13 4 ls (.int (x * y) :: st) t I L R Q := wp_go rfl
theorem i13_4 {x y : Int32} : WP V 13 4 ls (.int y :: .int x :: st) t I L R Q = WP V 13 5 ls (.int (x + y) :: st) t I L R Q := wp_go rfl
theorem i13_5 {w0 w1 w3 : Value} {x : Int32} : WP V 13 5 [w0, w1, .int x, w3] st t I L R Q = WP V 13 6 [w0, w1, .int x, w3] (.int x :: st) t I L R Q := wp_go rfl
theorem i13_6 {x y : Int32} : WP V 13 6 ls (.int y :: .int x :: st) t I L R Q = WP V 13 7 ls (.int (x + y) :: st) t I L R Q := wp_go rfl
theorem i13_7 {p : Int32} {w0 w1 w3 : Value} {x : Int32} : WP V 13 7 [w0, w1, .int p, w3] (.int x :: st) t I L R Q = WP V 13 8 [w0, w1, .int p, .int x] st t I L R Q := wp_go rfl
theorem i13_8 {w1 w2 w3 : Value} {x : Nat} : WP V 13 8 [.ref x, w1, w2, w3] st t I L R Q = WP V 13 9 [.ref x, w1, w2, w3] (.ref x :: st) t I L R Q := wp_go rfl
theorem i13_9 {k : Nat} (h1 : k < t) (h2 : m_ob k 1 = true) : WP V 13 9 ls (.ref k :: st) t I L R Q = WP V 13 10 ls (m_rv (R k 1) :: st) t I L R Q := wp_getR rfl (by decide) h1 h2
theorem i13_10 {w0 w1 w2 : Value} {x : Int32} : WP V 13 10 [w0, w1, w2, .int x] st t I L R Q = WP V 13 11 [w0, w1, w2, .int x] (.int x :: st) t I L R Q := wp_go rfl
theorem i13_11 {k j : Nat} (h2 : m_ar k 2 581 = true) (h1 : k < t) (h3 : j < 581) : WP V 13 11 ls (.int (nI j) :: .ref k :: st) t I L R Q = WP V 13 12 ls (.int (I k j) :: st) t I L R Q := wp_iaload rfl (by decide) h1 h2 h3
theorem i13_12  : WP V 13 12 ls st t I L R Q = WP V 13 13 ls (.int (-1) :: st) t I L R Q := wp_go rfl
theorem i13_13 {x y : Int32} : WP V 13 13 ls (.int y :: .int x :: st) t I L R Q = if x = y then WP V 13 14 ls st t I L R Q else WP V 13 24 ls st t I L R Q := wp_brn (c := m_cc .ne x y) rfl rfl
theorem i13_14 {w1 w2 w3 : Value} {x : Nat} : WP V 13 14 [.ref x, w1, w2, w3] st t I L R Q = WP V 13 15 [.ref x, w1, w2, w3] (.ref x :: st) t I L R Q := wp_go rfl
theorem i13_15 {k : Nat} (h1 : k < t) (h2 : m_ob k 1 = true) : WP V 13 15 ls (.ref k :: st) t I L R Q = WP V 13 16 ls (m_rv (R k 1) :: st) t I L R Q := wp_getR rfl (by decide) h1 h2
theorem i13_16 {w0 w1 w2 : Value} {x : Int32} : WP V 13 16 [w0, w1, w2, .int x] st t I L R Q = WP V 13 17 [w0, w1, w2, .int x] (.int x :: st) t I L R Q := wp_go rfl
theorem i13_17 {w1 w2 w3 : Value} {x : Nat} : WP V 13 17 [.ref x, w1, w2, w3] st t I L R Q = WP V 13 18 [.ref x, w1, w2, w3] (.ref x :: st) t I L R Q := wp_go rfl
theorem i13_18 {k : Nat} (h1 : k < t) (h2 : m_ob k 1 = true) : WP V 13 18 ls (.ref k :: st) t I L R Q = WP V 13 19 ls (m_rv (R k 1) :: st) t I L R Q := wp_getR rfl (by decide) h1 h2
theorem i13_19  : WP V 13 19 ls st t I L R Q = WP V 13 20 ls (.int (nI 65) :: st) t I L R Q := wp_go rfl
theorem i13_20 {w0 w1 w3 : Value} {x : Int32} : WP V 13 20 [w0, w1, .int x, w3] st t I L R Q = WP V 13 21 [w0, w1, .int x, w3] (.int x :: st) t I L R Q := wp_go rfl
theorem i13_21 {x y : Int32} : WP V 13 21 ls (.int y :: .int x :: st) t I L R Q = WP V 13 22 ls (.int (x + y) :: st) t I L R Q := wp_go rfl
theorem i13_22 {k j : Nat} (h2 : m_ar k 2 581 = true) (h1 : k < t) (h3 : j < 581) : WP V 13 22 ls (.int (nI j) :: .ref k :: st) t I L R Q = WP V 13 23 ls (.int (I k j) :: st) t I L R Q := wp_iaload rfl (by decide) h1 h2 h3
theorem i13_23 {k j : Nat} {x : Int32} (h2 : m_ar k 2 581 = true) (h1 : k < t) (h3 : j < 581) : WP V 13 23 ls (.int x :: .int (nI j) :: .ref k :: st) t I L R Q = WP V 13 24 ls st t (m_sc I k (m_sc (I k) j x)) L R Q := wp_iastore rfl (by decide) h1 h2 h3
theorem i13_24  : WP V 13 24 ls [] t I L R Q = Q none t I L R := wp_rtv rfl rfl
-- TransactionCells$Dealings.lookAtPicture(II)I
theorem i14_0 {w1 w2 w3 w4 w5 : Value} {x : Nat} : WP V 14 0 [.ref x, w1, w2, w3, w4, w5] st t I L R Q = WP V 14 1 [.ref x, w1, w2, w3, w4, w5] (.ref x :: st) t I L R Q := wp_go rfl
theorem i14_1 {k : Nat} (h1 : k < t) (h2 : m_ob k 1 = true) : WP V 14 1 ls (.ref k :: st) t I L R Q = WP V 14 2 ls (m_rv (R k 1) :: st) t I L R Q := wp_getR rfl (by decide) h1 h2
theorem i14_2  : WP V 14 2 ls st t I L R Q = WP V 14 3 ls (.int (nI 145) :: st) t I L R Q := wp_go rfl
theorem i14_3  : WP V 14 3 ls st t I L R Q = WP V 14 4 ls (.int (nI 47) :: st) t I L R Q := wp_go rfl
theorem i14_4 {w0 w2 w3 w4 w5 : Value} {x : Int32} : WP V 14 4 [w0, .int x, w2, w3, w4, w5] st t I L R Q = WP V 14 5 [w0, .int x, w2, w3, w4, w5] (.int x :: st) t I L R Q := wp_go rfl
theorem i14_5 {x y : Int32} : WP V 14 5 ls (.int y :: .int x :: st) t I L R Q = WP V 14 6 ls (.int (x * y) :: st) t I L R Q := wp_go rfl
theorem i14_6 {x y : Int32} : WP V 14 6 ls (.int y :: .int x :: st) t I L R Q = WP V 14 7 ls (.int (x + y) :: st) t I L R Q := wp_go rfl
theorem i14_7 {k j : Nat} (h2 : m_ar k 2 581 = true) (h1 : k < t) (h3 : j < 581) : WP V 14 7 ls (.int (nI j) :: .ref k :: st) t I L R Q = WP V 14 8 ls (.int (I k j) :: st) t I L R Q := wp_iaload rfl (by decide) h1 h2 h3
theorem i14_8 {p : Int32} {w0 w1 w3 w4 w5 : Value} {x : Int32} : WP V 14 8 [w0, w1, .int p, w3, w4, w5] (.int x :: st) t I L R Q = WP V 14 9 [w0, w1, .int p, .int x, w4, w5] st t I L R Q := wp_go rfl
theorem i14_9  : WP V 14 9 ls st t I L R Q = WP V 14 10 ls (.int (nI 0) :: st) t I L R Q := wp_go rfl
theorem i14_10 {p : Int32} {w0 w1 w2 w4 w5 : Value} {x : Int32} : WP V 14 10 [w0, w1, w2, .int p, w4, w5] (.int x :: st) t I L R Q = WP V 14 11 [w0, w1, w2, .int p, .int x, w5] st t I L R Q := wp_go rfl
theorem i14_11 {w0 w1 w2 w3 w5 : Value} {x : Int32} : WP V 14 11 [w0, w1, w2, w3, .int x, w5] st t I L R Q = WP V 14 12 [w0, w1, w2, w3, .int x, w5] (.int x :: st) t I L R Q := wp_go rfl
theorem i14_12  : WP V 14 12 ls st t I L R Q = WP V 14 13 ls (.int (nI 96) :: st) t I L R Q := wp_go rfl
theorem i14_13 {x y : Int32} : WP V 14 13 ls (.int y :: .int x :: st) t I L R Q = if y ≤ x then WP V 14 37 ls st t I L R Q else WP V 14 14 ls st t I L R Q := wp_br (c := m_cc .ge x y) rfl rfl
theorem i14_14 {w1 w2 w3 w4 w5 : Value} {x : Nat} : WP V 14 14 [.ref x, w1, w2, w3, w4, w5] st t I L R Q = WP V 14 15 [.ref x, w1, w2, w3, w4, w5] (.ref x :: st) t I L R Q := wp_go rfl
theorem i14_15 {k : Nat} (h1 : k < t) (h2 : m_ob k 1 = true) : WP V 14 15 ls (.ref k :: st) t I L R Q = WP V 14 16 ls (m_rv (R k 1) :: st) t I L R Q := wp_getR rfl (by decide) h1 h2
theorem i14_16  : WP V 14 16 ls st t I L R Q = WP V 14 17 ls (.int (nI 65) :: st) t I L R Q := wp_go rfl
theorem i14_17 {w0 w1 w2 w3 w5 : Value} {x : Int32} : WP V 14 17 [w0, w1, w2, w3, .int x, w5] st t I L R Q = WP V 14 18 [w0, w1, w2, w3, .int x, w5] (.int x :: st) t I L R Q := wp_go rfl
theorem i14_18 {x y : Int32} : WP V 14 18 ls (.int y :: .int x :: st) t I L R Q = WP V 14 19 ls (.int (x + y) :: st) t I L R Q := wp_go rfl
theorem i14_19 {w0 w1 w3 w4 w5 : Value} {x : Int32} : WP V 14 19 [w0, w1, .int x, w3, w4, w5] st t I L R Q = WP V 14 20 [w0, w1, .int x, w3, w4, w5] (.int x :: st) t I L R Q := wp_go rfl
theorem i14_20 {x y : Int32} : WP V 14 20 ls (.int y :: .int x :: st) t I L R Q = WP V 14 21 ls (.int (x + y) :: st) t I L R Q := wp_go rfl
theorem i14_21 {k j : Nat} (h2 : m_ar k 2 581 = true) (h1 : k < t) (h3 : j < 581) : WP V 14 21 ls (.int (nI j) :: .ref k :: st) t I L R Q = WP V 14 22 ls (.int (I k j) :: st) t I L R Q := wp_iaload rfl (by decide) h1 h2 h3
theorem i14_22 {p : Int32} {w0 w1 w2 w3 w5 : Value} {x : Int32} : WP V 14 22 [w0, w1, w2, w3, .int p, w5] (.int x :: st) t I L R Q = WP V 14 23 [w0, w1, w2, w3, .int p, .int x] st t I L R Q := wp_go rfl
theorem i14_23 {w0 w1 w2 w3 w4 : Value} {x : Int32} : WP V 14 23 [w0, w1, w2, w3, w4, .int x] st t I L R Q = WP V 14 24 [w0, w1, w2, w3, w4, .int x] (.int x :: st) t I L R Q := wp_go rfl
theorem i14_24  : WP V 14 24 ls st t I L R Q = WP V 14 25 ls (.int (-1) :: st) t I L R Q := wp_go rfl
theorem i14_25 {x y : Int32} : WP V 14 25 ls (.int y :: .int x :: st) t I L R Q = if x = y then WP V 14 35 ls st t I L R Q else WP V 14 26 ls st t I L R Q := wp_br (c := m_cc .eq x y) rfl rfl
theorem i14_26 {w0 w1 w2 w3 w4 : Value} {x : Int32} : WP V 14 26 [w0, w1, w2, w3, w4, .int x] st t I L R Q = WP V 14 27 [w0, w1, w2, w3, w4, .int x] (.int x :: st) t I L R Q := wp_go rfl
theorem i14_27 {w0 w1 w2 w4 w5 : Value} {x : Int32} : WP V 14 27 [w0, w1, w2, .int x, w4, w5] st t I L R Q = WP V 14 28 [w0, w1, w2, .int x, w4, w5] (.int x :: st) t I L R Q := wp_go rfl
theorem i14_28 {x y : Int32} : WP V 14 28 ls (.int y :: .int x :: st) t I L R Q = if y < x then WP V 14 35 ls st t I L R Q else WP V 14 29 ls st t I L R Q := wp_br (c := m_cc .gt x y) rfl rfl
theorem i14_29 {w1 w2 w3 w4 w5 : Value} {x : Nat} : WP V 14 29 [.ref x, w1, w2, w3, w4, w5] st t I L R Q = WP V 14 30 [.ref x, w1, w2, w3, w4, w5] (.ref x :: st) t I L R Q := wp_go rfl
theorem i14_30 {w0 w2 w3 w4 w5 : Value} {x : Int32} : WP V 14 30 [w0, .int x, w2, w3, w4, w5] st t I L R Q = WP V 14 31 [w0, .int x, w2, w3, w4, w5] (.int x :: st) t I L R Q := wp_go rfl
theorem i14_31 {w0 w1 w3 w4 w5 : Value} {x : Int32} : WP V 14 31 [w0, w1, .int x, w3, w4, w5] st t I L R Q = WP V 14 32 [w0, w1, .int x, w3, w4, w5] (.int x :: st) t I L R Q := wp_go rfl
theorem i14_32 {w0 w1 w2 w3 w5 : Value} {x : Int32} : WP V 14 32 [w0, w1, w2, w3, .int x, w5] st t I L R Q = WP V 14 33 [w0, w1, w2, w3, .int x, w5] (.int x :: st) t I L R Q := wp_go rfl
theorem i14_33 {x0 : Int32} {x1 : Int32} {x2 : Int32} {x3 : Nat}  (h1 : x3 < t) (h2 : m_ob x3 1 = true) : WP V 14 33 ls [.int x0, .int x1, .int x2, .ref x3] t I L R Q = WPC V 16 [.ref x3, .int x2, .int x1, .int x0] 14 34 ls [] t I L R Q := wp_cls (wp_icv rfl rfl h1 h2) (by decide) (Nat.le_of_ble_eq_true rfl) rfl rfl (Nat.le_of_ble_eq_true rfl) (Nat.le_of_ble_eq_true rfl)
theorem i14_34 {x : Int32} : WP V 14 34 ls [.int x] t I L R Q = Q (some (.int x)) t I L R := wp_rti rfl rfl
theorem i14_35 {p : Int32} {w0 w1 w2 w5 : Value} {x : Int32} : WP V 14 35 [w0, w1, w2, .int p, .int x, w5] st t I L R Q = WP V 14 36 [w0, w1, w2, .int p, .int (x + (nI 24)), w5] st t I L R Q := wp_go rfl
theorem i14_36  : WP V 14 36 ls st t I L R Q = WP V 14 11 ls st t I L R Q := wp_go rfl
theorem i14_37  : WP V 14 37 ls st t I L R Q = WP V 14 38 ls (.int (nI 2) :: st) t I L R Q := wp_go rfl
theorem i14_38 {x : Int32} : WP V 14 38 ls [.int x] t I L R Q = Q (some (.int x)) t I L R := wp_rti rfl rfl
-- TransactionCells$Dealings.lookByClock(II)I
theorem i15_0  : WP V 15 0 ls st t I L R Q = WP V 15 1 ls (.int (nI 145) :: st) t I L R Q := wp_go rfl
theorem i15_1  : WP V 15 1 ls st t I L R Q = WP V 15 2 ls (.int (nI 47) :: st) t I L R Q := wp_go rfl
theorem i15_2 {w0 w2 w3 w4 w5 : Value} {x : Int32} : WP V 15 2 [w0, .int x, w2, w3, w4, w5] st t I L R Q = WP V 15 3 [w0, .int x, w2, w3, w4, w5] (.int x :: st) t I L R Q := wp_go rfl
theorem i15_3 {x y : Int32} : WP V 15 3 ls (.int y :: .int x :: st) t I L R Q = WP V 15 4 ls (.int (x * y) :: st) t I L R Q := wp_go rfl
theorem i15_4 {x y : Int32} : WP V 15 4 ls (.int y :: .int x :: st) t I L R Q = WP V 15 5 ls (.int (x + y) :: st) t I L R Q := wp_go rfl
theorem i15_5 {p : Int32} {w0 w1 w3 w4 w5 : Value} {x : Int32} : WP V 15 5 [w0, w1, .int p, w3, w4, w5] (.int x :: st) t I L R Q = WP V 15 6 [w0, w1, .int p, .int x, w4, w5] st t I L R Q := wp_go rfl
theorem i15_6 {w1 w2 w3 w4 w5 : Value} {x : Nat} : WP V 15 6 [.ref x, w1, w2, w3, w4, w5] st t I L R Q = WP V 15 7 [.ref x, w1, w2, w3, w4, w5] (.ref x :: st) t I L R Q := wp_go rfl
theorem i15_7 {k : Nat} (h1 : k < t) (h2 : m_ob k 1 = true) : WP V 15 7 ls (.ref k :: st) t I L R Q = WP V 15 8 ls (m_rv (R k 1) :: st) t I L R Q := wp_getR rfl (by decide) h1 h2
theorem i15_8  : WP V 15 8 ls st t I L R Q = WP V 15 9 ls (.int (nI 152) :: st) t I L R Q := wp_go rfl
theorem i15_9  : WP V 15 9 ls st t I L R Q = WP V 15 10 ls (.int (nI 47) :: st) t I L R Q := wp_go rfl
theorem i15_10 {w0 w2 w3 w4 w5 : Value} {x : Int32} : WP V 15 10 [w0, .int x, w2, w3, w4, w5] st t I L R Q = WP V 15 11 [w0, .int x, w2, w3, w4, w5] (.int x :: st) t I L R Q := wp_go rfl
theorem i15_11 {x y : Int32} : WP V 15 11 ls (.int y :: .int x :: st) t I L R Q = WP V 15 12 ls (.int (x * y) :: st) t I L R Q := wp_go rfl
theorem i15_12 {x y : Int32} : WP V 15 12 ls (.int y :: .int x :: st) t I L R Q = WP V 15 13 ls (.int (x + y) :: st) t I L R Q := wp_go rfl
theorem i15_13 {w0 w1 w3 w4 w5 : Value} {x : Int32} : WP V 15 13 [w0, w1, .int x, w3, w4, w5] st t I L R Q = WP V 15 14 [w0, w1, .int x, w3, w4, w5] (.int x :: st) t I L R Q := wp_go rfl
theorem i15_14 {x y : Int32} : WP V 15 14 ls (.int y :: .int x :: st) t I L R Q = WP V 15 15 ls (.int (x + y) :: st) t I L R Q := wp_go rfl
theorem i15_15 {k j : Nat} (h2 : m_ar k 2 581 = true) (h1 : k < t) (h3 : j < 581) : WP V 15 15 ls (.int (nI j) :: .ref k :: st) t I L R Q = WP V 15 16 ls (.int (I k j) :: st) t I L R Q := wp_iaload rfl (by decide) h1 h2 h3
theorem i15_16 {p : Int32} {w0 w1 w2 w4 w5 : Value} {x : Int32} : WP V 15 16 [w0, w1, w2, .int p, w4, w5] (.int x :: st) t I L R Q = WP V 15 17 [w0, w1, w2, .int p, .int x, w5] st t I L R Q := wp_go rfl
theorem i15_17 {w1 w2 w3 w4 w5 : Value} {x : Nat} : WP V 15 17 [.ref x, w1, w2, w3, w4, w5] st t I L R Q = WP V 15 18 [.ref x, w1, w2, w3, w4, w5] (.ref x :: st) t I L R Q := wp_go rfl
theorem i15_18 {k : Nat} (h1 : k < t) (h2 : m_ob k 1 = true) : WP V 15 18 ls (.ref k :: st) t I L R Q = WP V 15 19 ls (m_rv (R k 1) :: st) t I L R Q := wp_getR rfl (by decide) h1 h2
theorem i15_19  : WP V 15 19 ls st t I L R Q = WP V 15 20 ls (.int (nI 65) :: st) t I L R Q := wp_go rfl
theorem i15_20 {w0 w1 w3 w4 w5 : Value} {x : Int32} : WP V 15 20 [w0, w1, .int x, w3, w4, w5] st t I L R Q = WP V 15 21 [w0, w1, .int x, w3, w4, w5] (.int x :: st) t I L R Q := wp_go rfl
theorem i15_21 {x y : Int32} : WP V 15 21 ls (.int y :: .int x :: st) t I L R Q = WP V 15 22 ls (.int (x + y) :: st) t I L R Q := wp_go rfl
theorem i15_22 {k j : Nat} (h2 : m_ar k 2 581 = true) (h1 : k < t) (h3 : j < 581) : WP V 15 22 ls (.int (nI j) :: .ref k :: st) t I L R Q = WP V 15 23 ls (.int (I k j) :: st) t I L R Q := wp_iaload rfl (by decide) h1 h2 h3
theorem i15_23 {p : Int32} {w0 w1 w2 w3 w5 : Value} {x : Int32} : WP V 15 23 [w0, w1, w2, w3, .int p, w5] (.int x :: st) t I L R Q = WP V 15 24 [w0, w1, w2, w3, .int p, .int x] st t I L R Q := wp_go rfl
theorem i15_24 {w0 w1 w2 w3 w5 : Value} {x : Int32} : WP V 15 24 [w0, w1, w2, w3, .int x, w5] st t I L R Q = WP V 15 25 [w0, w1, w2, w3, .int x, w5] (.int x :: st) t I L R Q := wp_go rfl
theorem i15_25  : WP V 15 25 ls st t I L R Q = WP V 15 26 ls (.int (-1) :: st) t I L R Q := wp_go rfl
theorem i15_26 {x y : Int32} : WP V 15 26 ls (.int y :: .int x :: st) t I L R Q = if x = y then WP V 15 32 ls st t I L R Q else WP V 15 27 ls st t I L R Q := wp_br (c := m_cc .eq x y) rfl rfl
theorem i15_27 {w0 w1 w2 w3 w5 : Value} {x : Int32} : WP V 15 27 [w0, w1, w2, w3, .int x, w5] st t I L R Q = WP V 15 28 [w0, w1, w2, w3, .int x, w5] (.int x :: st) t I L R Q := wp_go rfl
theorem i15_28 {w0 w1 w2 w3 w4 : Value} {x : Int32} : WP V 15 28 [w0, w1, w2, w3, w4, .int x] st t I L R Q = WP V 15 29 [w0, w1, w2, w3, w4, .int x] (.int x :: st) t I L R Q := wp_go rfl
theorem i15_29 {x y : Int32} : WP V 15 29 ls (.int y :: .int x :: st) t I L R Q = if x = y then WP V 15 32 ls st t I L R Q else WP V 15 30 ls st t I L R Q := wp_br (c := m_cc .eq x y) rfl rfl
theorem i15_30  : WP V 15 30 ls st t I L R Q = WP V 15 31 ls (.int (nI 2) :: st) t I L R Q := wp_go rfl
theorem i15_31 {x : Int32} : WP V 15 31 ls [.int x] t I L R Q = Q (some (.int x)) t I L R := wp_rti rfl rfl
theorem i15_32 {w0 w1 w2 w3 w5 : Value} {x : Int32} : WP V 15 32 [w0, w1, w2, w3, .int x, w5] st t I L R Q = WP V 15 33 [w0, w1, w2, w3, .int x, w5] (.int x :: st) t I L R Q := wp_go rfl
theorem i15_33  : WP V 15 33 ls st t I L R Q = WP V 15 34 ls (.int (-1) :: st) t I L R Q := wp_go rfl
theorem i15_34 {x y : Int32} : WP V 15 34 ls (.int y :: .int x :: st) t I L R Q = if x = y then WP V 15 35 ls st t I L R Q else WP V 15 55 ls st t I L R Q := wp_brn (c := m_cc .ne x y) rfl rfl
theorem i15_35 {w0 w1 w2 w3 w4 : Value} {x : Int32} : WP V 15 35 [w0, w1, w2, w3, w4, .int x] st t I L R Q = WP V 15 36 [w0, w1, w2, w3, w4, .int x] (.int x :: st) t I L R Q := wp_go rfl
theorem i15_36 {w1 w2 w3 w4 w5 : Value} {x : Nat} : WP V 15 36 [.ref x, w1, w2, w3, w4, w5] st t I L R Q = WP V 15 37 [.ref x, w1, w2, w3, w4, w5] (.ref x :: st) t I L R Q := wp_go rfl
theorem i15_37 {k : Nat} (h1 : k < t) (h2 : m_ob k 1 = true) : WP V 15 37 ls (.ref k :: st) t I L R Q = WP V 15 38 ls (m_rv (R k 1) :: st) t I L R Q := wp_getR rfl (by decide) h1 h2
theorem i15_38 {w0 w1 w2 w4 w5 : Value} {x : Int32} : WP V 15 38 [w0, w1, w2, .int x, w4, w5] st t I L R Q = WP V 15 39 [w0, w1, w2, .int x, w4, w5] (.int x :: st) t I L R Q := wp_go rfl
theorem i15_39 {k j : Nat} (h2 : m_ar k 2 581 = true) (h1 : k < t) (h3 : j < 581) : WP V 15 39 ls (.int (nI j) :: .ref k :: st) t I L R Q = WP V 15 40 ls (.int (I k j) :: st) t I L R Q := wp_iaload rfl (by decide) h1 h2 h3
theorem i15_40 {x y : Int32} : WP V 15 40 ls (.int y :: .int x :: st) t I L R Q = if x ≤ y then WP V 15 55 ls st t I L R Q else WP V 15 41 ls st t I L R Q := wp_br (c := m_cc .le x y) rfl rfl
theorem i15_41 {w1 w2 w3 w4 w5 : Value} {x : Nat} : WP V 15 41 [.ref x, w1, w2, w3, w4, w5] st t I L R Q = WP V 15 42 [.ref x, w1, w2, w3, w4, w5] (.ref x :: st) t I L R Q := wp_go rfl
theorem i15_42 {w0 w2 w3 w4 w5 : Value} {x : Int32} : WP V 15 42 [w0, .int x, w2, w3, w4, w5] st t I L R Q = WP V 15 43 [w0, .int x, w2, w3, w4, w5] (.int x :: st) t I L R Q := wp_go rfl
theorem i15_43 {x0 : Int32} {x1 : Nat}  (h1 : x1 < t) (h2 : m_ob x1 1 = true) : WP V 15 43 ls [.int x0, .ref x1] t I L R Q = WPC V 24 [.ref x1, .int x0] 15 44 ls [] t I L R Q := wp_cls (wp_icv rfl rfl h1 h2) (by decide) (Nat.le_of_ble_eq_true rfl) rfl rfl (Nat.le_of_ble_eq_true rfl) (Nat.le_of_ble_eq_true rfl)
theorem i15_44 {x : Int32} : WP V 15 44 ls (.int x :: st) t I L R Q = if x = nI 0 then WP V 15 47 ls st t I L R Q else WP V 15 45 ls st t I L R Q := wp_br (c := m_cc .eq x 0) rfl rfl
theorem i15_45  : WP V 15 45 ls st t I L R Q = WP V 15 46 ls (.int (nI 2) :: st) t I L R Q := wp_go rfl
theorem i15_46 {x : Int32} : WP V 15 46 ls [.int x] t I L R Q = Q (some (.int x)) t I L R := wp_rti rfl rfl
theorem i15_47 {w1 w2 w3 w4 w5 : Value} {x : Nat} : WP V 15 47 [.ref x, w1, w2, w3, w4, w5] st t I L R Q = WP V 15 48 [.ref x, w1, w2, w3, w4, w5] (.ref x :: st) t I L R Q := wp_go rfl
theorem i15_48 {k : Nat} (h1 : k < t) (h2 : m_ob k 1 = true) : WP V 15 48 ls (.ref k :: st) t I L R Q = WP V 15 49 ls (m_rv (R k 1) :: st) t I L R Q := wp_getR rfl (by decide) h1 h2
theorem i15_49 {w0 w1 w2 w4 w5 : Value} {x : Int32} : WP V 15 49 [w0, w1, w2, .int x, w4, w5] st t I L R Q = WP V 15 50 [w0, w1, w2, .int x, w4, w5] (.int x :: st) t I L R Q := wp_go rfl
theorem i15_50 {w1 w2 w3 w4 w5 : Value} {x : Nat} : WP V 15 50 [.ref x, w1, w2, w3, w4, w5] st t I L R Q = WP V 15 51 [.ref x, w1, w2, w3, w4, w5] (.ref x :: st) t I L R Q := wp_go rfl
theorem i15_51 {k : Nat} (h1 : k < t) (h2 : m_ob k 1 = true) : WP V 15 51 ls (.ref k :: st) t I L R Q = WP V 15 52 ls (m_rv (R k 1) :: st) t I L R Q := wp_getR rfl (by decide) h1 h2
theorem i15_52  : WP V 15 52 ls st t I L R Q = WP V 15 53 ls (.int (nI 0) :: st) t I L R Q := wp_go rfl
theorem i15_53 {k j : Nat} (h2 : m_ar k 2 581 = true) (h1 : k < t) (h3 : j < 581) : WP V 15 53 ls (.int (nI j) :: .ref k :: st) t I L R Q = WP V 15 54 ls (.int (I k j) :: st) t I L R Q := wp_iaload rfl (by decide) h1 h2 h3
theorem i15_54 {k j : Nat} {x : Int32} (h2 : m_ar k 2 581 = true) (h1 : k < t) (h3 : j < 581) : WP V 15 54 ls (.int x :: .int (nI j) :: .ref k :: st) t I L R Q = WP V 15 55 ls st t (m_sc I k (m_sc (I k) j x)) L R Q := wp_iastore rfl (by decide) h1 h2 h3
theorem i15_55 {w1 w2 w3 w4 w5 : Value} {x : Nat} : WP V 15 55 [.ref x, w1, w2, w3, w4, w5] st t I L R Q = WP V 15 56 [.ref x, w1, w2, w3, w4, w5] (.ref x :: st) t I L R Q := wp_go rfl
theorem i15_56 {w0 w2 w3 w4 w5 : Value} {x : Int32} : WP V 15 56 [w0, .int x, w2, w3, w4, w5] st t I L R Q = WP V 15 57 [w0, .int x, w2, w3, w4, w5] (.int x :: st) t I L R Q := wp_go rfl
theorem i15_57 {w0 w1 w3 w4 w5 : Value} {x : Int32} : WP V 15 57 [w0, w1, .int x, w3, w4, w5] st t I L R Q = WP V 15 58 [w0, w1, .int x, w3, w4, w5] (.int x :: st) t I L R Q := wp_go rfl
theorem i15_58 {x0 : Int32} {x1 : Int32} {x2 : Nat}  (h1 : x2 < t) (h2 : m_ob x2 1 = true) : WP V 15 58 ls [.int x0, .int x1, .ref x2] t I L R Q = WPC V 13 [.ref x2, .int x1, .int x0] 15 59 ls [] t I L R Q := wp_cls (wp_icv rfl rfl h1 h2) (by decide) (Nat.le_of_ble_eq_true rfl) rfl rfl (Nat.le_of_ble_eq_true rfl) (Nat.le_of_ble_eq_true rfl)
theorem i15_59 {w1 w2 w3 w4 w5 : Value} {x : Nat} : WP V 15 59 [.ref x, w1, w2, w3, w4, w5] st t I L R Q = WP V 15 60 [.ref x, w1, w2, w3, w4, w5] (.ref x :: st) t I L R Q := wp_go rfl
theorem i15_60 {w0 w2 w3 w4 w5 : Value} {x : Int32} : WP V 15 60 [w0, .int x, w2, w3, w4, w5] st t I L R Q = WP V 15 61 [w0, .int x, w2, w3, w4, w5] (.int x :: st) t I L R Q := wp_go rfl
theorem i15_61 {w0 w1 w3 w4 w5 : Value} {x : Int32} : WP V 15 61 [w0, w1, .int x, w3, w4, w5] st t I L R Q = WP V 15 62 [w0, w1, .int x, w3, w4, w5] (.int x :: st) t I L R Q := wp_go rfl
theorem i15_62  : WP V 15 62 ls st t I L R Q = WP V 15 63 ls (.int (nI 0) :: st) t I L R Q := wp_go rfl
theorem i15_63 {x0 : Int32} {x1 : Int32} {x2 : Int32} {x3 : Nat}  (h1 : x3 < t) (h2 : m_ob x3 1 = true) : WP V 15 63 ls [.int x0, .int x1, .int x2, .ref x3] t I L R Q = WPC V 16 [.ref x3, .int x2, .int x1, .int x0] 15 64 ls [] t I L R Q := wp_cls (wp_icv rfl rfl h1 h2) (by decide) (Nat.le_of_ble_eq_true rfl) rfl rfl (Nat.le_of_ble_eq_true rfl) (Nat.le_of_ble_eq_true rfl)
theorem i15_64 {x : Int32} : WP V 15 64 ls [.int x] t I L R Q = Q (some (.int x)) t I L R := wp_rti rfl rfl
-- TransactionCells$Dealings.see(III)I
theorem i16_0 {w1 w2 w3 w4 w5 w6 : Value} {x : Nat} : WP V 16 0 [.ref x, w1, w2, w3, w4, w5, w6] st t I L R Q = WP V 16 1 [.ref x, w1, w2, w3, w4, w5, w6] (.ref x :: st) t I L R Q := wp_go rfl
theorem i16_1 {k : Nat} (h1 : k < t) (h2 : m_ob k 1 = true) : WP V 16 1 ls (.ref k :: st) t I L R Q = WP V 16 2 ls (m_rv (R k 1) :: st) t I L R Q := wp_getR rfl (by decide) h1 h2
theorem i16_2  : WP V 16 2 ls st t I L R Q = WP V 16 3 ls (.int (nI 49) :: st) t I L R Q := wp_go rfl
theorem i16_3 {w0 w1 w2 w4 w5 w6 : Value} {x : Int32} : WP V 16 3 [w0, w1, w2, .int x, w4, w5, w6] st t I L R Q = WP V 16 4 [w0, w1, w2, .int x, w4, w5, w6] (.int x :: st) t I L R Q := wp_go rfl
theorem i16_4 {x y : Int32} : WP V 16 4 ls (.int y :: .int x :: st) t I L R Q = WP V 16 5 ls (.int (x + y) :: st) t I L R Q := wp_go rfl
theorem i16_5 {w0 w1 w3 w4 w5 w6 : Value} {x : Int32} : WP V 16 5 [w0, w1, .int x, w3, w4, w5, w6] st t I L R Q = WP V 16 6 [w0, w1, .int x, w3, w4, w5, w6] (.int x :: st) t I L R Q := wp_go rfl
theorem i16_6 {x y : Int32} : WP V 16 6 ls (.int y :: .int x :: st) t I L R Q = WP V 16 7 ls (.int (x + y) :: st) t I L R Q := wp_go rfl
theorem i16_7 {k j : Nat} (h2 : m_ar k 2 581 = true) (h1 : k < t) (h3 : j < 581) : WP V 16 7 ls (.int (nI j) :: .ref k :: st) t I L R Q = WP V 16 8 ls (.int (I k j) :: st) t I L R Q := wp_iaload rfl (by decide) h1 h2 h3
theorem i16_8 {p : Int32} {w0 w1 w2 w4 w5 w6 : Value} {x : Int32} : WP V 16 8 [w0, w1, w2, .int p, w4, w5, w6] (.int x :: st) t I L R Q = WP V 16 9 [w0, w1, w2, .int p, .int x, w5, w6] st t I L R Q := wp_go rfl
theorem i16_9 {w1 w2 w3 w4 w5 w6 : Value} {x : Nat} : WP V 16 9 [.ref x, w1, w2, w3, w4, w5, w6] st t I L R Q = WP V 16 10 [.ref x, w1, w2, w3, w4, w5, w6] (.ref x :: st) t I L R Q := wp_go rfl
theorem i16_10 {k : Nat} (h1 : k < t) (h2 : m_ob k 1 = true) : WP V 16 10 ls (.ref k :: st) t I L R Q = WP V 16 11 ls (m_rv (R k 1) :: st) t I L R Q := wp_getR rfl (by decide) h1 h2
theorem i16_11  : WP V 16 11 ls st t I L R Q = WP V 16 12 ls (.int (nI 57) :: st) t I L R Q := wp_go rfl
theorem i16_12 {w0 w1 w2 w4 w5 w6 : Value} {x : Int32} : WP V 16 12 [w0, w1, w2, .int x, w4, w5, w6] st t I L R Q = WP V 16 13 [w0, w1, w2, .int x, w4, w5, w6] (.int x :: st) t I L R Q := wp_go rfl
theorem i16_13 {x y : Int32} : WP V 16 13 ls (.int y :: .int x :: st) t I L R Q = WP V 16 14 ls (.int (x + y) :: st) t I L R Q := wp_go rfl
theorem i16_14 {w0 w1 w3 w4 w5 w6 : Value} {x : Int32} : WP V 16 14 [w0, w1, .int x, w3, w4, w5, w6] st t I L R Q = WP V 16 15 [w0, w1, .int x, w3, w4, w5, w6] (.int x :: st) t I L R Q := wp_go rfl
theorem i16_15 {x y : Int32} : WP V 16 15 ls (.int y :: .int x :: st) t I L R Q = WP V 16 16 ls (.int (x + y) :: st) t I L R Q := wp_go rfl
theorem i16_16 {k j : Nat} (h2 : m_ar k 2 581 = true) (h1 : k < t) (h3 : j < 581) : WP V 16 16 ls (.int (nI j) :: .ref k :: st) t I L R Q = WP V 16 17 ls (.int (I k j) :: st) t I L R Q := wp_iaload rfl (by decide) h1 h2 h3
theorem i16_17 {p : Int32} {w0 w1 w2 w3 w5 w6 : Value} {x : Int32} : WP V 16 17 [w0, w1, w2, w3, .int p, w5, w6] (.int x :: st) t I L R Q = WP V 16 18 [w0, w1, w2, w3, .int p, .int x, w6] st t I L R Q := wp_go rfl
theorem i16_18  : WP V 16 18 ls st t I L R Q = WP V 16 19 ls (.int (nI 160) :: st) t I L R Q := wp_go rfl
theorem i16_19  : WP V 16 19 ls st t I L R Q = WP V 16 20 ls (.int (nI 47) :: st) t I L R Q := wp_go rfl
theorem i16_20 {w0 w2 w3 w4 w5 w6 : Value} {x : Int32} : WP V 16 20 [w0, .int x, w2, w3, w4, w5, w6] st t I L R Q = WP V 16 21 [w0, .int x, w2, w3, w4, w5, w6] (.int x :: st) t I L R Q := wp_go rfl
theorem i16_21 {x y : Int32} : WP V 16 21 ls (.int y :: .int x :: st) t I L R Q = WP V 16 22 ls (.int (x * y) :: st) t I L R Q := wp_go rfl
theorem i16_22 {x y : Int32} : WP V 16 22 ls (.int y :: .int x :: st) t I L R Q = WP V 16 23 ls (.int (x + y) :: st) t I L R Q := wp_go rfl
theorem i16_23 {w0 w1 w3 w4 w5 w6 : Value} {x : Int32} : WP V 16 23 [w0, w1, .int x, w3, w4, w5, w6] st t I L R Q = WP V 16 24 [w0, w1, .int x, w3, w4, w5, w6] (.int x :: st) t I L R Q := wp_go rfl
theorem i16_24 {x y : Int32} : WP V 16 24 ls (.int y :: .int x :: st) t I L R Q = WP V 16 25 ls (.int (x + y) :: st) t I L R Q := wp_go rfl
theorem i16_25 {p : Int32} {w0 w1 w2 w3 w4 w6 : Value} {x : Int32} : WP V 16 25 [w0, w1, w2, w3, w4, .int p, w6] (.int x :: st) t I L R Q = WP V 16 26 [w0, w1, w2, w3, w4, .int p, .int x] st t I L R Q := wp_go rfl
theorem i16_26 {w1 w2 w3 w4 w5 w6 : Value} {x : Nat} : WP V 16 26 [.ref x, w1, w2, w3, w4, w5, w6] st t I L R Q = WP V 16 27 [.ref x, w1, w2, w3, w4, w5, w6] (.ref x :: st) t I L R Q := wp_go rfl
theorem i16_27 {k : Nat} (h1 : k < t) (h2 : m_ob k 1 = true) : WP V 16 27 ls (.ref k :: st) t I L R Q = WP V 16 28 ls (m_rv (R k 1) :: st) t I L R Q := wp_getR rfl (by decide) h1 h2
theorem i16_28 {w0 w1 w2 w3 w4 w5 : Value} {x : Int32} : WP V 16 28 [w0, w1, w2, w3, w4, w5, .int x] st t I L R Q = WP V 16 29 [w0, w1, w2, w3, w4, w5, .int x] (.int x :: st) t I L R Q := wp_go rfl
theorem i16_29 {k j : Nat} (h2 : m_ar k 2 581 = true) (h1 : k < t) (h3 : j < 581) : WP V 16 29 ls (.int (nI j) :: .ref k :: st) t I L R Q = WP V 16 30 ls (.int (I k j) :: st) t I L R Q := wp_iaload rfl (by decide) h1 h2 h3
theorem i16_30  : WP V 16 30 ls st t I L R Q = WP V 16 31 ls (.int (-1) :: st) t I L R Q := wp_go rfl
theorem i16_31 {x y : Int32} : WP V 16 31 ls (.int y :: .int x :: st) t I L R Q = if x = y then WP V 16 32 ls st t I L R Q else WP V 16 44 ls st t I L R Q := wp_brn (c := m_cc .ne x y) rfl rfl
theorem i16_32 {w1 w2 w3 w4 w5 w6 : Value} {x : Nat} : WP V 16 32 [.ref x, w1, w2, w3, w4, w5, w6] st t I L R Q = WP V 16 33 [.ref x, w1, w2, w3, w4, w5, w6] (.ref x :: st) t I L R Q := wp_go rfl
theorem i16_33 {k : Nat} (h1 : k < t) (h2 : m_ob k 1 = true) : WP V 16 33 ls (.ref k :: st) t I L R Q = WP V 16 34 ls (m_rv (R k 1) :: st) t I L R Q := wp_getR rfl (by decide) h1 h2
theorem i16_34 {w0 w1 w2 w3 w4 w5 : Value} {x : Int32} : WP V 16 34 [w0, w1, w2, w3, w4, w5, .int x] st t I L R Q = WP V 16 35 [w0, w1, w2, w3, w4, w5, .int x] (.int x :: st) t I L R Q := wp_go rfl
theorem i16_35 {w0 w1 w2 w3 w5 w6 : Value} {x : Int32} : WP V 16 35 [w0, w1, w2, w3, .int x, w5, w6] st t I L R Q = WP V 16 36 [w0, w1, w2, w3, .int x, w5, w6] (.int x :: st) t I L R Q := wp_go rfl
theorem i16_36 {k j : Nat} {x : Int32} (h2 : m_ar k 2 581 = true) (h1 : k < t) (h3 : j < 581) : WP V 16 36 ls (.int x :: .int (nI j) :: .ref k :: st) t I L R Q = WP V 16 37 ls st t (m_sc I k (m_sc (I k) j x)) L R Q := wp_iastore rfl (by decide) h1 h2 h3
theorem i16_37 {w1 w2 w3 w4 w5 w6 : Value} {x : Nat} : WP V 16 37 [.ref x, w1, w2, w3, w4, w5, w6] st t I L R Q = WP V 16 38 [.ref x, w1, w2, w3, w4, w5, w6] (.ref x :: st) t I L R Q := wp_go rfl
theorem i16_38 {k : Nat} (h1 : k < t) (h2 : m_ob k 1 = true) : WP V 16 38 ls (.ref k :: st) t I L R Q = WP V 16 39 ls (m_rv (R k 1) :: st) t I L R Q := wp_getR rfl (by decide) h1 h2
theorem i16_39 {w0 w1 w2 w3 w4 w5 : Value} {x : Int32} : WP V 16 39 [w0, w1, w2, w3, w4, w5, .int x] st t I L R Q = WP V 16 40 [w0, w1, w2, w3, w4, w5, .int x] (.int x :: st) t I L R Q := wp_go rfl
theorem i16_40  : WP V 16 40 ls st t I L R Q = WP V 16 41 ls (.int (nI 8) :: st) t I L R Q := wp_go rfl
theorem i16_41 {x y : Int32} : WP V 16 41 ls (.int y :: .int x :: st) t I L R Q = WP V 16 42 ls (.int (x + y) :: st) t I L R Q := wp_go rfl
theorem i16_42 {w0 w1 w2 w3 w4 w6 : Value} {x : Int32} : WP V 16 42 [w0, w1, w2, w3, w4, .int x, w6] st t I L R Q = WP V 16 43 [w0, w1, w2, w3, w4, .int x, w6] (.int x :: st) t I L R Q := wp_go rfl
theorem i16_43 {k j : Nat} {x : Int32} (h2 : m_ar k 2 581 = true) (h1 : k < t) (h3 : j < 581) : WP V 16 43 ls (.int x :: .int (nI j) :: .ref k :: st) t I L R Q = WP V 16 44 ls st t (m_sc I k (m_sc (I k) j x)) L R Q := wp_iastore rfl (by decide) h1 h2 h3
theorem i16_44 {w1 w2 w3 w4 w5 w6 : Value} {x : Nat} : WP V 16 44 [.ref x, w1, w2, w3, w4, w5, w6] st t I L R Q = WP V 16 45 [.ref x, w1, w2, w3, w4, w5, w6] (.ref x :: st) t I L R Q := wp_go rfl
theorem i16_45 {w0 w1 w2 w3 w5 w6 : Value} {x : Int32} : WP V 16 45 [w0, w1, w2, w3, .int x, w5, w6] st t I L R Q = WP V 16 46 [w0, w1, w2, w3, .int x, w5, w6] (.int x :: st) t I L R Q := wp_go rfl
theorem i16_46 {w0 w1 w2 w3 w4 w6 : Value} {x : Int32} : WP V 16 46 [w0, w1, w2, w3, w4, .int x, w6] st t I L R Q = WP V 16 47 [w0, w1, w2, w3, w4, .int x, w6] (.int x :: st) t I L R Q := wp_go rfl
theorem i16_47 {x0 : Int32} {x1 : Int32} {x2 : Nat}  (h1 : x2 < t) (h2 : m_ob x2 1 = true) : WP V 16 47 ls [.int x0, .int x1, .ref x2] t I L R Q = WPC V 17 [.ref x2, .int x1, .int x0] 16 48 ls [] t I L R Q := wp_cls (wp_icv rfl rfl h1 h2) (by decide) (Nat.le_of_ble_eq_true rfl) rfl rfl (Nat.le_of_ble_eq_true rfl) (Nat.le_of_ble_eq_true rfl)
theorem i16_48 {x : Int32} : WP V 16 48 ls [.int x] t I L R Q = Q (some (.int x)) t I L R := wp_rti rfl rfl
-- TransactionCells$Dealings.find(II)I
theorem i17_0 {w1 w2 : Value} {x : Nat} : WP V 17 0 [.ref x, w1, w2] st t I L R Q = WP V 17 1 [.ref x, w1, w2] (.ref x :: st) t I L R Q := wp_go rfl
theorem i17_1 {w0 w2 : Value} {x : Int32} : WP V 17 1 [w0, .int x, w2] st t I L R Q = WP V 17 2 [w0, .int x, w2] (.int x :: st) t I L R Q := wp_go rfl
theorem i17_2 {k : Nat} {x : Int32} (h1 : k < t) (h2 : m_ob k 1 = true) : WP V 17 2 ls (.int x :: .ref k :: st) t I L R Q = WP V 17 3 ls st t (m_sc I k (m_sc (I k) 2 x)) L R Q := wp_putI rfl (by decide) h1 h2
theorem i17_3 {w1 w2 : Value} {x : Nat} : WP V 17 3 [.ref x, w1, w2] st t I L R Q = WP V 17 4 [.ref x, w1, w2] (.ref x :: st) t I L R Q := wp_go rfl
theorem i17_4 {w0 w1 : Value} {x : Int32} : WP V 17 4 [w0, w1, .int x] st t I L R Q = WP V 17 5 [w0, w1, .int x] (.int x :: st) t I L R Q := wp_go rfl
theorem i17_5 {k : Nat} {x : Int32} (h1 : k < t) (h2 : m_ob k 1 = true) : WP V 17 5 ls (.int x :: .ref k :: st) t I L R Q = WP V 17 6 ls st t (m_sc I k (m_sc (I k) 3 x)) L R Q := wp_putI rfl (by decide) h1 h2
theorem i17_6  : WP V 17 6 ls st t I L R Q = WP V 17 7 ls (.int (nI 6) :: st) t I L R Q := wp_go rfl
theorem i17_7 {x : Int32} : WP V 17 7 ls [.int x] t I L R Q = Q (some (.int x)) t I L R := wp_rti rfl rfl
-- TransactionCells$Dealings.rival(II)I
theorem i18_0 {w1 w2 w3 : Value} {x : Nat} : WP V 18 0 [.ref x, w1, w2, w3] st t I L R Q = WP V 18 1 [.ref x, w1, w2, w3] (.ref x :: st) t I L R Q := wp_go rfl
theorem i18_1 {k : Nat} (h1 : k < t) (h2 : m_ob k 1 = true) : WP V 18 1 ls (.ref k :: st) t I L R Q = WP V 18 2 ls (m_rv (R k 1) :: st) t I L R Q := wp_getR rfl (by decide) h1 h2
theorem i18_2  : WP V 18 2 ls st t I L R Q = WP V 18 3 ls (.int (nI 33) :: st) t I L R Q := wp_go rfl
theorem i18_3 {w0 w1 w3 : Value} {x : Int32} : WP V 18 3 [w0, w1, .int x, w3] st t I L R Q = WP V 18 4 [w0, w1, .int x, w3] (.int x :: st) t I L R Q := wp_go rfl
theorem i18_4 {x y : Int32} : WP V 18 4 ls (.int y :: .int x :: st) t I L R Q = WP V 18 5 ls (.int (x + y) :: st) t I L R Q := wp_go rfl
theorem i18_5 {k j : Nat} (h2 : m_ar k 2 581 = true) (h1 : k < t) (h3 : j < 581) : WP V 18 5 ls (.int (nI j) :: .ref k :: st) t I L R Q = WP V 18 6 ls (.int (I k j) :: st) t I L R Q := wp_iaload rfl (by decide) h1 h2 h3
theorem i18_6 {p : Int32} {w0 w1 w3 : Value} {x : Int32} : WP V 18 6 [w0, w1, .int p, w3] (.int x :: st) t I L R Q = WP V 18 7 [w0, w1, .int p, .int x] st t I L R Q := wp_go rfl
theorem i18_7 {w1 w2 w3 : Value} {x : Nat} : WP V 18 7 [.ref x, w1, w2, w3] st t I L R Q = WP V 18 8 [.ref x, w1, w2, w3] (.ref x :: st) t I L R Q := wp_go rfl
theorem i18_8  : WP V 18 8 ls st t I L R Q = WP V 18 9 ls (.int (nI 1) :: st) t I L R Q := wp_go rfl
theorem i18_9 {x0 : Int32} {x1 : Nat}  (h1 : x1 < t) (h2 : m_ob x1 1 = true) : WP V 18 9 ls [.int x0, .ref x1] t I L R Q = WPC V 8 [.ref x1, .int x0] 18 10 ls [] t I L R Q := wp_cls (wp_icv rfl rfl h1 h2) (by decide) (Nat.le_of_ble_eq_true rfl) rfl rfl (Nat.le_of_ble_eq_true rfl) (Nat.le_of_ble_eq_true rfl)
theorem i18_10 {x : Int32} : WP V 18 10 ls (.int x :: st) t I L R Q = if x = nI 0 then WP V 18 17 ls st t I L R Q else WP V 18 11 ls st t I L R Q := wp_br (c := m_cc .eq x 0) rfl rfl
theorem i18_11 {w0 w1 w2 : Value} {x : Int32} : WP V 18 11 [w0, w1, w2, .int x] st t I L R Q = WP V 18 12 [w0, w1, w2, .int x] (.int x :: st) t I L R Q := wp_go rfl
theorem i18_12 {w0 w2 w3 : Value} {x : Int32} : WP V 18 12 [w0, .int x, w2, w3] st t I L R Q = WP V 18 13 [w0, .int x, w2, w3] (.int x :: st) t I L R Q := wp_go rfl
theorem i18_13 {x0 : Int32} {x1 : Int32}  : WP V 18 13 ls [.int x0, .int x1] t I L R Q = WPC V 9 [.int x1, .int x0] 18 14 ls [] t I L R Q := wp_cls (wp_ics rfl (by decide)) (by decide) (Nat.le_of_ble_eq_true rfl) rfl rfl (Nat.le_of_ble_eq_true rfl) (Nat.le_of_ble_eq_true rfl)
theorem i18_14 {x : Int32} : WP V 18 14 ls (.int x :: st) t I L R Q = if x = nI 0 then WP V 18 17 ls st t I L R Q else WP V 18 15 ls st t I L R Q := wp_br (c := m_cc .eq x 0) rfl rfl
theorem i18_15 {w0 w1 w2 : Value} {x : Int32} : WP V 18 15 [w0, w1, w2, .int x] st t I L R Q = WP V 18 16 [w0, w1, w2, .int x] (.int x :: st) t I L R Q := wp_go rfl
theorem i18_16  : WP V 18 16 ls st t I L R Q = WP V 18 18 ls st t I L R Q := wp_go rfl
theorem i18_17  : WP V 18 17 ls st t I L R Q = WP V 18 18 ls (.int (-1) :: st) t I L R Q := wp_go rfl
theorem i18_18 {x : Int32} : WP V 18 18 ls [.int x] t I L R Q = Q (some (.int x)) t I L R := wp_rti rfl rfl
-- TransactionCells$Dealings.isElder(II)Z
theorem i19_0 {w1 w2 : Value} {x : Nat} : WP V 19 0 [.ref x, w1, w2] st t I L R Q = WP V 19 1 [.ref x, w1, w2] (.ref x :: st) t I L R Q := wp_go rfl
theorem i19_1 {k : Nat} (h1 : k < t) (h2 : m_ob k 1 = true) : WP V 19 1 ls (.ref k :: st) t I L R Q = WP V 19 2 ls (m_rv (R k 1) :: st) t I L R Q := wp_getR rfl (by decide) h1 h2
theorem i19_2  : WP V 19 2 ls st t I L R Q = WP V 19 3 ls (.int (nI 15) :: st) t I L R Q := wp_go rfl
theorem i19_3 {w0 w2 : Value} {x : Int32} : WP V 19 3 [w0, .int x, w2] st t I L R Q = WP V 19 4 [w0, .int x, w2] (.int x :: st) t I L R Q := wp_go rfl
theorem i19_4 {x y : Int32} : WP V 19 4 ls (.int y :: .int x :: st) t I L R Q = WP V 19 5 ls (.int (x + y) :: st) t I L R Q := wp_go rfl
theorem i19_5 {k j : Nat} (h2 : m_ar k 2 581 = true) (h1 : k < t) (h3 : j < 581) : WP V 19 5 ls (.int (nI j) :: .ref k :: st) t I L R Q = WP V 19 6 ls (.int (I k j) :: st) t I L R Q := wp_iaload rfl (by decide) h1 h2 h3
theorem i19_6  : WP V 19 6 ls st t I L R Q = WP V 19 7 ls (.int (nI 3) :: st) t I L R Q := wp_go rfl
theorem i19_7 {x y : Int32} : WP V 19 7 ls (.int y :: .int x :: st) t I L R Q = if x = y then WP V 19 8 ls st t I L R Q else WP V 19 10 ls st t I L R Q := wp_brn (c := m_cc .ne x y) rfl rfl
theorem i19_8  : WP V 19 8 ls st t I L R Q = WP V 19 9 ls (.int (nI 1) :: st) t I L R Q := wp_go rfl
theorem i19_9 {x : Int32} (h : m_01 x = true) : WP V 19 9 ls [.int x] t I L R Q = Q (some (.int x)) t I L R := wp_rtz rfl rfl h
theorem i19_10 {w1 w2 : Value} {x : Nat} : WP V 19 10 [.ref x, w1, w2] st t I L R Q = WP V 19 11 [.ref x, w1, w2] (.ref x :: st) t I L R Q := wp_go rfl
theorem i19_11 {k : Nat} (h1 : k < t) (h2 : m_ob k 1 = true) : WP V 19 11 ls (.ref k :: st) t I L R Q = WP V 19 12 ls (m_rv (R k 1) :: st) t I L R Q := wp_getR rfl (by decide) h1 h2
theorem i19_12  : WP V 19 12 ls st t I L R Q = WP V 19 13 ls (.int (nI 15) :: st) t I L R Q := wp_go rfl
theorem i19_13 {w0 w1 : Value} {x : Int32} : WP V 19 13 [w0, w1, .int x] st t I L R Q = WP V 19 14 [w0, w1, .int x] (.int x :: st) t I L R Q := wp_go rfl
theorem i19_14 {x y : Int32} : WP V 19 14 ls (.int y :: .int x :: st) t I L R Q = WP V 19 15 ls (.int (x + y) :: st) t I L R Q := wp_go rfl
theorem i19_15 {k j : Nat} (h2 : m_ar k 2 581 = true) (h1 : k < t) (h3 : j < 581) : WP V 19 15 ls (.int (nI j) :: .ref k :: st) t I L R Q = WP V 19 16 ls (.int (I k j) :: st) t I L R Q := wp_iaload rfl (by decide) h1 h2 h3
theorem i19_16  : WP V 19 16 ls st t I L R Q = WP V 19 17 ls (.int (nI 3) :: st) t I L R Q := wp_go rfl
theorem i19_17 {x y : Int32} : WP V 19 17 ls (.int y :: .int x :: st) t I L R Q = if x = y then WP V 19 33 ls st t I L R Q else WP V 19 18 ls st t I L R Q := wp_br (c := m_cc .eq x y) rfl rfl
theorem i19_18 {w1 w2 : Value} {x : Nat} : WP V 19 18 [.ref x, w1, w2] st t I L R Q = WP V 19 19 [.ref x, w1, w2] (.ref x :: st) t I L R Q := wp_go rfl
theorem i19_19 {k : Nat} (h1 : k < t) (h2 : m_ob k 1 = true) : WP V 19 19 ls (.ref k :: st) t I L R Q = WP V 19 20 ls (m_rv (R k 1) :: st) t I L R Q := wp_getR rfl (by decide) h1 h2
theorem i19_20  : WP V 19 20 ls st t I L R Q = WP V 19 21 ls (.int (nI 18) :: st) t I L R Q := wp_go rfl
theorem i19_21 {w0 w2 : Value} {x : Int32} : WP V 19 21 [w0, .int x, w2] st t I L R Q = WP V 19 22 [w0, .int x, w2] (.int x :: st) t I L R Q := wp_go rfl
theorem i19_22 {x y : Int32} : WP V 19 22 ls (.int y :: .int x :: st) t I L R Q = WP V 19 23 ls (.int (x + y) :: st) t I L R Q := wp_go rfl
theorem i19_23 {k j : Nat} (h2 : m_ar k 2 581 = true) (h1 : k < t) (h3 : j < 581) : WP V 19 23 ls (.int (nI j) :: .ref k :: st) t I L R Q = WP V 19 24 ls (.int (I k j) :: st) t I L R Q := wp_iaload rfl (by decide) h1 h2 h3
theorem i19_24 {w1 w2 : Value} {x : Nat} : WP V 19 24 [.ref x, w1, w2] st t I L R Q = WP V 19 25 [.ref x, w1, w2] (.ref x :: st) t I L R Q := wp_go rfl
theorem i19_25 {k : Nat} (h1 : k < t) (h2 : m_ob k 1 = true) : WP V 19 25 ls (.ref k :: st) t I L R Q = WP V 19 26 ls (m_rv (R k 1) :: st) t I L R Q := wp_getR rfl (by decide) h1 h2
theorem i19_26  : WP V 19 26 ls st t I L R Q = WP V 19 27 ls (.int (nI 18) :: st) t I L R Q := wp_go rfl
theorem i19_27 {w0 w1 : Value} {x : Int32} : WP V 19 27 [w0, w1, .int x] st t I L R Q = WP V 19 28 [w0, w1, .int x] (.int x :: st) t I L R Q := wp_go rfl
theorem i19_28 {x y : Int32} : WP V 19 28 ls (.int y :: .int x :: st) t I L R Q = WP V 19 29 ls (.int (x + y) :: st) t I L R Q := wp_go rfl
theorem i19_29 {k j : Nat} (h2 : m_ar k 2 581 = true) (h1 : k < t) (h3 : j < 581) : WP V 19 29 ls (.int (nI j) :: .ref k :: st) t I L R Q = WP V 19 30 ls (.int (I k j) :: st) t I L R Q := wp_iaload rfl (by decide) h1 h2 h3
theorem i19_30 {x y : Int32} : WP V 19 30 ls (.int y :: .int x :: st) t I L R Q = if y ≤ x then WP V 19 33 ls st t I L R Q else WP V 19 31 ls st t I L R Q := wp_br (c := m_cc .ge x y) rfl rfl
theorem i19_31  : WP V 19 31 ls st t I L R Q = WP V 19 32 ls (.int (nI 1) :: st) t I L R Q := wp_go rfl
theorem i19_32  : WP V 19 32 ls st t I L R Q = WP V 19 34 ls st t I L R Q := wp_go rfl
theorem i19_33  : WP V 19 33 ls st t I L R Q = WP V 19 34 ls (.int (nI 0) :: st) t I L R Q := wp_go rfl
theorem i19_34 {x : Int32} (h : m_01 x = true) : WP V 19 34 ls [.int x] t I L R Q = Q (some (.int x)) t I L R := wp_rtz rfl rfl h
-- TransactionCells$Dealings.put(IIII)I
theorem i20_0 {w1 w2 w3 w4 w5 w6 : Value} {x : Nat} : WP V 20 0 [.ref x, w1, w2, w3, w4, w5, w6] st t I L R Q = WP V 20 1 [.ref x, w1, w2, w3, w4, w5, w6] (.ref x :: st) t I L R Q := wp_go rfl
theorem i20_1 {k : Nat} (h1 : k < t) (h2 : m_ob k 1 = true) : WP V 20 1 ls (.ref k :: st) t I L R Q = WP V 20 2 ls (m_rv (R k 1) :: st) t I L R Q := wp_getR rfl (by decide) h1 h2
theorem i20_2  : WP V 20 2 ls st t I L R Q = WP V 20 3 ls (.int (nI 15) :: st) t I L R Q := wp_go rfl
theorem i20_3 {w0 w2 w3 w4 w5 w6 : Value} {x : Int32} : WP V 20 3 [w0, .int x, w2, w3, w4, w5, w6] st t I L R Q = WP V 20 4 [w0, .int x, w2, w3, w4, w5, w6] (.int x :: st) t I L R Q := wp_go rfl
theorem i20_4 {x y : Int32} : WP V 20 4 ls (.int y :: .int x :: st) t I L R Q = WP V 20 5 ls (.int (x + y) :: st) t I L R Q := wp_go rfl
theorem i20_5 {k j : Nat} (h2 : m_ar k 2 581 = true) (h1 : k < t) (h3 : j < 581) : WP V 20 5 ls (.int (nI j) :: .ref k :: st) t I L R Q = WP V 20 6 ls (.int (I k j) :: st) t I L R Q := wp_iaload rfl (by decide) h1 h2 h3
theorem i20_6 {p : Int32} {w0 w1 w2 w3 w5 w6 : Value} {x : Int32} : WP V 20 6 [w0, w1, w2, w3, .int p, w5, w6] (.int x :: st) t I L R Q = WP V 20 7 [w0, w1, w2, w3, .int p, .int x, w6] st t I L R Q := wp_go rfl
theorem i20_7 {w0 w1 w2 w3 w4 w6 : Value} {x : Int32} : WP V 20 7 [w0, w1, w2, w3, w4, .int x, w6] st t I L R Q = WP V 20 8 [w0, w1, w2, w3, w4, .int x, w6] (.int x :: st) t I L R Q := wp_go rfl
theorem i20_8  : WP V 20 8 ls st t I L R Q = WP V 20 9 ls (.int (-1) :: st) t I L R Q := wp_go rfl
theorem i20_9 {x y : Int32} : WP V 20 9 ls (.int y :: .int x :: st) t I L R Q = if x = y then WP V 20 10 ls st t I L R Q else WP V 20 17 ls st t I L R Q := wp_brn (c := m_cc .ne x y) rfl rfl
theorem i20_10 {w1 w2 w3 w4 w5 w6 : Value} {x : Nat} : WP V 20 10 [.ref x, w1, w2, w3, w4, w5, w6] st t I L R Q = WP V 20 11 [.ref x, w1, w2, w3, w4, w5, w6] (.ref x :: st) t I L R Q := wp_go rfl
theorem i20_11 {w0 w2 w3 w4 w5 w6 : Value} {x : Int32} : WP V 20 11 [w0, .int x, w2, w3, w4, w5, w6] st t I L R Q = WP V 20 12 [w0, .int x, w2, w3, w4, w5, w6] (.int x :: st) t I L R Q := wp_go rfl
theorem i20_12 {w0 w1 w3 w4 w5 w6 : Value} {x : Int32} : WP V 20 12 [w0, w1, .int x, w3, w4, w5, w6] st t I L R Q = WP V 20 13 [w0, w1, .int x, w3, w4, w5, w6] (.int x :: st) t I L R Q := wp_go rfl
theorem i20_13 {w0 w1 w2 w4 w5 w6 : Value} {x : Int32} : WP V 20 13 [w0, w1, w2, .int x, w4, w5, w6] st t I L R Q = WP V 20 14 [w0, w1, w2, .int x, w4, w5, w6] (.int x :: st) t I L R Q := wp_go rfl
theorem i20_14 {w0 w1 w2 w3 w5 w6 : Value} {x : Int32} : WP V 20 14 [w0, w1, w2, w3, .int x, w5, w6] st t I L R Q = WP V 20 15 [w0, w1, w2, w3, .int x, w5, w6] (.int x :: st) t I L R Q := wp_go rfl
theorem i20_15 {x0 : Int32} {x1 : Int32} {x2 : Int32} {x3 : Int32} {x4 : Nat}  (h1 : x4 < t) (h2 : m_ob x4 1 = true) : WP V 20 15 ls [.int x0, .int x1, .int x2, .int x3, .ref x4] t I L R Q = WPC V 21 [.ref x4, .int x3, .int x2, .int x1, .int x0] 20 16 ls [] t I L R Q := wp_cls (wp_icv rfl rfl h1 h2) (by decide) (Nat.le_of_ble_eq_true rfl) rfl rfl (Nat.le_of_ble_eq_true rfl) (Nat.le_of_ble_eq_true rfl)
theorem i20_16 {x : Int32} : WP V 20 16 ls [.int x] t I L R Q = Q (some (.int x)) t I L R := wp_rti rfl rfl
theorem i20_17 {w0 w1 w2 w3 w4 w6 : Value} {x : Int32} : WP V 20 17 [w0, w1, w2, w3, w4, .int x, w6] st t I L R Q = WP V 20 18 [w0, w1, w2, w3, w4, .int x, w6] (.int x :: st) t I L R Q := wp_go rfl
theorem i20_18  : WP V 20 18 ls st t I L R Q = WP V 20 19 ls (.int (nI 1) :: st) t I L R Q := wp_go rfl
theorem i20_19 {x y : Int32} : WP V 20 19 ls (.int y :: .int x :: st) t I L R Q = if x = y then WP V 20 20 ls st t I L R Q else WP V 20 22 ls st t I L R Q := wp_brn (c := m_cc .ne x y) rfl rfl
theorem i20_20  : WP V 20 20 ls st t I L R Q = WP V 20 21 ls (.int (nI 105) :: st) t I L R Q := wp_go rfl
theorem i20_21 {x : Int32} : WP V 20 21 ls [.int x] t I L R Q = Q (some (.int x)) t I L R := wp_rti rfl rfl
theorem i20_22 {w1 w2 w3 w4 w5 w6 : Value} {x : Nat} : WP V 20 22 [.ref x, w1, w2, w3, w4, w5, w6] st t I L R Q = WP V 20 23 [.ref x, w1, w2, w3, w4, w5, w6] (.ref x :: st) t I L R Q := wp_go rfl
theorem i20_23  : WP V 20 23 ls st t I L R Q = WP V 20 24 ls (.int (nI 3) :: st) t I L R Q := wp_go rfl
theorem i20_24 {x0 : Int32} {x1 : Nat}  (h1 : x1 < t) (h2 : m_ob x1 1 = true) : WP V 20 24 ls [.int x0, .ref x1] t I L R Q = WPC V 8 [.ref x1, .int x0] 20 25 ls [] t I L R Q := wp_cls (wp_icv rfl rfl h1 h2) (by decide) (Nat.le_of_ble_eq_true rfl) rfl rfl (Nat.le_of_ble_eq_true rfl) (Nat.le_of_ble_eq_true rfl)
theorem i20_25 {x : Int32} : WP V 20 25 ls (.int x :: st) t I L R Q = if x = nI 0 then WP V 20 26 ls st t I L R Q else WP V 20 79 ls st t I L R Q := wp_brn (c := m_cc .ne x 0) rfl rfl
theorem i20_26 {w1 w2 w3 w4 w5 w6 : Value} {x : Nat} : WP V 20 26 [.ref x, w1, w2, w3, w4, w5, w6] st t I L R Q = WP V 20 27 [.ref x, w1, w2, w3, w4, w5, w6] (.ref x :: st) t I L R Q := wp_go rfl
theorem i20_27 {k : Nat} (h1 : k < t) (h2 : m_ob k 1 = true) : WP V 20 27 ls (.ref k :: st) t I L R Q = WP V 20 28 ls (m_rv (R k 1) :: st) t I L R Q := wp_getR rfl (by decide) h1 h2
theorem i20_28  : WP V 20 28 ls st t I L R Q = WP V 20 29 ls (.int (nI 41) :: st) t I L R Q := wp_go rfl
theorem i20_29 {w0 w1 w3 w4 w5 w6 : Value} {x : Int32} : WP V 20 29 [w0, w1, .int x, w3, w4, w5, w6] st t I L R Q = WP V 20 30 [w0, w1, .int x, w3, w4, w5, w6] (.int x :: st) t I L R Q := wp_go rfl
theorem i20_30 {x y : Int32} : WP V 20 30 ls (.int y :: .int x :: st) t I L R Q = WP V 20 31 ls (.int (x + y) :: st) t I L R Q := wp_go rfl
theorem i20_31 {k j : Nat} (h2 : m_ar k 2 581 = true) (h1 : k < t) (h3 : j < 581) : WP V 20 31 ls (.int (nI j) :: .ref k :: st) t I L R Q = WP V 20 32 ls (.int (I k j) :: st) t I L R Q := wp_iaload rfl (by decide) h1 h2 h3
theorem i20_32 {w0 w2 w3 w4 w5 w6 : Value} {x : Int32} : WP V 20 32 [w0, .int x, w2, w3, w4, w5, w6] st t I L R Q = WP V 20 33 [w0, .int x, w2, w3, w4, w5, w6] (.int x :: st) t I L R Q := wp_go rfl
theorem i20_33 {x0 : Int32} {x1 : Int32}  : WP V 20 33 ls [.int x0, .int x1] t I L R Q = WPC V 9 [.int x1, .int x0] 20 34 ls [] t I L R Q := wp_cls (wp_ics rfl (by decide)) (by decide) (Nat.le_of_ble_eq_true rfl) rfl rfl (Nat.le_of_ble_eq_true rfl) (Nat.le_of_ble_eq_true rfl)
theorem i20_34 {x : Int32} : WP V 20 34 ls (.int x :: st) t I L R Q = if x = nI 0 then WP V 20 37 ls st t I L R Q else WP V 20 35 ls st t I L R Q := wp_br (c := m_cc .eq x 0) rfl rfl
theorem i20_35  : WP V 20 35 ls st t I L R Q = WP V 20 36 ls (.int (nI 0) :: st) t I L R Q := wp_go rfl
theorem i20_36 {x : Int32} : WP V 20 36 ls [.int x] t I L R Q = Q (some (.int x)) t I L R := wp_rti rfl rfl
theorem i20_37 {w1 w2 w3 w4 w5 w6 : Value} {x : Nat} : WP V 20 37 [.ref x, w1, w2, w3, w4, w5, w6] st t I L R Q = WP V 20 38 [.ref x, w1, w2, w3, w4, w5, w6] (.ref x :: st) t I L R Q := wp_go rfl
theorem i20_38 {w0 w2 w3 w4 w5 w6 : Value} {x : Int32} : WP V 20 38 [w0, .int x, w2, w3, w4, w5, w6] st t I L R Q = WP V 20 39 [w0, .int x, w2, w3, w4, w5, w6] (.int x :: st) t I L R Q := wp_go rfl
theorem i20_39 {w0 w1 w3 w4 w5 w6 : Value} {x : Int32} : WP V 20 39 [w0, w1, .int x, w3, w4, w5, w6] st t I L R Q = WP V 20 40 [w0, w1, .int x, w3, w4, w5, w6] (.int x :: st) t I L R Q := wp_go rfl
theorem i20_40 {x0 : Int32} {x1 : Int32} {x2 : Nat}  (h1 : x2 < t) (h2 : m_ob x2 1 = true) : WP V 20 40 ls [.int x0, .int x1, .ref x2] t I L R Q = WPC V 18 [.ref x2, .int x1, .int x0] 20 41 ls [] t I L R Q := wp_cls (wp_icv rfl rfl h1 h2) (by decide) (Nat.le_of_ble_eq_true rfl) rfl rfl (Nat.le_of_ble_eq_true rfl) (Nat.le_of_ble_eq_true rfl)
theorem i20_41 {p : Int32} {w0 w1 w2 w3 w4 w6 : Value} {x : Int32} : WP V 20 41 [w0, w1, w2, w3, w4, .int p, w6] (.int x :: st) t I L R Q = WP V 20 42 [w0, w1, w2, w3, w4, .int p, .int x] st t I L R Q := wp_go rfl
theorem i20_42 {w0 w1 w2 w3 w4 w5 : Value} {x : Int32} : WP V 20 42 [w0, w1, w2, w3, w4, w5, .int x] st t I L R Q = WP V 20 43 [w0, w1, w2, w3, w4, w5, .int x] (.int x :: st) t I L R Q := wp_go rfl
theorem i20_43  : WP V 20 43 ls st t I L R Q = WP V 20 44 ls (.int (-1) :: st) t I L R Q := wp_go rfl
theorem i20_44 {x y : Int32} : WP V 20 44 ls (.int y :: .int x :: st) t I L R Q = if x = y then WP V 20 52 ls st t I L R Q else WP V 20 45 ls st t I L R Q := wp_br (c := m_cc .eq x y) rfl rfl
theorem i20_45 {w1 w2 w3 w4 w5 w6 : Value} {x : Nat} : WP V 20 45 [.ref x, w1, w2, w3, w4, w5, w6] st t I L R Q = WP V 20 46 [.ref x, w1, w2, w3, w4, w5, w6] (.ref x :: st) t I L R Q := wp_go rfl
theorem i20_46 {w0 w2 w3 w4 w5 w6 : Value} {x : Int32} : WP V 20 46 [w0, .int x, w2, w3, w4, w5, w6] st t I L R Q = WP V 20 47 [w0, .int x, w2, w3, w4, w5, w6] (.int x :: st) t I L R Q := wp_go rfl
theorem i20_47 {w0 w1 w2 w3 w4 w5 : Value} {x : Int32} : WP V 20 47 [w0, w1, w2, w3, w4, w5, .int x] st t I L R Q = WP V 20 48 [w0, w1, w2, w3, w4, w5, .int x] (.int x :: st) t I L R Q := wp_go rfl
theorem i20_48 {x0 : Int32} {x1 : Int32} {x2 : Nat}  (h1 : x2 < t) (h2 : m_ob x2 1 = true) : WP V 20 48 ls [.int x0, .int x1, .ref x2] t I L R Q = WPC V 19 [.ref x2, .int x1, .int x0] 20 49 ls [] t I L R Q := wp_cls (wp_icv rfl rfl h1 h2) (by decide) (Nat.le_of_ble_eq_true rfl) rfl rfl (Nat.le_of_ble_eq_true rfl) (Nat.le_of_ble_eq_true rfl)
theorem i20_49 {x : Int32} : WP V 20 49 ls (.int x :: st) t I L R Q = if x = nI 0 then WP V 20 50 ls st t I L R Q else WP V 20 52 ls st t I L R Q := wp_brn (c := m_cc .ne x 0) rfl rfl
theorem i20_50  : WP V 20 50 ls st t I L R Q = WP V 20 51 ls (.int (nI 0) :: st) t I L R Q := wp_go rfl
theorem i20_51 {x : Int32} : WP V 20 51 ls [.int x] t I L R Q = Q (some (.int x)) t I L R := wp_rti rfl rfl
theorem i20_52 {w0 w1 w2 w3 w4 w5 : Value} {x : Int32} : WP V 20 52 [w0, w1, w2, w3, w4, w5, .int x] st t I L R Q = WP V 20 53 [w0, w1, w2, w3, w4, w5, .int x] (.int x :: st) t I L R Q := wp_go rfl
theorem i20_53  : WP V 20 53 ls st t I L R Q = WP V 20 54 ls (.int (-1) :: st) t I L R Q := wp_go rfl
theorem i20_54 {x y : Int32} : WP V 20 54 ls (.int y :: .int x :: st) t I L R Q = if x = y then WP V 20 58 ls st t I L R Q else WP V 20 55 ls st t I L R Q := wp_br (c := m_cc .eq x y) rfl rfl
theorem i20_55 {w1 w2 w3 w4 w5 w6 : Value} {x : Nat} : WP V 20 55 [.ref x, w1, w2, w3, w4, w5, w6] st t I L R Q = WP V 20 56 [.ref x, w1, w2, w3, w4, w5, w6] (.ref x :: st) t I L R Q := wp_go rfl
theorem i20_56 {w0 w1 w2 w3 w4 w5 : Value} {x : Int32} : WP V 20 56 [w0, w1, w2, w3, w4, w5, .int x] st t I L R Q = WP V 20 57 [w0, w1, w2, w3, w4, w5, .int x] (.int x :: st) t I L R Q := wp_go rfl
theorem i20_57 {x0 : Int32} {x1 : Nat}  (h1 : x1 < t) (h2 : m_ob x1 1 = true) : WP V 20 57 ls [.int x0, .ref x1] t I L R Q = WPC V 30 [.ref x1, .int x0] 20 58 ls [] t I L R Q := wp_cls (wp_icv rfl rfl h1 h2) (by decide) (Nat.le_of_ble_eq_true rfl) rfl rfl (Nat.le_of_ble_eq_true rfl) (Nat.le_of_ble_eq_true rfl)
theorem i20_58 {w1 w2 w3 w4 w5 w6 : Value} {x : Nat} : WP V 20 58 [.ref x, w1, w2, w3, w4, w5, w6] st t I L R Q = WP V 20 59 [.ref x, w1, w2, w3, w4, w5, w6] (.ref x :: st) t I L R Q := wp_go rfl
theorem i20_59  : WP V 20 59 ls st t I L R Q = WP V 20 60 ls (.int (nI 1) :: st) t I L R Q := wp_go rfl
theorem i20_60 {x0 : Int32} {x1 : Nat}  (h1 : x1 < t) (h2 : m_ob x1 1 = true) : WP V 20 60 ls [.int x0, .ref x1] t I L R Q = WPC V 8 [.ref x1, .int x0] 20 61 ls [] t I L R Q := wp_cls (wp_icv rfl rfl h1 h2) (by decide) (Nat.le_of_ble_eq_true rfl) rfl rfl (Nat.le_of_ble_eq_true rfl) (Nat.le_of_ble_eq_true rfl)
theorem i20_61 {x : Int32} : WP V 20 61 ls (.int x :: st) t I L R Q = if x = nI 0 then WP V 20 69 ls st t I L R Q else WP V 20 62 ls st t I L R Q := wp_br (c := m_cc .eq x 0) rfl rfl
theorem i20_62 {w1 w2 w3 w4 w5 w6 : Value} {x : Nat} : WP V 20 62 [.ref x, w1, w2, w3, w4, w5, w6] st t I L R Q = WP V 20 63 [.ref x, w1, w2, w3, w4, w5, w6] (.ref x :: st) t I L R Q := wp_go rfl
theorem i20_63 {k : Nat} (h1 : k < t) (h2 : m_ob k 1 = true) : WP V 20 63 ls (.ref k :: st) t I L R Q = WP V 20 64 ls (m_rv (R k 1) :: st) t I L R Q := wp_getR rfl (by decide) h1 h2
theorem i20_64  : WP V 20 64 ls st t I L R Q = WP V 20 65 ls (.int (nI 33) :: st) t I L R Q := wp_go rfl
theorem i20_65 {w0 w1 w3 w4 w5 w6 : Value} {x : Int32} : WP V 20 65 [w0, w1, .int x, w3, w4, w5, w6] st t I L R Q = WP V 20 66 [w0, w1, .int x, w3, w4, w5, w6] (.int x :: st) t I L R Q := wp_go rfl
theorem i20_66 {x y : Int32} : WP V 20 66 ls (.int y :: .int x :: st) t I L R Q = WP V 20 67 ls (.int (x + y) :: st) t I L R Q := wp_go rfl
theorem i20_67 {w0 w2 w3 w4 w5 w6 : Value} {x : Int32} : WP V 20 67 [w0, .int x, w2, w3, w4, w5, w6] st t I L R Q = WP V 20 68 [w0, .int x, w2, w3, w4, w5, w6] (.int x :: st) t I L R Q := wp_go rfl
theorem i20_68 {k j : Nat} {x : Int32} (h2 : m_ar k 2 581 = true) (h1 : k < t) (h3 : j < 581) : WP V 20 68 ls (.int x :: .int (nI j) :: .ref k :: st) t I L R Q = WP V 20 69 ls st t (m_sc I k (m_sc (I k) j x)) L R Q := wp_iastore rfl (by decide) h1 h2 h3
theorem i20_69 {w0 w1 w2 w3 w4 w6 : Value} {x : Int32} : WP V 20 69 [w0, w1, w2, w3, w4, .int x, w6] st t I L R Q = WP V 20 70 [w0, w1, w2, w3, w4, .int x, w6] (.int x :: st) t I L R Q := wp_go rfl
theorem i20_70  : WP V 20 70 ls st t I L R Q = WP V 20 71 ls (.int (nI 3) :: st) t I L R Q := wp_go rfl
theorem i20_71 {x y : Int32} : WP V 20 71 ls (.int y :: .int x :: st) t I L R Q = if x = y then WP V 20 72 ls st t I L R Q else WP V 20 79 ls st t I L R Q := wp_brn (c := m_cc .ne x y) rfl rfl
theorem i20_72 {w1 w2 w3 w4 w5 w6 : Value} {x : Nat} : WP V 20 72 [.ref x, w1, w2, w3, w4, w5, w6] st t I L R Q = WP V 20 73 [.ref x, w1, w2, w3, w4, w5, w6] (.ref x :: st) t I L R Q := wp_go rfl
theorem i20_73 {k : Nat} (h1 : k < t) (h2 : m_ob k 1 = true) : WP V 20 73 ls (.ref k :: st) t I L R Q = WP V 20 74 ls (m_rv (R k 1) :: st) t I L R Q := wp_getR rfl (by decide) h1 h2
theorem i20_74  : WP V 20 74 ls st t I L R Q = WP V 20 75 ls (.int (nI 41) :: st) t I L R Q := wp_go rfl
theorem i20_75 {w0 w1 w3 w4 w5 w6 : Value} {x : Int32} : WP V 20 75 [w0, w1, .int x, w3, w4, w5, w6] st t I L R Q = WP V 20 76 [w0, w1, .int x, w3, w4, w5, w6] (.int x :: st) t I L R Q := wp_go rfl
theorem i20_76 {x y : Int32} : WP V 20 76 ls (.int y :: .int x :: st) t I L R Q = WP V 20 77 ls (.int (x + y) :: st) t I L R Q := wp_go rfl
theorem i20_77 {w0 w2 w3 w4 w5 w6 : Value} {x : Int32} : WP V 20 77 [w0, .int x, w2, w3, w4, w5, w6] st t I L R Q = WP V 20 78 [w0, .int x, w2, w3, w4, w5, w6] (.int x :: st) t I L R Q := wp_go rfl
theorem i20_78 {k j : Nat} {x : Int32} (h2 : m_ar k 2 581 = true) (h1 : k < t) (h3 : j < 581) : WP V 20 78 ls (.int x :: .int (nI j) :: .ref k :: st) t I L R Q = WP V 20 79 ls st t (m_sc I k (m_sc (I k) j x)) L R Q := wp_iastore rfl (by decide) h1 h2 h3
theorem i20_79 {w1 w2 w3 w4 w5 w6 : Value} {x : Nat} : WP V 20 79 [.ref x, w1, w2, w3, w4, w5, w6] st t I L R Q = WP V 20 80 [.ref x, w1, w2, w3, w4, w5, w6] (.ref x :: st) t I L R Q := wp_go rfl
theorem i20_80 {k : Nat} (h1 : k < t) (h2 : m_ob k 1 = true) : WP V 20 80 ls (.ref k :: st) t I L R Q = WP V 20 81 ls (m_rv (R k 1) :: st) t I L R Q := wp_getR rfl (by decide) h1 h2
theorem i20_81  : WP V 20 81 ls st t I L R Q = WP V 20 82 ls (.int (nI 176) :: st) t I L R Q := wp_go rfl
theorem i20_82  : WP V 20 82 ls st t I L R Q = WP V 20 83 ls (.int (nI 47) :: st) t I L R Q := wp_go rfl
theorem i20_83 {w0 w2 w3 w4 w5 w6 : Value} {x : Int32} : WP V 20 83 [w0, .int x, w2, w3, w4, w5, w6] st t I L R Q = WP V 20 84 [w0, .int x, w2, w3, w4, w5, w6] (.int x :: st) t I L R Q := wp_go rfl
theorem i20_84 {x y : Int32} : WP V 20 84 ls (.int y :: .int x :: st) t I L R Q = WP V 20 85 ls (.int (x * y) :: st) t I L R Q := wp_go rfl
theorem i20_85 {x y : Int32} : WP V 20 85 ls (.int y :: .int x :: st) t I L R Q = WP V 20 86 ls (.int (x + y) :: st) t I L R Q := wp_go rfl
theorem i20_86 {w0 w1 w3 w4 w5 w6 : Value} {x : Int32} : WP V 20 86 [w0, w1, .int x, w3, w4, w5, w6] st t I L R Q = WP V 20 87 [w0, w1, .int x, w3, w4, w5, w6] (.int x :: st) t I L R Q := wp_go rfl
theorem i20_87 {x y : Int32} : WP V 20 87 ls (.int y :: .int x :: st) t I L R Q = WP V 20 88 ls (.int (x + y) :: st) t I L R Q := wp_go rfl
theorem i20_88 {w0 w1 w2 w4 w5 w6 : Value} {x : Int32} : WP V 20 88 [w0, w1, w2, .int x, w4, w5, w6] st t I L R Q = WP V 20 89 [w0, w1, w2, .int x, w4, w5, w6] (.int x :: st) t I L R Q := wp_go rfl
theorem i20_89 {k j : Nat} {x : Int32} (h2 : m_ar k 2 581 = true) (h1 : k < t) (h3 : j < 581) : WP V 20 89 ls (.int x :: .int (nI j) :: .ref k :: st) t I L R Q = WP V 20 90 ls st t (m_sc I k (m_sc (I k) j x)) L R Q := wp_iastore rfl (by decide) h1 h2 h3
theorem i20_90 {w1 w2 w3 w4 w5 w6 : Value} {x : Nat} : WP V 20 90 [.ref x, w1, w2, w3, w4, w5, w6] st t I L R Q = WP V 20 91 [.ref x, w1, w2, w3, w4, w5, w6] (.ref x :: st) t I L R Q := wp_go rfl
theorem i20_91 {k : Nat} (h1 : k < t) (h2 : m_ob k 1 = true) : WP V 20 91 ls (.ref k :: st) t I L R Q = WP V 20 92 ls (m_rv (R k 1) :: st) t I L R Q := wp_getR rfl (by decide) h1 h2
theorem i20_92  : WP V 20 92 ls st t I L R Q = WP V 20 93 ls (.int (nI 176) :: st) t I L R Q := wp_go rfl
theorem i20_93  : WP V 20 93 ls st t I L R Q = WP V 20 94 ls (.int (nI 47) :: st) t I L R Q := wp_go rfl
theorem i20_94 {w0 w2 w3 w4 w5 w6 : Value} {x : Int32} : WP V 20 94 [w0, .int x, w2, w3, w4, w5, w6] st t I L R Q = WP V 20 95 [w0, .int x, w2, w3, w4, w5, w6] (.int x :: st) t I L R Q := wp_go rfl
theorem i20_95 {x y : Int32} : WP V 20 95 ls (.int y :: .int x :: st) t I L R Q = WP V 20 96 ls (.int (x * y) :: st) t I L R Q := wp_go rfl
theorem i20_96 {x y : Int32} : WP V 20 96 ls (.int y :: .int x :: st) t I L R Q = WP V 20 97 ls (.int (x + y) :: st) t I L R Q := wp_go rfl
theorem i20_97  : WP V 20 97 ls st t I L R Q = WP V 20 98 ls (.int (nI 8) :: st) t I L R Q := wp_go rfl
theorem i20_98 {x y : Int32} : WP V 20 98 ls (.int y :: .int x :: st) t I L R Q = WP V 20 99 ls (.int (x + y) :: st) t I L R Q := wp_go rfl
theorem i20_99 {w0 w1 w3 w4 w5 w6 : Value} {x : Int32} : WP V 20 99 [w0, w1, .int x, w3, w4, w5, w6] st t I L R Q = WP V 20 100 [w0, w1, .int x, w3, w4, w5, w6] (.int x :: st) t I L R Q := wp_go rfl
theorem i20_100 {x y : Int32} : WP V 20 100 ls (.int y :: .int x :: st) t I L R Q = WP V 20 101 ls (.int (x + y) :: st) t I L R Q := wp_go rfl
theorem i20_101 {w0 w1 w2 w3 w5 w6 : Value} {x : Int32} : WP V 20 101 [w0, w1, w2, w3, .int x, w5, w6] st t I L R Q = WP V 20 102 [w0, w1, w2, w3, .int x, w5, w6] (.int x :: st) t I L R Q := wp_go rfl
theorem i20_102 {k j : Nat} {x : Int32} (h2 : m_ar k 2 581 = true) (h1 : k < t) (h3 : j < 581) : WP V 20 102 ls (.int x :: .int (nI j) :: .ref k :: st) t I L R Q = WP V 20 103 ls st t (m_sc I k (m_sc (I k) j x)) L R Q := wp_iastore rfl (by decide) h1 h2 h3
theorem i20_103  : WP V 20 103 ls st t I L R Q = WP V 20 104 ls (.int (nI 6) :: st) t I L R Q := wp_go rfl
theorem i20_104 {x : Int32} : WP V 20 104 ls [.int x] t I L R Q = Q (some (.int x)) t I L R := wp_rti rfl rfl
-- TransactionCells$Dealings.putOutside(IIII)I
theorem i21_0 {w1 w2 w3 w4 : Value} {x : Nat} : WP V 21 0 [.ref x, w1, w2, w3, w4] st t I L R Q = WP V 21 1 [.ref x, w1, w2, w3, w4] (.ref x :: st) t I L R Q := wp_go rfl
theorem i21_1 {k : Nat} (h1 : k < t) (h2 : m_ob k 1 = true) : WP V 21 1 ls (.ref k :: st) t I L R Q = WP V 21 2 ls (m_rv (R k 1) :: st) t I L R Q := wp_getR rfl (by decide) h1 h2
theorem i21_2  : WP V 21 2 ls st t I L R Q = WP V 21 3 ls (.int (nI 41) :: st) t I L R Q := wp_go rfl
theorem i21_3 {w0 w1 w3 w4 : Value} {x : Int32} : WP V 21 3 [w0, w1, .int x, w3, w4] st t I L R Q = WP V 21 4 [w0, w1, .int x, w3, w4] (.int x :: st) t I L R Q := wp_go rfl
theorem i21_4 {x y : Int32} : WP V 21 4 ls (.int y :: .int x :: st) t I L R Q = WP V 21 5 ls (.int (x + y) :: st) t I L R Q := wp_go rfl
theorem i21_5 {k j : Nat} (h2 : m_ar k 2 581 = true) (h1 : k < t) (h3 : j < 581) : WP V 21 5 ls (.int (nI j) :: .ref k :: st) t I L R Q = WP V 21 6 ls (.int (I k j) :: st) t I L R Q := wp_iaload rfl (by decide) h1 h2 h3
theorem i21_6  : WP V 21 6 ls st t I L R Q = WP V 21 7 ls (.int (-1) :: st) t I L R Q := wp_go rfl
theorem i21_7 {x y : Int32} : WP V 21 7 ls (.int y :: .int x :: st) t I L R Q = if x = y then WP V 21 8 ls st t I L R Q else WP V 21 15 ls st t I L R Q := wp_brn (c := m_cc .ne x y) rfl rfl
theorem i21_8 {w1 w2 w3 w4 : Value} {x : Nat} : WP V 21 8 [.ref x, w1, w2, w3, w4] st t I L R Q = WP V 21 9 [.ref x, w1, w2, w3, w4] (.ref x :: st) t I L R Q := wp_go rfl
theorem i21_9 {k : Nat} (h1 : k < t) (h2 : m_ob k 1 = true) : WP V 21 9 ls (.ref k :: st) t I L R Q = WP V 21 10 ls (m_rv (R k 1) :: st) t I L R Q := wp_getR rfl (by decide) h1 h2
theorem i21_10  : WP V 21 10 ls st t I L R Q = WP V 21 11 ls (.int (nI 1) :: st) t I L R Q := wp_go rfl
theorem i21_11 {k j : Nat} (h2 : m_ar k 2 581 = true) (h1 : k < t) (h3 : j < 581) : WP V 21 11 ls (.int (nI j) :: .ref k :: st) t I L R Q = WP V 21 12 ls (.int (I k j) :: st) t I L R Q := wp_iaload rfl (by decide) h1 h2 h3
theorem i21_12 {w0 w2 w3 w4 : Value} {x : Int32} : WP V 21 12 [w0, .int x, w2, w3, w4] st t I L R Q = WP V 21 13 [w0, .int x, w2, w3, w4] (.int x :: st) t I L R Q := wp_go rfl
theorem i21_13 {x0 : Int32} {x1 : Int32}  : WP V 21 13 ls [.int x0, .int x1] t I L R Q = WPC V 9 [.int x1, .int x0] 21 14 ls [] t I L R Q := wp_cls (wp_ics rfl (by decide)) (by decide) (Nat.le_of_ble_eq_true rfl) rfl rfl (Nat.le_of_ble_eq_true rfl) (Nat.le_of_ble_eq_true rfl)
theorem i21_14 {x : Int32} : WP V 21 14 ls (.int x :: st) t I L R Q = if x = nI 0 then WP V 21 17 ls st t I L R Q else WP V 21 15 ls st t I L R Q := wp_br (c := m_cc .eq x 0) rfl rfl
theorem i21_15  : WP V 21 15 ls st t I L R Q = WP V 21 16 ls (.int (nI 0) :: st) t I L R Q := wp_go rfl
theorem i21_16 {x : Int32} : WP V 21 16 ls [.int x] t I L R Q = Q (some (.int x)) t I L R := wp_rti rfl rfl
theorem i21_17 {w1 w2 w3 w4 : Value} {x : Nat} : WP V 21 17 [.ref x, w1, w2, w3, w4] st t I L R Q = WP V 21 18 [.ref x, w1, w2, w3, w4] (.ref x :: st) t I L R Q := wp_go rfl
theorem i21_18 {k : Nat} (h1 : k < t) (h2 : m_ob k 1 = true) : WP V 21 18 ls (.ref k :: st) t I L R Q = WP V 21 19 ls (m_rv (R k 1) :: st) t I L R Q := wp_getR rfl (by decide) h1 h2
theorem i21_19  : WP V 21 19 ls st t I L R Q = WP V 21 20 ls (.int (nI 33) :: st) t I L R Q := wp_go rfl
theorem i21_20 {w0 w1 w3 w4 : Value} {x : Int32} : WP V 21 20 [w0, w1, .int x, w3, w4] st t I L R Q = WP V 21 21 [w0, w1, .int x, w3, w4] (.int x :: st) t I L R Q := wp_go rfl
theorem i21_21 {x y : Int32} : WP V 21 21 ls (.int y :: .int x :: st) t I L R Q = WP V 21 22 ls (.int (x + y) :: st) t I L R Q := wp_go rfl
theorem i21_22 {k j : Nat} (h2 : m_ar k 2 581 = true) (h1 : k < t) (h3 : j < 581) : WP V 21 22 ls (.int (nI j) :: .ref k :: st) t I L R Q = WP V 21 23 ls (.int (I k j) :: st) t I L R Q := wp_iaload rfl (by decide) h1 h2 h3
theorem i21_23 {w0 w2 w3 w4 : Value} {x : Int32} : WP V 21 23 [w0, .int x, w2, w3, w4] st t I L R Q = WP V 21 24 [w0, .int x, w2, w3, w4] (.int x :: st) t I L R Q := wp_go rfl
theorem i21_24 {x0 : Int32} {x1 : Int32}  : WP V 21 24 ls [.int x0, .int x1] t I L R Q = WPC V 9 [.int x1, .int x0] 21 25 ls [] t I L R Q := wp_cls (wp_ics rfl (by decide)) (by decide) (Nat.le_of_ble_eq_true rfl) rfl rfl (Nat.le_of_ble_eq_true rfl) (Nat.le_of_ble_eq_true rfl)
theorem i21_25 {x : Int32} : WP V 21 25 ls (.int x :: st) t I L R Q = if x = nI 0 then WP V 21 28 ls st t I L R Q else WP V 21 26 ls st t I L R Q := wp_br (c := m_cc .eq x 0) rfl rfl
theorem i21_26  : WP V 21 26 ls st t I L R Q = WP V 21 27 ls (.int (nI 0) :: st) t I L R Q := wp_go rfl
theorem i21_27 {x : Int32} : WP V 21 27 ls [.int x] t I L R Q = Q (some (.int x)) t I L R := wp_rti rfl rfl
theorem i21_28 {w1 w2 w3 w4 : Value} {x : Nat} : WP V 21 28 [.ref x, w1, w2, w3, w4] st t I L R Q = WP V 21 29 [.ref x, w1, w2, w3, w4] (.ref x :: st) t I L R Q := wp_go rfl
theorem i21_29 {k : Nat} (h1 : k < t) (h2 : m_ob k 1 = true) : WP V 21 29 ls (.ref k :: st) t I L R Q = WP V 21 30 ls (m_rv (R k 1) :: st) t I L R Q := wp_getR rfl (by decide) h1 h2
theorem i21_30  : WP V 21 30 ls st t I L R Q = WP V 21 31 ls (.int (nI 559) :: st) t I L R Q := wp_go rfl
theorem i21_31 {v0 : Int32} {v1 : Nat} : WP V 21 31 ls (.int v0 :: .ref v1 :: st) t I L R Q = WP V 21 32 ls (.int v0 :: .ref v1 :: .int v0 :: .ref v1 :: st) t I L R Q := wp_go rfl
theorem i21_32 {k j : Nat} (h2 : m_ar k 2 581 = true) (h1 : k < t) (h3 : j < 581) : WP V 21 32 ls (.int (nI j) :: .ref k :: st) t I L R Q = WP V 21 33 ls (.int (I k j) :: st) t I L R Q := wp_iaload rfl (by decide) h1 h2 h3
theorem i21_33  : WP V 21 33 ls st t I L R Q = WP V 21 34 ls (.int (nI 1) :: st) t I L R Q := wp_go rfl
theorem i21_34 {x y : Int32} : WP V 21 34 ls (.int y :: .int x :: st) t I L R Q = WP V 21 35 ls (.int (x + y) :: st) t I L R Q := wp_go rfl
theorem i21_35 {k j : Nat} {x : Int32} (h2 : m_ar k 2 581 = true) (h1 : k < t) (h3 : j < 581) : WP V 21 35 ls (.int x :: .int (nI j) :: .ref k :: st) t I L R Q = WP V 21 36 ls st t (m_sc I k (m_sc (I k) j x)) L R Q := wp_iastore rfl (by decide) h1 h2 h3
theorem i21_36 {w1 w2 w3 w4 : Value} {x : Nat} : WP V 21 36 [.ref x, w1, w2, w3, w4] st t I L R Q = WP V 21 37 [.ref x, w1, w2, w3, w4] (.ref x :: st) t I L R Q := wp_go rfl
theorem i21_37 {k : Nat} (h1 : k < t) (h2 : m_ob k 1 = true) : WP V 21 37 ls (.ref k :: st) t I L R Q = WP V 21 38 ls (m_rv (R k 1) :: st) t I L R Q := wp_getR rfl (by decide) h1 h2
theorem i21_38  : WP V 21 38 ls st t I L R Q = WP V 21 39 ls (.int (nI 0) :: st) t I L R Q := wp_go rfl
theorem i21_39 {v0 : Int32} {v1 : Nat} : WP V 21 39 ls (.int v0 :: .ref v1 :: st) t I L R Q = WP V 21 40 ls (.int v0 :: .ref v1 :: .int v0 :: .ref v1 :: st) t I L R Q := wp_go rfl
theorem i21_40 {k j : Nat} (h2 : m_ar k 2 581 = true) (h1 : k < t) (h3 : j < 581) : WP V 21 40 ls (.int (nI j) :: .ref k :: st) t I L R Q = WP V 21 41 ls (.int (I k j) :: st) t I L R Q := wp_iaload rfl (by decide) h1 h2 h3
theorem i21_41  : WP V 21 41 ls st t I L R Q = WP V 21 42 ls (.int (nI 1) :: st) t I L R Q := wp_go rfl
theorem i21_42 {x y : Int32} : WP V 21 42 ls (.int y :: .int x :: st) t I L R Q = WP V 21 43 ls (.int (x + y) :: st) t I L R Q := wp_go rfl
theorem i21_43 {k j : Nat} {x : Int32} (h2 : m_ar k 2 581 = true) (h1 : k < t) (h3 : j < 581) : WP V 21 43 ls (.int x :: .int (nI j) :: .ref k :: st) t I L R Q = WP V 21 44 ls st t (m_sc I k (m_sc (I k) j x)) L R Q := wp_iastore rfl (by decide) h1 h2 h3
theorem i21_44 {w1 w2 w3 w4 : Value} {x : Nat} : WP V 21 44 [.ref x, w1, w2, w3, w4] st t I L R Q = WP V 21 45 [.ref x, w1, w2, w3, w4] (.ref x :: st) t I L R Q := wp_go rfl
theorem i21_45 {k : Nat} (h1 : k < t) (h2 : m_ob k 1 = true) : WP V 21 45 ls (.ref k :: st) t I L R Q = WP V 21 46 ls (m_rv (R k 0) :: st) t I L R Q := wp_getR rfl (by decide) h1 h2
theorem i21_46 {w0 w1 w3 w4 : Value} {x : Int32} : WP V 21 46 [w0, w1, .int x, w3, w4] st t I L R Q = WP V 21 47 [w0, w1, .int x, w3, w4] (.int x :: st) t I L R Q := wp_go rfl
theorem i21_47 {w0 w1 w2 w4 : Value} {x : Int32} : WP V 21 47 [w0, w1, w2, .int x, w4] st t I L R Q = WP V 21 48 [w0, w1, w2, .int x, w4] (.int x :: st) t I L R Q := wp_go rfl
theorem i21_48 {w0 w1 w2 w3 : Value} {x : Int32} : WP V 21 48 [w0, w1, w2, w3, .int x] st t I L R Q = WP V 21 49 [w0, w1, w2, w3, .int x] (.int x :: st) t I L R Q := wp_go rfl
theorem i21_49 {x0 : Int32} {x1 : Int32} {x2 : Int32} {x3 : Nat}  (h1 : x3 < t) (h2 : m_ob x3 3 = true) : WP V 21 49 ls [.int x0, .int x1, .int x2, .ref x3] t I L R Q = WPC V 52 [.ref x3, .int x2, .int x1, .int x0] 21 50 ls [] t I L R Q := wp_cls (wp_icv rfl rfl h1 h2) (by decide) (Nat.le_of_ble_eq_true rfl) rfl rfl (Nat.le_of_ble_eq_true rfl) (Nat.le_of_ble_eq_true rfl)
theorem i21_50 {w1 w2 w3 w4 : Value} {x : Nat} : WP V 21 50 [.ref x, w1, w2, w3, w4] st t I L R Q = WP V 21 51 [.ref x, w1, w2, w3, w4] (.ref x :: st) t I L R Q := wp_go rfl
theorem i21_51 {k : Nat} (h1 : k < t) (h2 : m_ob k 1 = true) : WP V 21 51 ls (.ref k :: st) t I L R Q = WP V 21 52 ls (m_rv (R k 0) :: st) t I L R Q := wp_getR rfl (by decide) h1 h2
theorem i21_52 {k : Nat} (h1 : k < t) (h2 : m_ob k 3 = true) : WP V 21 52 ls (.ref k :: st) t I L R Q = WP V 21 53 ls (m_rv (R k 3) :: st) t I L R Q := wp_getR rfl (by decide) h1 h2
theorem i21_53 {w1 w2 w3 w4 : Value} {x : Nat} : WP V 21 53 [.ref x, w1, w2, w3, w4] st t I L R Q = WP V 21 54 [.ref x, w1, w2, w3, w4] (.ref x :: st) t I L R Q := wp_go rfl
theorem i21_54 {k : Nat} (h1 : k < t) (h2 : m_ob k 1 = true) : WP V 21 54 ls (.ref k :: st) t I L R Q = WP V 21 55 ls (m_rv (R k 1) :: st) t I L R Q := wp_getR rfl (by decide) h1 h2
theorem i21_55 {w0 w2 w3 w4 : Value} {x : Int32} : WP V 21 55 [w0, .int x, w2, w3, w4] st t I L R Q = WP V 21 56 [w0, .int x, w2, w3, w4] (.int x :: st) t I L R Q := wp_go rfl
theorem i21_56 {w0 w1 w3 w4 : Value} {x : Int32} : WP V 21 56 [w0, w1, .int x, w3, w4] st t I L R Q = WP V 21 57 [w0, w1, .int x, w3, w4] (.int x :: st) t I L R Q := wp_go rfl
theorem i21_57 {x0 : Int32} {x1 : Int32} {x2 : Nat} {x3 : Nat}  (h1 : x3 < t) (h2 : m_ob x3 4 = true) : WP V 21 57 ls [.int x0, .int x1, .ref x2, .ref x3] t I L R Q = WPC V 57 [.ref x3, .ref x2, .int x1, .int x0] 21 58 ls [] t I L R Q := wp_cls (wp_icv rfl rfl h1 h2) (by decide) (Nat.le_of_ble_eq_true rfl) rfl rfl (Nat.le_of_ble_eq_true rfl) (Nat.le_of_ble_eq_true rfl)
theorem i21_58  : WP V 21 58 ls st t I L R Q = WP V 21 59 ls (.int (nI 6) :: st) t I L R Q := wp_go rfl
theorem i21_59 {x : Int32} : WP V 21 59 ls [.int x] t I L R Q = Q (some (.int x)) t I L R := wp_rti rfl rfl
-- TransactionCells$Dealings.finish(I)I
theorem i22_0 {w1 w2 : Value} {x : Nat} : WP V 22 0 [.ref x, w1, w2] st t I L R Q = WP V 22 1 [.ref x, w1, w2] (.ref x :: st) t I L R Q := wp_go rfl
theorem i22_1 {k : Nat} (h1 : k < t) (h2 : m_ob k 1 = true) : WP V 22 1 ls (.ref k :: st) t I L R Q = WP V 22 2 ls (m_rv (R k 1) :: st) t I L R Q := wp_getR rfl (by decide) h1 h2
theorem i22_2  : WP V 22 2 ls st t I L R Q = WP V 22 3 ls (.int (nI 15) :: st) t I L R Q := wp_go rfl
theorem i22_3 {w0 w2 : Value} {x : Int32} : WP V 22 3 [w0, .int x, w2] st t I L R Q = WP V 22 4 [w0, .int x, w2] (.int x :: st) t I L R Q := wp_go rfl
theorem i22_4 {x y : Int32} : WP V 22 4 ls (.int y :: .int x :: st) t I L R Q = WP V 22 5 ls (.int (x + y) :: st) t I L R Q := wp_go rfl
theorem i22_5 {k j : Nat} (h2 : m_ar k 2 581 = true) (h1 : k < t) (h3 : j < 581) : WP V 22 5 ls (.int (nI j) :: .ref k :: st) t I L R Q = WP V 22 6 ls (.int (I k j) :: st) t I L R Q := wp_iaload rfl (by decide) h1 h2 h3
theorem i22_6 {p : Int32} {w0 w2 : Value} {x : Int32} : WP V 22 6 [w0, .int p, w2] (.int x :: st) t I L R Q = WP V 22 7 [w0, .int p, .int x] st t I L R Q := wp_go rfl
theorem i22_7 {w0 w1 : Value} {x : Int32} : WP V 22 7 [w0, w1, .int x] st t I L R Q = WP V 22 8 [w0, w1, .int x] (.int x :: st) t I L R Q := wp_go rfl
theorem i22_8  : WP V 22 8 ls st t I L R Q = WP V 22 9 ls (.int (-1) :: st) t I L R Q := wp_go rfl
theorem i22_9 {x y : Int32} : WP V 22 9 ls (.int y :: .int x :: st) t I L R Q = if x = y then WP V 22 25 ls st t I L R Q else WP V 22 10 ls st t I L R Q := wp_br (c := m_cc .eq x y) rfl rfl
theorem i22_10 {w1 w2 : Value} {x : Nat} : WP V 22 10 [.ref x, w1, w2] st t I L R Q = WP V 22 11 [.ref x, w1, w2] (.ref x :: st) t I L R Q := wp_go rfl
theorem i22_11 {k : Nat} (h1 : k < t) (h2 : m_ob k 1 = true) : WP V 22 11 ls (.ref k :: st) t I L R Q = WP V 22 12 ls (m_rv (R k 1) :: st) t I L R Q := wp_getR rfl (by decide) h1 h2
theorem i22_12  : WP V 22 12 ls st t I L R Q = WP V 22 13 ls (.int (nI 12) :: st) t I L R Q := wp_go rfl
theorem i22_13 {w0 w2 : Value} {x : Int32} : WP V 22 13 [w0, .int x, w2] st t I L R Q = WP V 22 14 [w0, .int x, w2] (.int x :: st) t I L R Q := wp_go rfl
theorem i22_14 {x y : Int32} : WP V 22 14 ls (.int y :: .int x :: st) t I L R Q = WP V 22 15 ls (.int (x + y) :: st) t I L R Q := wp_go rfl
theorem i22_15 {k j : Nat} (h2 : m_ar k 2 581 = true) (h1 : k < t) (h3 : j < 581) : WP V 22 15 ls (.int (nI j) :: .ref k :: st) t I L R Q = WP V 22 16 ls (.int (I k j) :: st) t I L R Q := wp_iaload rfl (by decide) h1 h2 h3
theorem i22_16 {w1 w2 : Value} {x : Nat} : WP V 22 16 [.ref x, w1, w2] st t I L R Q = WP V 22 17 [.ref x, w1, w2] (.ref x :: st) t I L R Q := wp_go rfl
theorem i22_17 {k : Nat} (h1 : k < t) (h2 : m_ob k 1 = true) : WP V 22 17 ls (.ref k :: st) t I L R Q = WP V 22 18 ls (m_rv (R k 1) :: st) t I L R Q := wp_getR rfl (by decide) h1 h2
theorem i22_18  : WP V 22 18 ls st t I L R Q = WP V 22 19 ls (.int (nI 147) :: st) t I L R Q := wp_go rfl
theorem i22_19  : WP V 22 19 ls st t I L R Q = WP V 22 20 ls (.int (nI 47) :: st) t I L R Q := wp_go rfl
theorem i22_20 {w0 w2 : Value} {x : Int32} : WP V 22 20 [w0, .int x, w2] st t I L R Q = WP V 22 21 [w0, .int x, w2] (.int x :: st) t I L R Q := wp_go rfl
theorem i22_21 {x y : Int32} : WP V 22 21 ls (.int y :: .int x :: st) t I L R Q = WP V 22 22 ls (.int (x * y) :: st) t I L R Q := wp_go rfl
theorem i22_22 {x y : Int32} : WP V 22 22 ls (.int y :: .int x :: st) t I L R Q = WP V 22 23 ls (.int (x + y) :: st) t I L R Q := wp_go rfl
theorem i22_23 {k j : Nat} (h2 : m_ar k 2 581 = true) (h1 : k < t) (h3 : j < 581) : WP V 22 23 ls (.int (nI j) :: .ref k :: st) t I L R Q = WP V 22 24 ls (.int (I k j) :: st) t I L R Q := wp_iaload rfl (by decide) h1 h2 h3
theorem i22_24 {x y : Int32} : WP V 22 24 ls (.int y :: .int x :: st) t I L R Q = if x ≤ y then WP V 22 27 ls st t I L R Q else WP V 22 25 ls st t I L R Q := wp_br (c := m_cc .le x y) rfl rfl
theorem i22_25  : WP V 22 25 ls st t I L R Q = WP V 22 26 ls (.int (nI 105) :: st) t I L R Q := wp_go rfl
theorem i22_26 {x : Int32} : WP V 22 26 ls [.int x] t I L R Q = Q (some (.int x)) t I L R := wp_rti rfl rfl
theorem i22_27 {w1 w2 : Value} {x : Nat} : WP V 22 27 [.ref x, w1, w2] st t I L R Q = WP V 22 28 [.ref x, w1, w2] (.ref x :: st) t I L R Q := wp_go rfl
theorem i22_28  : WP V 22 28 ls st t I L R Q = WP V 22 29 ls (.int (nI 3) :: st) t I L R Q := wp_go rfl
theorem i22_29 {x0 : Int32} {x1 : Nat}  (h1 : x1 < t) (h2 : m_ob x1 1 = true) : WP V 22 29 ls [.int x0, .ref x1] t I L R Q = WPC V 8 [.ref x1, .int x0] 22 30 ls [] t I L R Q := wp_cls (wp_icv rfl rfl h1 h2) (by decide) (Nat.le_of_ble_eq_true rfl) rfl rfl (Nat.le_of_ble_eq_true rfl) (Nat.le_of_ble_eq_true rfl)
theorem i22_30 {x : Int32} : WP V 22 30 ls (.int x :: st) t I L R Q = if x = nI 0 then WP V 22 31 ls st t I L R Q else WP V 22 46 ls st t I L R Q := wp_brn (c := m_cc .ne x 0) rfl rfl
theorem i22_31 {w0 w1 : Value} {x : Int32} : WP V 22 31 [w0, w1, .int x] st t I L R Q = WP V 22 32 [w0, w1, .int x] (.int x :: st) t I L R Q := wp_go rfl
theorem i22_32  : WP V 22 32 ls st t I L R Q = WP V 22 33 ls (.int (nI 3) :: st) t I L R Q := wp_go rfl
theorem i22_33 {x y : Int32} : WP V 22 33 ls (.int y :: .int x :: st) t I L R Q = if x = y then WP V 22 46 ls st t I L R Q else WP V 22 34 ls st t I L R Q := wp_br (c := m_cc .eq x y) rfl rfl
theorem i22_34 {w1 w2 : Value} {x : Nat} : WP V 22 34 [.ref x, w1, w2] st t I L R Q = WP V 22 35 [.ref x, w1, w2] (.ref x :: st) t I L R Q := wp_go rfl
theorem i22_35 {w0 w2 : Value} {x : Int32} : WP V 22 35 [w0, .int x, w2] st t I L R Q = WP V 22 36 [w0, .int x, w2] (.int x :: st) t I L R Q := wp_go rfl
theorem i22_36 {x0 : Int32} {x1 : Nat}  (h1 : x1 < t) (h2 : m_ob x1 1 = true) : WP V 22 36 ls [.int x0, .ref x1] t I L R Q = WPC V 23 [.ref x1, .int x0] 22 37 ls [] t I L R Q := wp_cls (wp_icv rfl rfl h1 h2) (by decide) (Nat.le_of_ble_eq_true rfl) rfl rfl (Nat.le_of_ble_eq_true rfl) (Nat.le_of_ble_eq_true rfl)
theorem i22_37 {x : Int32} : WP V 22 37 ls (.int x :: st) t I L R Q = if x = nI 0 then WP V 22 40 ls st t I L R Q else WP V 22 38 ls st t I L R Q := wp_br (c := m_cc .eq x 0) rfl rfl
theorem i22_38  : WP V 22 38 ls st t I L R Q = WP V 22 39 ls (.int (nI 0) :: st) t I L R Q := wp_go rfl
theorem i22_39 {x : Int32} : WP V 22 39 ls [.int x] t I L R Q = Q (some (.int x)) t I L R := wp_rti rfl rfl
theorem i22_40 {w1 w2 : Value} {x : Nat} : WP V 22 40 [.ref x, w1, w2] st t I L R Q = WP V 22 41 [.ref x, w1, w2] (.ref x :: st) t I L R Q := wp_go rfl
theorem i22_41 {w0 w2 : Value} {x : Int32} : WP V 22 41 [w0, .int x, w2] st t I L R Q = WP V 22 42 [w0, .int x, w2] (.int x :: st) t I L R Q := wp_go rfl
theorem i22_42 {x0 : Int32} {x1 : Nat}  (h1 : x1 < t) (h2 : m_ob x1 1 = true) : WP V 22 42 ls [.int x0, .ref x1] t I L R Q = WPC V 24 [.ref x1, .int x0] 22 43 ls [] t I L R Q := wp_cls (wp_icv rfl rfl h1 h2) (by decide) (Nat.le_of_ble_eq_true rfl) rfl rfl (Nat.le_of_ble_eq_true rfl) (Nat.le_of_ble_eq_true rfl)
theorem i22_43 {x : Int32} : WP V 22 43 ls (.int x :: st) t I L R Q = if x = nI 0 then WP V 22 46 ls st t I L R Q else WP V 22 44 ls st t I L R Q := wp_br (c := m_cc .eq x 0) rfl rfl
theorem i22_44  : WP V 22 44 ls st t I L R Q = WP V 22 45 ls (.int (nI 2) :: st) t I L R Q := wp_go rfl
theorem i22_45 {x : Int32} : WP V 22 45 ls [.int x] t I L R Q = Q (some (.int x)) t I L R := wp_rti rfl rfl
theorem i22_46 {w1 w2 : Value} {x : Nat} : WP V 22 46 [.ref x, w1, w2] st t I L R Q = WP V 22 47 [.ref x, w1, w2] (.ref x :: st) t I L R Q := wp_go rfl
theorem i22_47 {w0 w2 : Value} {x : Int32} : WP V 22 47 [w0, .int x, w2] st t I L R Q = WP V 22 48 [w0, .int x, w2] (.int x :: st) t I L R Q := wp_go rfl
theorem i22_48 {x0 : Int32} {x1 : Nat}  (h1 : x1 < t) (h2 : m_ob x1 1 = true) : WP V 22 48 ls [.int x0, .ref x1] t I L R Q = WPC V 25 [.ref x1, .int x0] 22 49 ls [] t I L R Q := wp_cls (wp_icv rfl rfl h1 h2) (by decide) (Nat.le_of_ble_eq_true rfl) rfl rfl (Nat.le_of_ble_eq_true rfl) (Nat.le_of_ble_eq_true rfl)
theorem i22_49 {w1 w2 : Value} {x : Nat} : WP V 22 49 [.ref x, w1, w2] st t I L R Q = WP V 22 50 [.ref x, w1, w2] (.ref x :: st) t I L R Q := wp_go rfl
theorem i22_50 {w0 w2 : Value} {x : Int32} : WP V 22 50 [w0, .int x, w2] st t I L R Q = WP V 22 51 [w0, .int x, w2] (.int x :: st) t I L R Q := wp_go rfl
theorem i22_51 {x0 : Int32} {x1 : Nat}  (h1 : x1 < t) (h2 : m_ob x1 1 = true) : WP V 22 51 ls [.int x0, .ref x1] t I L R Q = WPC V 27 [.ref x1, .int x0] 22 52 ls [] t I L R Q := wp_cls (wp_icv rfl rfl h1 h2) (by decide) (Nat.le_of_ble_eq_true rfl) rfl rfl (Nat.le_of_ble_eq_true rfl) (Nat.le_of_ble_eq_true rfl)
theorem i22_52  : WP V 22 52 ls st t I L R Q = WP V 22 53 ls (.int (nI 6) :: st) t I L R Q := wp_go rfl
theorem i22_53 {x : Int32} : WP V 22 53 ls [.int x] t I L R Q = Q (some (.int x)) t I L R := wp_rti rfl rfl
-- TransactionCells$Dealings.meetsHeld(I)Z
theorem i23_0  : WP V 23 0 ls st t I L R Q = WP V 23 1 ls (.int (nI 47) :: st) t I L R Q := wp_go rfl
theorem i23_1 {w0 w2 w3 w4 : Value} {x : Int32} : WP V 23 1 [w0, .int x, w2, w3, w4] st t I L R Q = WP V 23 2 [w0, .int x, w2, w3, w4] (.int x :: st) t I L R Q := wp_go rfl
theorem i23_2 {x y : Int32} : WP V 23 2 ls (.int y :: .int x :: st) t I L R Q = WP V 23 3 ls (.int (x * y) :: st) t I L R Q := wp_go rfl
theorem i23_3 {p : Int32} {w0 w2 w3 w4 : Value} {x : Int32} : WP V 23 3 [w0, .int p, w2, w3, w4] (.int x :: st) t I L R Q = WP V 23 4 [w0, .int p, .int x, w3, w4] st t I L R Q := wp_go rfl
theorem i23_4  : WP V 23 4 ls st t I L R Q = WP V 23 5 ls (.int (nI 0) :: st) t I L R Q := wp_go rfl
theorem i23_5 {p : Int32} {w0 w1 w3 w4 : Value} {x : Int32} : WP V 23 5 [w0, w1, .int p, w3, w4] (.int x :: st) t I L R Q = WP V 23 6 [w0, w1, .int p, .int x, w4] st t I L R Q := wp_go rfl
theorem i23_6 {w0 w1 w2 w4 : Value} {x : Int32} : WP V 23 6 [w0, w1, w2, .int x, w4] st t I L R Q = WP V 23 7 [w0, w1, w2, .int x, w4] (.int x :: st) t I L R Q := wp_go rfl
theorem i23_7  : WP V 23 7 ls st t I L R Q = WP V 23 8 ls (.int (nI 8) :: st) t I L R Q := wp_go rfl
theorem i23_8 {x y : Int32} : WP V 23 8 ls (.int y :: .int x :: st) t I L R Q = if y ≤ x then WP V 23 48 ls st t I L R Q else WP V 23 9 ls st t I L R Q := wp_br (c := m_cc .ge x y) rfl rfl
theorem i23_9 {w1 w2 w3 w4 : Value} {x : Nat} : WP V 23 9 [.ref x, w1, w2, w3, w4] st t I L R Q = WP V 23 10 [.ref x, w1, w2, w3, w4] (.ref x :: st) t I L R Q := wp_go rfl
theorem i23_10 {k : Nat} (h1 : k < t) (h2 : m_ob k 1 = true) : WP V 23 10 ls (.ref k :: st) t I L R Q = WP V 23 11 ls (m_rv (R k 1) :: st) t I L R Q := wp_getR rfl (by decide) h1 h2
theorem i23_11  : WP V 23 11 ls st t I L R Q = WP V 23 12 ls (.int (nI 152) :: st) t I L R Q := wp_go rfl
theorem i23_12 {w0 w1 w3 w4 : Value} {x : Int32} : WP V 23 12 [w0, w1, .int x, w3, w4] st t I L R Q = WP V 23 13 [w0, w1, .int x, w3, w4] (.int x :: st) t I L R Q := wp_go rfl
theorem i23_13 {x y : Int32} : WP V 23 13 ls (.int y :: .int x :: st) t I L R Q = WP V 23 14 ls (.int (x + y) :: st) t I L R Q := wp_go rfl
theorem i23_14 {w0 w1 w2 w4 : Value} {x : Int32} : WP V 23 14 [w0, w1, w2, .int x, w4] st t I L R Q = WP V 23 15 [w0, w1, w2, .int x, w4] (.int x :: st) t I L R Q := wp_go rfl
theorem i23_15 {x y : Int32} : WP V 23 15 ls (.int y :: .int x :: st) t I L R Q = WP V 23 16 ls (.int (x + y) :: st) t I L R Q := wp_go rfl
theorem i23_16 {k j : Nat} (h2 : m_ar k 2 581 = true) (h1 : k < t) (h3 : j < 581) : WP V 23 16 ls (.int (nI j) :: .ref k :: st) t I L R Q = WP V 23 17 ls (.int (I k j) :: st) t I L R Q := wp_iaload rfl (by decide) h1 h2 h3
theorem i23_17  : WP V 23 17 ls st t I L R Q = WP V 23 18 ls (.int (-1) :: st) t I L R Q := wp_go rfl
theorem i23_18 {x y : Int32} : WP V 23 18 ls (.int y :: .int x :: st) t I L R Q = if x = y then WP V 23 19 ls st t I L R Q else WP V 23 29 ls st t I L R Q := wp_brn (c := m_cc .ne x y) rfl rfl
theorem i23_19 {w1 w2 w3 w4 : Value} {x : Nat} : WP V 23 19 [.ref x, w1, w2, w3, w4] st t I L R Q = WP V 23 20 [.ref x, w1, w2, w3, w4] (.ref x :: st) t I L R Q := wp_go rfl
theorem i23_20 {k : Nat} (h1 : k < t) (h2 : m_ob k 1 = true) : WP V 23 20 ls (.ref k :: st) t I L R Q = WP V 23 21 ls (m_rv (R k 1) :: st) t I L R Q := wp_getR rfl (by decide) h1 h2
theorem i23_21  : WP V 23 21 ls st t I L R Q = WP V 23 22 ls (.int (nI 176) :: st) t I L R Q := wp_go rfl
theorem i23_22 {w0 w1 w3 w4 : Value} {x : Int32} : WP V 23 22 [w0, w1, .int x, w3, w4] st t I L R Q = WP V 23 23 [w0, w1, .int x, w3, w4] (.int x :: st) t I L R Q := wp_go rfl
theorem i23_23 {x y : Int32} : WP V 23 23 ls (.int y :: .int x :: st) t I L R Q = WP V 23 24 ls (.int (x + y) :: st) t I L R Q := wp_go rfl
theorem i23_24 {w0 w1 w2 w4 : Value} {x : Int32} : WP V 23 24 [w0, w1, w2, .int x, w4] st t I L R Q = WP V 23 25 [w0, w1, w2, .int x, w4] (.int x :: st) t I L R Q := wp_go rfl
theorem i23_25 {x y : Int32} : WP V 23 25 ls (.int y :: .int x :: st) t I L R Q = WP V 23 26 ls (.int (x + y) :: st) t I L R Q := wp_go rfl
theorem i23_26 {k j : Nat} (h2 : m_ar k 2 581 = true) (h1 : k < t) (h3 : j < 581) : WP V 23 26 ls (.int (nI j) :: .ref k :: st) t I L R Q = WP V 23 27 ls (.int (I k j) :: st) t I L R Q := wp_iaload rfl (by decide) h1 h2 h3
theorem i23_27  : WP V 23 27 ls st t I L R Q = WP V 23 28 ls (.int (-1) :: st) t I L R Q := wp_go rfl
theorem i23_28 {x y : Int32} : WP V 23 28 ls (.int y :: .int x :: st) t I L R Q = if x = y then WP V 23 31 ls st t I L R Q else WP V 23 29 ls st t I L R Q := wp_br (c := m_cc .eq x y) rfl rfl
theorem i23_29  : WP V 23 29 ls st t I L R Q = WP V 23 30 ls (.int (nI 1) :: st) t I L R Q := wp_go rfl
theorem i23_30  : WP V 23 30 ls st t I L R Q = WP V 23 32 ls st t I L R Q := wp_go rfl
theorem i23_31  : WP V 23 31 ls st t I L R Q = WP V 23 32 ls (.int (nI 0) :: st) t I L R Q := wp_go rfl
theorem i23_32 {p : Int32} {w0 w1 w2 w4 : Value} {x : Int32} : WP V 23 32 [w0, w1, w2, .int p, w4] (.int x :: st) t I L R Q = WP V 23 33 [w0, w1, w2, .int p, .int x] st t I L R Q := wp_go rfl
theorem i23_33 {w0 w1 w2 w3 : Value} {x : Int32} : WP V 23 33 [w0, w1, w2, w3, .int x] st t I L R Q = WP V 23 34 [w0, w1, w2, w3, .int x] (.int x :: st) t I L R Q := wp_go rfl
theorem i23_34 {x : Int32} : WP V 23 34 ls (.int x :: st) t I L R Q = if x = nI 0 then WP V 23 46 ls st t I L R Q else WP V 23 35 ls st t I L R Q := wp_br (c := m_cc .eq x 0) rfl rfl
theorem i23_35 {w1 w2 w3 w4 : Value} {x : Nat} : WP V 23 35 [.ref x, w1, w2, w3, w4] st t I L R Q = WP V 23 36 [.ref x, w1, w2, w3, w4] (.ref x :: st) t I L R Q := wp_go rfl
theorem i23_36 {k : Nat} (h1 : k < t) (h2 : m_ob k 1 = true) : WP V 23 36 ls (.ref k :: st) t I L R Q = WP V 23 37 ls (m_rv (R k 1) :: st) t I L R Q := wp_getR rfl (by decide) h1 h2
theorem i23_37  : WP V 23 37 ls st t I L R Q = WP V 23 38 ls (.int (nI 41) :: st) t I L R Q := wp_go rfl
theorem i23_38 {w0 w1 w2 w4 : Value} {x : Int32} : WP V 23 38 [w0, w1, w2, .int x, w4] st t I L R Q = WP V 23 39 [w0, w1, w2, .int x, w4] (.int x :: st) t I L R Q := wp_go rfl
theorem i23_39 {x y : Int32} : WP V 23 39 ls (.int y :: .int x :: st) t I L R Q = WP V 23 40 ls (.int (x + y) :: st) t I L R Q := wp_go rfl
theorem i23_40 {k j : Nat} (h2 : m_ar k 2 581 = true) (h1 : k < t) (h3 : j < 581) : WP V 23 40 ls (.int (nI j) :: .ref k :: st) t I L R Q = WP V 23 41 ls (.int (I k j) :: st) t I L R Q := wp_iaload rfl (by decide) h1 h2 h3
theorem i23_41 {w0 w2 w3 w4 : Value} {x : Int32} : WP V 23 41 [w0, .int x, w2, w3, w4] st t I L R Q = WP V 23 42 [w0, .int x, w2, w3, w4] (.int x :: st) t I L R Q := wp_go rfl
theorem i23_42 {x0 : Int32} {x1 : Int32}  : WP V 23 42 ls [.int x0, .int x1] t I L R Q = WPC V 9 [.int x1, .int x0] 23 43 ls [] t I L R Q := wp_cls (wp_ics rfl (by decide)) (by decide) (Nat.le_of_ble_eq_true rfl) rfl rfl (Nat.le_of_ble_eq_true rfl) (Nat.le_of_ble_eq_true rfl)
theorem i23_43 {x : Int32} : WP V 23 43 ls (.int x :: st) t I L R Q = if x = nI 0 then WP V 23 46 ls st t I L R Q else WP V 23 44 ls st t I L R Q := wp_br (c := m_cc .eq x 0) rfl rfl
theorem i23_44  : WP V 23 44 ls st t I L R Q = WP V 23 45 ls (.int (nI 1) :: st) t I L R Q := wp_go rfl
theorem i23_45 {x : Int32} (h : m_01 x = true) : WP V 23 45 ls [.int x] t I L R Q = Q (some (.int x)) t I L R := wp_rtz rfl rfl h
theorem i23_46 {p : Int32} {w0 w1 w4 : Value} {x : Int32} : WP V 23 46 [w0, w1, .int p, .int x, w4] st t I L R Q = WP V 23 47 [w0, w1, .int p, .int (x + (nI 1)), w4] st t I L R Q := wp_go rfl
theorem i23_47  : WP V 23 47 ls st t I L R Q = WP V 23 6 ls st t I L R Q := wp_go rfl
theorem i23_48  : WP V 23 48 ls st t I L R Q = WP V 23 49 ls (.int (nI 0) :: st) t I L R Q := wp_go rfl
theorem i23_49 {x : Int32} (h : m_01 x = true) : WP V 23 49 ls [.int x] t I L R Q = Q (some (.int x)) t I L R := wp_rtz rfl rfl h
-- TransactionCells$Dealings.isStale(I)Z
theorem i24_0  : WP V 24 0 ls st t I L R Q = WP V 24 1 ls (.int (nI 152) :: st) t I L R Q := wp_go rfl
theorem i24_1  : WP V 24 1 ls st t I L R Q = WP V 24 2 ls (.int (nI 47) :: st) t I L R Q := wp_go rfl
theorem i24_2 {w0 w2 w3 : Value} {x : Int32} : WP V 24 2 [w0, .int x, w2, w3] st t I L R Q = WP V 24 3 [w0, .int x, w2, w3] (.int x :: st) t I L R Q := wp_go rfl
theorem i24_3 {x y : Int32} : WP V 24 3 ls (.int y :: .int x :: st) t I L R Q = WP V 24 4 ls (.int (x * y) :: st) t I L R Q := wp_go rfl
theorem i24_4 {x y : Int32} : WP V 24 4 ls (.int y :: .int x :: st) t I L R Q = WP V 24 5 ls (.int (x + y) :: st) t I L R Q := wp_go rfl
theorem i24_5 {p : Int32} {w0 w2 w3 : Value} {x : Int32} : WP V 24 5 [w0, .int p, w2, w3] (.int x :: st) t I L R Q = WP V 24 6 [w0, .int p, .int x, w3] st t I L R Q := wp_go rfl
theorem i24_6  : WP V 24 6 ls st t I L R Q = WP V 24 7 ls (.int (nI 0) :: st) t I L R Q := wp_go rfl
theorem i24_7 {p : Int32} {w0 w1 w3 : Value} {x : Int32} : WP V 24 7 [w0, w1, .int p, w3] (.int x :: st) t I L R Q = WP V 24 8 [w0, w1, .int p, .int x] st t I L R Q := wp_go rfl
theorem i24_8 {w0 w1 w2 : Value} {x : Int32} : WP V 24 8 [w0, w1, w2, .int x] st t I L R Q = WP V 24 9 [w0, w1, w2, .int x] (.int x :: st) t I L R Q := wp_go rfl
theorem i24_9  : WP V 24 9 ls st t I L R Q = WP V 24 10 ls (.int (nI 8) :: st) t I L R Q := wp_go rfl
theorem i24_10 {x y : Int32} : WP V 24 10 ls (.int y :: .int x :: st) t I L R Q = if y ≤ x then WP V 24 36 ls st t I L R Q else WP V 24 11 ls st t I L R Q := wp_br (c := m_cc .ge x y) rfl rfl
theorem i24_11 {w1 w2 w3 : Value} {x : Nat} : WP V 24 11 [.ref x, w1, w2, w3] st t I L R Q = WP V 24 12 [.ref x, w1, w2, w3] (.ref x :: st) t I L R Q := wp_go rfl
theorem i24_12 {k : Nat} (h1 : k < t) (h2 : m_ob k 1 = true) : WP V 24 12 ls (.ref k :: st) t I L R Q = WP V 24 13 ls (m_rv (R k 1) :: st) t I L R Q := wp_getR rfl (by decide) h1 h2
theorem i24_13 {w0 w1 w3 : Value} {x : Int32} : WP V 24 13 [w0, w1, .int x, w3] st t I L R Q = WP V 24 14 [w0, w1, .int x, w3] (.int x :: st) t I L R Q := wp_go rfl
theorem i24_14 {w0 w1 w2 : Value} {x : Int32} : WP V 24 14 [w0, w1, w2, .int x] st t I L R Q = WP V 24 15 [w0, w1, w2, .int x] (.int x :: st) t I L R Q := wp_go rfl
theorem i24_15 {x y : Int32} : WP V 24 15 ls (.int y :: .int x :: st) t I L R Q = WP V 24 16 ls (.int (x + y) :: st) t I L R Q := wp_go rfl
theorem i24_16 {k j : Nat} (h2 : m_ar k 2 581 = true) (h1 : k < t) (h3 : j < 581) : WP V 24 16 ls (.int (nI j) :: .ref k :: st) t I L R Q = WP V 24 17 ls (.int (I k j) :: st) t I L R Q := wp_iaload rfl (by decide) h1 h2 h3
theorem i24_17  : WP V 24 17 ls st t I L R Q = WP V 24 18 ls (.int (-1) :: st) t I L R Q := wp_go rfl
theorem i24_18 {x y : Int32} : WP V 24 18 ls (.int y :: .int x :: st) t I L R Q = if x = y then WP V 24 34 ls st t I L R Q else WP V 24 19 ls st t I L R Q := wp_br (c := m_cc .eq x y) rfl rfl
theorem i24_19 {w1 w2 w3 : Value} {x : Nat} : WP V 24 19 [.ref x, w1, w2, w3] st t I L R Q = WP V 24 20 [.ref x, w1, w2, w3] (.ref x :: st) t I L R Q := wp_go rfl
theorem i24_20 {k : Nat} (h1 : k < t) (h2 : m_ob k 1 = true) : WP V 24 20 ls (.ref k :: st) t I L R Q = WP V 24 21 ls (m_rv (R k 1) :: st) t I L R Q := wp_getR rfl (by decide) h1 h2
theorem i24_21 {w0 w1 w3 : Value} {x : Int32} : WP V 24 21 [w0, w1, .int x, w3] st t I L R Q = WP V 24 22 [w0, w1, .int x, w3] (.int x :: st) t I L R Q := wp_go rfl
theorem i24_22 {w0 w1 w2 : Value} {x : Int32} : WP V 24 22 [w0, w1, w2, .int x] st t I L R Q = WP V 24 23 [w0, w1, w2, .int x] (.int x :: st) t I L R Q := wp_go rfl
theorem i24_23 {x y : Int32} : WP V 24 23 ls (.int y :: .int x :: st) t I L R Q = WP V 24 24 ls (.int (x + y) :: st) t I L R Q := wp_go rfl
theorem i24_24 {k j : Nat} (h2 : m_ar k 2 581 = true) (h1 : k < t) (h3 : j < 581) : WP V 24 24 ls (.int (nI j) :: .ref k :: st) t I L R Q = WP V 24 25 ls (.int (I k j) :: st) t I L R Q := wp_iaload rfl (by decide) h1 h2 h3
theorem i24_25 {w1 w2 w3 : Value} {x : Nat} : WP V 24 25 [.ref x, w1, w2, w3] st t I L R Q = WP V 24 26 [.ref x, w1, w2, w3] (.ref x :: st) t I L R Q := wp_go rfl
theorem i24_26 {k : Nat} (h1 : k < t) (h2 : m_ob k 1 = true) : WP V 24 26 ls (.ref k :: st) t I L R Q = WP V 24 27 ls (m_rv (R k 1) :: st) t I L R Q := wp_getR rfl (by decide) h1 h2
theorem i24_27  : WP V 24 27 ls st t I L R Q = WP V 24 28 ls (.int (nI 65) :: st) t I L R Q := wp_go rfl
theorem i24_28 {w0 w1 w2 : Value} {x : Int32} : WP V 24 28 [w0, w1, w2, .int x] st t I L R Q = WP V 24 29 [w0, w1, w2, .int x] (.int x :: st) t I L R Q := wp_go rfl
theorem i24_29 {x y : Int32} : WP V 24 29 ls (.int y :: .int x :: st) t I L R Q = WP V 24 30 ls (.int (x + y) :: st) t I L R Q := wp_go rfl
theorem i24_30 {k j : Nat} (h2 : m_ar k 2 581 = true) (h1 : k < t) (h3 : j < 581) : WP V 24 30 ls (.int (nI j) :: .ref k :: st) t I L R Q = WP V 24 31 ls (.int (I k j) :: st) t I L R Q := wp_iaload rfl (by decide) h1 h2 h3
theorem i24_31 {x y : Int32} : WP V 24 31 ls (.int y :: .int x :: st) t I L R Q = if x = y then WP V 24 34 ls st t I L R Q else WP V 24 32 ls st t I L R Q := wp_br (c := m_cc .eq x y) rfl rfl
theorem i24_32  : WP V 24 32 ls st t I L R Q = WP V 24 33 ls (.int (nI 1) :: st) t I L R Q := wp_go rfl
theorem i24_33 {x : Int32} (h : m_01 x = true) : WP V 24 33 ls [.int x] t I L R Q = Q (some (.int x)) t I L R := wp_rtz rfl rfl h
theorem i24_34 {p : Int32} {w0 w1 : Value} {x : Int32} : WP V 24 34 [w0, w1, .int p, .int x] st t I L R Q = WP V 24 35 [w0, w1, .int p, .int (x + (nI 1))] st t I L R Q := wp_go rfl
theorem i24_35  : WP V 24 35 ls st t I L R Q = WP V 24 8 ls st t I L R Q := wp_go rfl
theorem i24_36  : WP V 24 36 ls st t I L R Q = WP V 24 37 ls (.int (nI 0) :: st) t I L R Q := wp_go rfl
theorem i24_37 {x : Int32} (h : m_01 x = true) : WP V 24 37 ls [.int x] t I L R Q = Q (some (.int x)) t I L R := wp_rtz rfl rfl h
-- TransactionCells$Dealings.makeCount(I)V
theorem i25_0  : WP V 25 0 ls st t I L R Q = WP V 25 1 ls (.int (nI 176) :: st) t I L R Q := wp_go rfl
theorem i25_1  : WP V 25 1 ls st t I L R Q = WP V 25 2 ls (.int (nI 47) :: st) t I L R Q := wp_go rfl
theorem i25_2 {w0 w2 w3 w4 : Value} {x : Int32} : WP V 25 2 [w0, .int x, w2, w3, w4] st t I L R Q = WP V 25 3 [w0, .int x, w2, w3, w4] (.int x :: st) t I L R Q := wp_go rfl
theorem i25_3 {x y : Int32} : WP V 25 3 ls (.int y :: .int x :: st) t I L R Q = WP V 25 4 ls (.int (x * y) :: st) t I L R Q := wp_go rfl
theorem i25_4 {x y : Int32} : WP V 25 4 ls (.int y :: .int x :: st) t I L R Q = WP V 25 5 ls (.int (x + y) :: st) t I L R Q := wp_go rfl
theorem i25_5 {p : Int32} {w0 w2 w3 w4 : Value} {x : Int32} : WP V 25 5 [w0, .int p, w2, w3, w4] (.int x :: st) t I L R Q = WP V 25 6 [w0, .int p, .int x, w3, w4] st t I L R Q := wp_go rfl
theorem i25_6  : WP V 25 6 ls st t I L R Q = WP V 25 7 ls (.int (nI 0) :: st) t I L R Q := wp_go rfl
theorem i25_7 {p : Int32} {w0 w1 w3 w4 : Value} {x : Int32} : WP V 25 7 [w0, w1, .int p, w3, w4] (.int x :: st) t I L R Q = WP V 25 8 [w0, w1, .int p, .int x, w4] st t I L R Q := wp_go rfl
theorem i25_8  : WP V 25 8 ls st t I L R Q = WP V 25 9 ls (.int (nI 0) :: st) t I L R Q := wp_go rfl
theorem i25_9 {p : Int32} {w0 w1 w2 w4 : Value} {x : Int32} : WP V 25 9 [w0, w1, w2, .int p, w4] (.int x :: st) t I L R Q = WP V 25 10 [w0, w1, w2, .int p, .int x] st t I L R Q := wp_go rfl
theorem i25_10 {w0 w1 w2 w3 : Value} {x : Int32} : WP V 25 10 [w0, w1, w2, w3, .int x] st t I L R Q = WP V 25 11 [w0, w1, w2, w3, .int x] (.int x :: st) t I L R Q := wp_go rfl
theorem i25_11  : WP V 25 11 ls st t I L R Q = WP V 25 12 ls (.int (nI 8) :: st) t I L R Q := wp_go rfl
theorem i25_12 {x y : Int32} : WP V 25 12 ls (.int y :: .int x :: st) t I L R Q = if y ≤ x then WP V 25 54 ls st t I L R Q else WP V 25 13 ls st t I L R Q := wp_br (c := m_cc .ge x y) rfl rfl
theorem i25_13 {w1 w2 w3 w4 : Value} {x : Nat} : WP V 25 13 [.ref x, w1, w2, w3, w4] st t I L R Q = WP V 25 14 [.ref x, w1, w2, w3, w4] (.ref x :: st) t I L R Q := wp_go rfl
theorem i25_14 {k : Nat} (h1 : k < t) (h2 : m_ob k 1 = true) : WP V 25 14 ls (.ref k :: st) t I L R Q = WP V 25 15 ls (m_rv (R k 1) :: st) t I L R Q := wp_getR rfl (by decide) h1 h2
theorem i25_15 {w0 w1 w3 w4 : Value} {x : Int32} : WP V 25 15 [w0, w1, .int x, w3, w4] st t I L R Q = WP V 25 16 [w0, w1, .int x, w3, w4] (.int x :: st) t I L R Q := wp_go rfl
theorem i25_16 {w0 w1 w2 w3 : Value} {x : Int32} : WP V 25 16 [w0, w1, w2, w3, .int x] st t I L R Q = WP V 25 17 [w0, w1, w2, w3, .int x] (.int x :: st) t I L R Q := wp_go rfl
theorem i25_17 {x y : Int32} : WP V 25 17 ls (.int y :: .int x :: st) t I L R Q = WP V 25 18 ls (.int (x + y) :: st) t I L R Q := wp_go rfl
theorem i25_18 {k j : Nat} (h2 : m_ar k 2 581 = true) (h1 : k < t) (h3 : j < 581) : WP V 25 18 ls (.int (nI j) :: .ref k :: st) t I L R Q = WP V 25 19 ls (.int (I k j) :: st) t I L R Q := wp_iaload rfl (by decide) h1 h2 h3
theorem i25_19  : WP V 25 19 ls st t I L R Q = WP V 25 20 ls (.int (-1) :: st) t I L R Q := wp_go rfl
theorem i25_20 {x y : Int32} : WP V 25 20 ls (.int y :: .int x :: st) t I L R Q = if x = y then WP V 25 21 ls st t I L R Q else WP V 25 22 ls st t I L R Q := wp_brn (c := m_cc .ne x y) rfl rfl
theorem i25_21  : WP V 25 21 ls st t I L R Q = WP V 25 52 ls st t I L R Q := wp_go rfl
theorem i25_22 {w0 w1 w2 w4 : Value} {x : Int32} : WP V 25 22 [w0, w1, w2, .int x, w4] st t I L R Q = WP V 25 23 [w0, w1, w2, .int x, w4] (.int x :: st) t I L R Q := wp_go rfl
theorem i25_23 {x : Int32} : WP V 25 23 ls (.int x :: st) t I L R Q = if x = nI 0 then WP V 25 24 ls st t I L R Q else WP V 25 34 ls st t I L R Q := wp_brn (c := m_cc .ne x 0) rfl rfl
theorem i25_24 {w1 w2 w3 w4 : Value} {x : Nat} : WP V 25 24 [.ref x, w1, w2, w3, w4] st t I L R Q = WP V 25 25 [.ref x, w1, w2, w3, w4] (.ref x :: st) t I L R Q := wp_go rfl
theorem i25_25 {k : Nat} (h1 : k < t) (h2 : m_ob k 1 = true) : WP V 25 25 ls (.ref k :: st) t I L R Q = WP V 25 26 ls (m_rv (R k 1) :: st) t I L R Q := wp_getR rfl (by decide) h1 h2
theorem i25_26  : WP V 25 26 ls st t I L R Q = WP V 25 27 ls (.int (nI 0) :: st) t I L R Q := wp_go rfl
theorem i25_27 {v0 : Int32} {v1 : Nat} : WP V 25 27 ls (.int v0 :: .ref v1 :: st) t I L R Q = WP V 25 28 ls (.int v0 :: .ref v1 :: .int v0 :: .ref v1 :: st) t I L R Q := wp_go rfl
theorem i25_28 {k j : Nat} (h2 : m_ar k 2 581 = true) (h1 : k < t) (h3 : j < 581) : WP V 25 28 ls (.int (nI j) :: .ref k :: st) t I L R Q = WP V 25 29 ls (.int (I k j) :: st) t I L R Q := wp_iaload rfl (by decide) h1 h2 h3
theorem i25_29  : WP V 25 29 ls st t I L R Q = WP V 25 30 ls (.int (nI 1) :: st) t I L R Q := wp_go rfl
theorem i25_30 {x y : Int32} : WP V 25 30 ls (.int y :: .int x :: st) t I L R Q = WP V 25 31 ls (.int (x + y) :: st) t I L R Q := wp_go rfl
theorem i25_31 {v0 : Int32} {v1 : Int32} {v2 : Nat} : WP V 25 31 ls (.int v0 :: .int v1 :: .ref v2 :: st) t I L R Q = WP V 25 32 ls (.int v0 :: .int v1 :: .ref v2 :: .int v0 :: st) t I L R Q := wp_go rfl
theorem i25_32 {k j : Nat} {x : Int32} (h2 : m_ar k 2 581 = true) (h1 : k < t) (h3 : j < 581) : WP V 25 32 ls (.int x :: .int (nI j) :: .ref k :: st) t I L R Q = WP V 25 33 ls st t (m_sc I k (m_sc (I k) j x)) L R Q := wp_iastore rfl (by decide) h1 h2 h3
theorem i25_33 {p : Int32} {w0 w1 w3 w4 : Value} {x : Int32} : WP V 25 33 [w0, w1, .int p, w3, w4] (.int x :: st) t I L R Q = WP V 25 34 [w0, w1, .int p, .int x, w4] st t I L R Q := wp_go rfl
theorem i25_34 {w1 w2 w3 w4 : Value} {x : Nat} : WP V 25 34 [.ref x, w1, w2, w3, w4] st t I L R Q = WP V 25 35 [.ref x, w1, w2, w3, w4] (.ref x :: st) t I L R Q := wp_go rfl
theorem i25_35 {k : Nat} (h1 : k < t) (h2 : m_ob k 1 = true) : WP V 25 35 ls (.ref k :: st) t I L R Q = WP V 25 36 ls (m_rv (R k 0) :: st) t I L R Q := wp_getR rfl (by decide) h1 h2
theorem i25_36 {w0 w1 w2 w3 : Value} {x : Int32} : WP V 25 36 [w0, w1, w2, w3, .int x] st t I L R Q = WP V 25 37 [w0, w1, w2, w3, .int x] (.int x :: st) t I L R Q := wp_go rfl
theorem i25_37 {w1 w2 w3 w4 : Value} {x : Nat} : WP V 25 37 [.ref x, w1, w2, w3, w4] st t I L R Q = WP V 25 38 [.ref x, w1, w2, w3, w4] (.ref x :: st) t I L R Q := wp_go rfl
theorem i25_38 {k : Nat} (h1 : k < t) (h2 : m_ob k 1 = true) : WP V 25 38 ls (.ref k :: st) t I L R Q = WP V 25 39 ls (m_rv (R k 1) :: st) t I L R Q := wp_getR rfl (by decide) h1 h2
theorem i25_39 {w0 w1 w3 w4 : Value} {x : Int32} : WP V 25 39 [w0, w1, .int x, w3, w4] st t I L R Q = WP V 25 40 [w0, w1, .int x, w3, w4] (.int x :: st) t I L R Q := wp_go rfl
theorem i25_40 {w0 w1 w2 w3 : Value} {x : Int32} : WP V 25 40 [w0, w1, w2, w3, .int x] st t I L R Q = WP V 25 41 [w0, w1, w2, w3, .int x] (.int x :: st) t I L R Q := wp_go rfl
theorem i25_41 {x y : Int32} : WP V 25 41 ls (.int y :: .int x :: st) t I L R Q = WP V 25 42 ls (.int (x + y) :: st) t I L R Q := wp_go rfl
theorem i25_42 {k j : Nat} (h2 : m_ar k 2 581 = true) (h1 : k < t) (h3 : j < 581) : WP V 25 42 ls (.int (nI j) :: .ref k :: st) t I L R Q = WP V 25 43 ls (.int (I k j) :: st) t I L R Q := wp_iaload rfl (by decide) h1 h2 h3
theorem i25_43 {w1 w2 w3 w4 : Value} {x : Nat} : WP V 25 43 [.ref x, w1, w2, w3, w4] st t I L R Q = WP V 25 44 [.ref x, w1, w2, w3, w4] (.ref x :: st) t I L R Q := wp_go rfl
theorem i25_44 {k : Nat} (h1 : k < t) (h2 : m_ob k 1 = true) : WP V 25 44 ls (.ref k :: st) t I L R Q = WP V 25 45 ls (m_rv (R k 1) :: st) t I L R Q := wp_getR rfl (by decide) h1 h2
theorem i25_45 {w0 w1 w3 w4 : Value} {x : Int32} : WP V 25 45 [w0, w1, .int x, w3, w4] st t I L R Q = WP V 25 46 [w0, w1, .int x, w3, w4] (.int x :: st) t I L R Q := wp_go rfl
theorem i25_46  : WP V 25 46 ls st t I L R Q = WP V 25 47 ls (.int (nI 8) :: st) t I L R Q := wp_go rfl
theorem i25_47 {x y : Int32} : WP V 25 47 ls (.int y :: .int x :: st) t I L R Q = WP V 25 48 ls (.int (x + y) :: st) t I L R Q := wp_go rfl
theorem i25_48 {w0 w1 w2 w3 : Value} {x : Int32} : WP V 25 48 [w0, w1, w2, w3, .int x] st t I L R Q = WP V 25 49 [w0, w1, w2, w3, .int x] (.int x :: st) t I L R Q := wp_go rfl
theorem i25_49 {x y : Int32} : WP V 25 49 ls (.int y :: .int x :: st) t I L R Q = WP V 25 50 ls (.int (x + y) :: st) t I L R Q := wp_go rfl
theorem i25_50 {k j : Nat} (h2 : m_ar k 2 581 = true) (h1 : k < t) (h3 : j < 581) : WP V 25 50 ls (.int (nI j) :: .ref k :: st) t I L R Q = WP V 25 51 ls (.int (I k j) :: st) t I L R Q := wp_iaload rfl (by decide) h1 h2 h3
theorem i25_51 {x0 : Int32} {x1 : Int32} {x2 : Int32} {x3 : Nat}  (h1 : x3 < t) (h2 : m_ob x3 3 = true) : WP V 25 51 ls [.int x0, .int x1, .int x2, .ref x3] t I L R Q = WPC V 52 [.ref x3, .int x2, .int x1, .int x0] 25 52 ls [] t I L R Q := wp_cls (wp_icv rfl rfl h1 h2) (by decide) (Nat.le_of_ble_eq_true rfl) rfl rfl (Nat.le_of_ble_eq_true rfl) (Nat.le_of_ble_eq_true rfl)
theorem i25_52 {p : Int32} {w0 w1 w2 : Value} {x : Int32} : WP V 25 52 [w0, w1, w2, .int p, .int x] st t I L R Q = WP V 25 53 [w0, w1, w2, .int p, .int (x + (nI 1))] st t I L R Q := wp_go rfl
theorem i25_53  : WP V 25 53 ls st t I L R Q = WP V 25 10 ls st t I L R Q := wp_go rfl
theorem i25_54 {w1 w2 w3 w4 : Value} {x : Nat} : WP V 25 54 [.ref x, w1, w2, w3, w4] st t I L R Q = WP V 25 55 [.ref x, w1, w2, w3, w4] (.ref x :: st) t I L R Q := wp_go rfl
theorem i25_55 {k : Nat} (h1 : k < t) (h2 : m_ob k 1 = true) : WP V 25 55 ls (.ref k :: st) t I L R Q = WP V 25 56 ls (m_rv (R k 0) :: st) t I L R Q := wp_getR rfl (by decide) h1 h2
theorem i25_56 {k : Nat} (h1 : k < t) (h2 : m_ob k 3 = true) : WP V 25 56 ls (.ref k :: st) t I L R Q = WP V 25 57 ls (m_rv (R k 3) :: st) t I L R Q := wp_getR rfl (by decide) h1 h2
theorem i25_57 {w1 w2 w3 w4 : Value} {x : Nat} : WP V 25 57 [.ref x, w1, w2, w3, w4] st t I L R Q = WP V 25 58 [.ref x, w1, w2, w3, w4] (.ref x :: st) t I L R Q := wp_go rfl
theorem i25_58 {k : Nat} (h1 : k < t) (h2 : m_ob k 1 = true) : WP V 25 58 ls (.ref k :: st) t I L R Q = WP V 25 59 ls (m_rv (R k 1) :: st) t I L R Q := wp_getR rfl (by decide) h1 h2
theorem i25_59 {w0 w2 w3 w4 : Value} {x : Int32} : WP V 25 59 [w0, .int x, w2, w3, w4] st t I L R Q = WP V 25 60 [w0, .int x, w2, w3, w4] (.int x :: st) t I L R Q := wp_go rfl
theorem i25_60 {w0 w1 w2 w4 : Value} {x : Int32} : WP V 25 60 [w0, w1, w2, .int x, w4] st t I L R Q = WP V 25 61 [w0, w1, w2, .int x, w4] (.int x :: st) t I L R Q := wp_go rfl
theorem i25_61 {x0 : Int32} {x1 : Int32} {x2 : Nat} {x3 : Nat}  (h1 : x3 < t) (h2 : m_ob x3 4 = true) : WP V 25 61 ls [.int x0, .int x1, .ref x2, .ref x3] t I L R Q = WPC V 56 [.ref x3, .ref x2, .int x1, .int x0] 25 62 ls [] t I L R Q := wp_cls (wp_icv rfl rfl h1 h2) (by decide) (Nat.le_of_ble_eq_true rfl) rfl rfl (Nat.le_of_ble_eq_true rfl) (Nat.le_of_ble_eq_true rfl)
theorem i25_62  : WP V 25 62 ls [] t I L R Q = Q none t I L R := wp_rtv rfl rfl
-- TransactionCells$Dealings.bringBackRegisters(I)V
theorem i26_0 {w1 : Value} {x : Nat} : WP V 26 0 [.ref x, w1] st t I L R Q = WP V 26 1 [.ref x, w1] (.ref x :: st) t I L R Q := wp_go rfl
theorem i26_1 {k : Nat} (h1 : k < t) (h2 : m_ob k 1 = true) : WP V 26 1 ls (.ref k :: st) t I L R Q = WP V 26 2 ls (m_rv (R k 1) :: st) t I L R Q := wp_getR rfl (by decide) h1 h2
theorem i26_2  : WP V 26 2 ls st t I L R Q = WP V 26 3 ls (.int (nI 148) :: st) t I L R Q := wp_go rfl
theorem i26_3  : WP V 26 3 ls st t I L R Q = WP V 26 4 ls (.int (nI 47) :: st) t I L R Q := wp_go rfl
theorem i26_4 {w0 : Value} {x : Int32} : WP V 26 4 [w0, .int x] st t I L R Q = WP V 26 5 [w0, .int x] (.int x :: st) t I L R Q := wp_go rfl
theorem i26_5 {x y : Int32} : WP V 26 5 ls (.int y :: .int x :: st) t I L R Q = WP V 26 6 ls (.int (x * y) :: st) t I L R Q := wp_go rfl
theorem i26_6 {x y : Int32} : WP V 26 6 ls (.int y :: .int x :: st) t I L R Q = WP V 26 7 ls (.int (x + y) :: st) t I L R Q := wp_go rfl
theorem i26_7 {w1 : Value} {x : Nat} : WP V 26 7 [.ref x, w1] st t I L R Q = WP V 26 8 [.ref x, w1] (.ref x :: st) t I L R Q := wp_go rfl
theorem i26_8 {k : Nat} (h1 : k < t) (h2 : m_ob k 1 = true) : WP V 26 8 ls (.ref k :: st) t I L R Q = WP V 26 9 ls (m_rv (R k 1) :: st) t I L R Q := wp_getR rfl (by decide) h1 h2
theorem i26_9  : WP V 26 9 ls st t I L R Q = WP V 26 10 ls (.int (nI 21) :: st) t I L R Q := wp_go rfl
theorem i26_10  : WP V 26 10 ls st t I L R Q = WP V 26 11 ls (.int (nI 4) :: st) t I L R Q := wp_go rfl
theorem i26_11 {w0 : Value} {x : Int32} : WP V 26 11 [w0, .int x] st t I L R Q = WP V 26 12 [w0, .int x] (.int x :: st) t I L R Q := wp_go rfl
theorem i26_12 {x y : Int32} : WP V 26 12 ls (.int y :: .int x :: st) t I L R Q = WP V 26 13 ls (.int (x * y) :: st) t I L R Q := wp_go rfl
theorem i26_13 {x y : Int32} : WP V 26 13 ls (.int y :: .int x :: st) t I L R Q = WP V 26 14 ls (.int (x + y) :: st) t I L R Q := wp_go rfl
theorem i26_14  : WP V 26 14 ls st t I L R Q = WP V 26 15 ls (.int (nI 4) :: st) t I L R Q := wp_go rfl
theorem i26_15 {s d sp dp cnt : Nat} (h3 : m_ar s 2 581 = true) (h4 : m_ar d 2 581 = true) (h1 : s < t) (h2 : d < t) (h5 : sp + cnt ≤ 581) (h6 : dp + cnt ≤ 581) : WP V 26 15 ls [.int (nI cnt), .int (nI dp), .ref d, .int (nI sp), .ref s] t I L R Q = WP V 26 16 ls [] t (m_sc I d (va_cpy (I s) (I d) sp dp cnt)) L R Q := wp_copyi rfl (by decide) (by decide) h1 h2 h3 h4 h5 h6 (by decide)
theorem i26_16  : WP V 26 16 ls [] t I L R Q = Q none t I L R := wp_rtv rfl rfl
-- TransactionCells$Dealings.leave(I)V
theorem i27_0 {w1 : Value} {x : Nat} : WP V 27 0 [.ref x, w1] st t I L R Q = WP V 27 1 [.ref x, w1] (.ref x :: st) t I L R Q := wp_go rfl
theorem i27_1 {w0 : Value} {x : Int32} : WP V 27 1 [w0, .int x] st t I L R Q = WP V 27 2 [w0, .int x] (.int x :: st) t I L R Q := wp_go rfl
theorem i27_2  : WP V 27 2 ls st t I L R Q = WP V 27 3 ls (.int (nI 33) :: st) t I L R Q := wp_go rfl
theorem i27_3 {x0 : Int32} {x1 : Int32} {x2 : Nat}  (h1 : x2 < t) (h2 : m_ob x2 1 = true) : WP V 27 3 ls [.int x0, .int x1, .ref x2] t I L R Q = WPC V 28 [.ref x2, .int x1, .int x0] 27 4 ls [] t I L R Q := wp_cls (wp_icv rfl rfl h1 h2) (by decide) (Nat.le_of_ble_eq_true rfl) rfl rfl (Nat.le_of_ble_eq_true rfl) (Nat.le_of_ble_eq_true rfl)
theorem i27_4 {w1 : Value} {x : Nat} : WP V 27 4 [.ref x, w1] st t I L R Q = WP V 27 5 [.ref x, w1] (.ref x :: st) t I L R Q := wp_go rfl
theorem i27_5 {w0 : Value} {x : Int32} : WP V 27 5 [w0, .int x] st t I L R Q = WP V 27 6 [w0, .int x] (.int x :: st) t I L R Q := wp_go rfl
theorem i27_6  : WP V 27 6 ls st t I L R Q = WP V 27 7 ls (.int (nI 41) :: st) t I L R Q := wp_go rfl
theorem i27_7 {x0 : Int32} {x1 : Int32} {x2 : Nat}  (h1 : x2 < t) (h2 : m_ob x2 1 = true) : WP V 27 7 ls [.int x0, .int x1, .ref x2] t I L R Q = WPC V 28 [.ref x2, .int x1, .int x0] 27 8 ls [] t I L R Q := wp_cls (wp_icv rfl rfl h1 h2) (by decide) (Nat.le_of_ble_eq_true rfl) rfl rfl (Nat.le_of_ble_eq_true rfl) (Nat.le_of_ble_eq_true rfl)
theorem i27_8 {w1 : Value} {x : Nat} : WP V 27 8 [.ref x, w1] st t I L R Q = WP V 27 9 [.ref x, w1] (.ref x :: st) t I L R Q := wp_go rfl
theorem i27_9 {w0 : Value} {x : Int32} : WP V 27 9 [w0, .int x] st t I L R Q = WP V 27 10 [w0, .int x] (.int x :: st) t I L R Q := wp_go rfl
theorem i27_10 {x0 : Int32} {x1 : Nat}  (h1 : x1 < t) (h2 : m_ob x1 1 = true) : WP V 27 10 ls [.int x0, .ref x1] t I L R Q = WPC V 29 [.ref x1, .int x0] 27 11 ls [] t I L R Q := wp_cls (wp_icv rfl rfl h1 h2) (by decide) (Nat.le_of_ble_eq_true rfl) rfl rfl (Nat.le_of_ble_eq_true rfl) (Nat.le_of_ble_eq_true rfl)
theorem i27_11 {w1 : Value} {x : Nat} : WP V 27 11 [.ref x, w1] st t I L R Q = WP V 27 12 [.ref x, w1] (.ref x :: st) t I L R Q := wp_go rfl
theorem i27_12 {k : Nat} (h1 : k < t) (h2 : m_ob k 1 = true) : WP V 27 12 ls (.ref k :: st) t I L R Q = WP V 27 13 ls (m_rv (R k 1) :: st) t I L R Q := wp_getR rfl (by decide) h1 h2
theorem i27_13  : WP V 27 13 ls st t I L R Q = WP V 27 14 ls (.int (nI 2) :: st) t I L R Q := wp_go rfl
theorem i27_14 {k j : Nat} (h2 : m_ar k 2 581 = true) (h1 : k < t) (h3 : j < 581) : WP V 27 14 ls (.int (nI j) :: .ref k :: st) t I L R Q = WP V 27 15 ls (.int (I k j) :: st) t I L R Q := wp_iaload rfl (by decide) h1 h2 h3
theorem i27_15 {w0 : Value} {x : Int32} : WP V 27 15 [w0, .int x] st t I L R Q = WP V 27 16 [w0, .int x] (.int x :: st) t I L R Q := wp_go rfl
theorem i27_16 {x y : Int32} : WP V 27 16 ls (.int y :: .int x :: st) t I L R Q = if x = y then WP V 27 17 ls st t I L R Q else WP V 27 22 ls st t I L R Q := wp_brn (c := m_cc .ne x y) rfl rfl
theorem i27_17 {w1 : Value} {x : Nat} : WP V 27 17 [.ref x, w1] st t I L R Q = WP V 27 18 [.ref x, w1] (.ref x :: st) t I L R Q := wp_go rfl
theorem i27_18 {k : Nat} (h1 : k < t) (h2 : m_ob k 1 = true) : WP V 27 18 ls (.ref k :: st) t I L R Q = WP V 27 19 ls (m_rv (R k 1) :: st) t I L R Q := wp_getR rfl (by decide) h1 h2
theorem i27_19  : WP V 27 19 ls st t I L R Q = WP V 27 20 ls (.int (nI 2) :: st) t I L R Q := wp_go rfl
theorem i27_20  : WP V 27 20 ls st t I L R Q = WP V 27 21 ls (.int (-1) :: st) t I L R Q := wp_go rfl
theorem i27_21 {k j : Nat} {x : Int32} (h2 : m_ar k 2 581 = true) (h1 : k < t) (h3 : j < 581) : WP V 27 21 ls (.int x :: .int (nI j) :: .ref k :: st) t I L R Q = WP V 27 22 ls st t (m_sc I k (m_sc (I k) j x)) L R Q := wp_iastore rfl (by decide) h1 h2 h3
theorem i27_22 {w1 : Value} {x : Nat} : WP V 27 22 [.ref x, w1] st t I L R Q = WP V 27 23 [.ref x, w1] (.ref x :: st) t I L R Q := wp_go rfl
theorem i27_23 {k : Nat} (h1 : k < t) (h2 : m_ob k 1 = true) : WP V 27 23 ls (.ref k :: st) t I L R Q = WP V 27 24 ls (m_rv (R k 1) :: st) t I L R Q := wp_getR rfl (by decide) h1 h2
theorem i27_24  : WP V 27 24 ls st t I L R Q = WP V 27 25 ls (.int (nI 15) :: st) t I L R Q := wp_go rfl
theorem i27_25 {w0 : Value} {x : Int32} : WP V 27 25 [w0, .int x] st t I L R Q = WP V 27 26 [w0, .int x] (.int x :: st) t I L R Q := wp_go rfl
theorem i27_26 {x y : Int32} : WP V 27 26 ls (.int y :: .int x :: st) t I L R Q = WP V 27 27 ls (.int (x + y) :: st) t I L R Q := wp_go rfl
theorem i27_27  : WP V 27 27 ls st t I L R Q = WP V 27 28 ls (.int (-1) :: st) t I L R Q := wp_go rfl
theorem i27_28 {k j : Nat} {x : Int32} (h2 : m_ar k 2 581 = true) (h1 : k < t) (h3 : j < 581) : WP V 27 28 ls (.int x :: .int (nI j) :: .ref k :: st) t I L R Q = WP V 27 29 ls st t (m_sc I k (m_sc (I k) j x)) L R Q := wp_iastore rfl (by decide) h1 h2 h3
theorem i27_29 {w1 : Value} {x : Nat} : WP V 27 29 [.ref x, w1] st t I L R Q = WP V 27 30 [.ref x, w1] (.ref x :: st) t I L R Q := wp_go rfl
theorem i27_30 {k : Nat} (h1 : k < t) (h2 : m_ob k 1 = true) : WP V 27 30 ls (.ref k :: st) t I L R Q = WP V 27 31 ls (m_rv (R k 1) :: st) t I L R Q := wp_getR rfl (by decide) h1 h2
theorem i27_31  : WP V 27 31 ls st t I L R Q = WP V 27 32 ls (.int (nI 18) :: st) t I L R Q := wp_go rfl
theorem i27_32 {w0 : Value} {x : Int32} : WP V 27 32 [w0, .int x] st t I L R Q = WP V 27 33 [w0, .int x] (.int x :: st) t I L R Q := wp_go rfl
theorem i27_33 {x y : Int32} : WP V 27 33 ls (.int y :: .int x :: st) t I L R Q = WP V 27 34 ls (.int (x + y) :: st) t I L R Q := wp_go rfl
theorem i27_34  : WP V 27 34 ls st t I L R Q = WP V 27 35 ls (.int (nI 0) :: st) t I L R Q := wp_go rfl
theorem i27_35 {k j : Nat} {x : Int32} (h2 : m_ar k 2 581 = true) (h1 : k < t) (h3 : j < 581) : WP V 27 35 ls (.int x :: .int (nI j) :: .ref k :: st) t I L R Q = WP V 27 36 ls st t (m_sc I k (m_sc (I k) j x)) L R Q := wp_iastore rfl (by decide) h1 h2 h3
theorem i27_36 {w1 : Value} {x : Nat} : WP V 27 36 [.ref x, w1] st t I L R Q = WP V 27 37 [.ref x, w1] (.ref x :: st) t I L R Q := wp_go rfl
theorem i27_37 {k : Nat} (h1 : k < t) (h2 : m_ob k 1 = true) : WP V 27 37 ls (.ref k :: st) t I L R Q = WP V 27 38 ls (m_rv (R k 0) :: st) t I L R Q := wp_getR rfl (by decide) h1 h2
theorem i27_38 {w0 : Value} {x : Int32} : WP V 27 38 [w0, .int x] st t I L R Q = WP V 27 39 [w0, .int x] (.int x :: st) t I L R Q := wp_go rfl
theorem i27_39 {x0 : Int32} {x1 : Nat}  (h1 : x1 < t) (h2 : m_ob x1 3 = true) : WP V 27 39 ls [.int x0, .ref x1] t I L R Q = WPC V 51 [.ref x1, .int x0] 27 40 ls [] t I L R Q := wp_cls (wp_icv rfl rfl h1 h2) (by decide) (Nat.le_of_ble_eq_true rfl) rfl rfl (Nat.le_of_ble_eq_true rfl) (Nat.le_of_ble_eq_true rfl)
theorem i27_40  : WP V 27 40 ls [] t I L R Q = Q none t I L R := wp_rtv rfl rfl
-- TransactionCells$Dealings.release(II)V
theorem i28_0  : WP V 28 0 ls st t I L R Q = WP V 28 1 ls (.int (nI 0) :: st) t I L R Q := wp_go rfl
theorem i28_1 {p : Int32} {w0 w1 w3 : Value} {x : Int32} : WP V 28 1 [w0, w1, .int p, w3] (.int x :: st) t I L R Q = WP V 28 2 [w0, w1, .int p, .int x] st t I L R Q := wp_go rfl
theorem i28_2 {w0 w1 w2 : Value} {x : Int32} : WP V 28 2 [w0, w1, w2, .int x] st t I L R Q = WP V 28 3 [w0, w1, w2, .int x] (.int x :: st) t I L R Q := wp_go rfl
theorem i28_3  : WP V 28 3 ls st t I L R Q = WP V 28 4 ls (.int (nI 8) :: st) t I L R Q := wp_go rfl
theorem i28_4 {x y : Int32} : WP V 28 4 ls (.int y :: .int x :: st) t I L R Q = if y ≤ x then WP V 28 22 ls st t I L R Q else WP V 28 5 ls st t I L R Q := wp_br (c := m_cc .ge x y) rfl rfl
theorem i28_5 {w1 w2 w3 : Value} {x : Nat} : WP V 28 5 [.ref x, w1, w2, w3] st t I L R Q = WP V 28 6 [.ref x, w1, w2, w3] (.ref x :: st) t I L R Q := wp_go rfl
theorem i28_6 {k : Nat} (h1 : k < t) (h2 : m_ob k 1 = true) : WP V 28 6 ls (.ref k :: st) t I L R Q = WP V 28 7 ls (m_rv (R k 1) :: st) t I L R Q := wp_getR rfl (by decide) h1 h2
theorem i28_7 {w0 w1 w3 : Value} {x : Int32} : WP V 28 7 [w0, w1, .int x, w3] st t I L R Q = WP V 28 8 [w0, w1, .int x, w3] (.int x :: st) t I L R Q := wp_go rfl
theorem i28_8 {w0 w1 w2 : Value} {x : Int32} : WP V 28 8 [w0, w1, w2, .int x] st t I L R Q = WP V 28 9 [w0, w1, w2, .int x] (.int x :: st) t I L R Q := wp_go rfl
theorem i28_9 {x y : Int32} : WP V 28 9 ls (.int y :: .int x :: st) t I L R Q = WP V 28 10 ls (.int (x + y) :: st) t I L R Q := wp_go rfl
theorem i28_10 {k j : Nat} (h2 : m_ar k 2 581 = true) (h1 : k < t) (h3 : j < 581) : WP V 28 10 ls (.int (nI j) :: .ref k :: st) t I L R Q = WP V 28 11 ls (.int (I k j) :: st) t I L R Q := wp_iaload rfl (by decide) h1 h2 h3
theorem i28_11 {w0 w2 w3 : Value} {x : Int32} : WP V 28 11 [w0, .int x, w2, w3] st t I L R Q = WP V 28 12 [w0, .int x, w2, w3] (.int x :: st) t I L R Q := wp_go rfl
theorem i28_12 {x y : Int32} : WP V 28 12 ls (.int y :: .int x :: st) t I L R Q = if x = y then WP V 28 13 ls st t I L R Q else WP V 28 20 ls st t I L R Q := wp_brn (c := m_cc .ne x y) rfl rfl
theorem i28_13 {w1 w2 w3 : Value} {x : Nat} : WP V 28 13 [.ref x, w1, w2, w3] st t I L R Q = WP V 28 14 [.ref x, w1, w2, w3] (.ref x :: st) t I L R Q := wp_go rfl
theorem i28_14 {k : Nat} (h1 : k < t) (h2 : m_ob k 1 = true) : WP V 28 14 ls (.ref k :: st) t I L R Q = WP V 28 15 ls (m_rv (R k 1) :: st) t I L R Q := wp_getR rfl (by decide) h1 h2
theorem i28_15 {w0 w1 w3 : Value} {x : Int32} : WP V 28 15 [w0, w1, .int x, w3] st t I L R Q = WP V 28 16 [w0, w1, .int x, w3] (.int x :: st) t I L R Q := wp_go rfl
theorem i28_16 {w0 w1 w2 : Value} {x : Int32} : WP V 28 16 [w0, w1, w2, .int x] st t I L R Q = WP V 28 17 [w0, w1, w2, .int x] (.int x :: st) t I L R Q := wp_go rfl
theorem i28_17 {x y : Int32} : WP V 28 17 ls (.int y :: .int x :: st) t I L R Q = WP V 28 18 ls (.int (x + y) :: st) t I L R Q := wp_go rfl
theorem i28_18  : WP V 28 18 ls st t I L R Q = WP V 28 19 ls (.int (-1) :: st) t I L R Q := wp_go rfl
theorem i28_19 {k j : Nat} {x : Int32} (h2 : m_ar k 2 581 = true) (h1 : k < t) (h3 : j < 581) : WP V 28 19 ls (.int x :: .int (nI j) :: .ref k :: st) t I L R Q = WP V 28 20 ls st t (m_sc I k (m_sc (I k) j x)) L R Q := wp_iastore rfl (by decide) h1 h2 h3
theorem i28_20 {p : Int32} {w0 w1 : Value} {x : Int32} : WP V 28 20 [w0, w1, .int p, .int x] st t I L R Q = WP V 28 21 [w0, w1, .int p, .int (x + (nI 1))] st t I L R Q := wp_go rfl
theorem i28_21  : WP V 28 21 ls st t I L R Q = WP V 28 2 ls st t I L R Q := wp_go rfl
theorem i28_22  : WP V 28 22 ls [] t I L R Q = Q none t I L R := wp_rtv rfl rfl
-- TransactionCells$Dealings.unlock(I)V
theorem i29_0 {w1 : Value} {x : Nat} : WP V 29 0 [.ref x, w1] st t I L R Q = WP V 29 1 [.ref x, w1] (.ref x :: st) t I L R Q := wp_go rfl
theorem i29_1 {k : Nat} (h1 : k < t) (h2 : m_ob k 1 = true) : WP V 29 1 ls (.ref k :: st) t I L R Q = WP V 29 2 ls (m_rv (R k 1) :: st) t I L R Q := wp_getR rfl (by decide) h1 h2
theorem i29_2  : WP V 29 2 ls st t I L R Q = WP V 29 3 ls (.int (nI 1) :: st) t I L R Q := wp_go rfl
theorem i29_3 {k j : Nat} (h2 : m_ar k 2 581 = true) (h1 : k < t) (h3 : j < 581) : WP V 29 3 ls (.int (nI j) :: .ref k :: st) t I L R Q = WP V 29 4 ls (.int (I k j) :: st) t I L R Q := wp_iaload rfl (by decide) h1 h2 h3
theorem i29_4 {w0 : Value} {x : Int32} : WP V 29 4 [w0, .int x] st t I L R Q = WP V 29 5 [w0, .int x] (.int x :: st) t I L R Q := wp_go rfl
theorem i29_5 {x y : Int32} : WP V 29 5 ls (.int y :: .int x :: st) t I L R Q = if x = y then WP V 29 6 ls st t I L R Q else WP V 29 11 ls st t I L R Q := wp_brn (c := m_cc .ne x y) rfl rfl
theorem i29_6 {w1 : Value} {x : Nat} : WP V 29 6 [.ref x, w1] st t I L R Q = WP V 29 7 [.ref x, w1] (.ref x :: st) t I L R Q := wp_go rfl
theorem i29_7 {k : Nat} (h1 : k < t) (h2 : m_ob k 1 = true) : WP V 29 7 ls (.ref k :: st) t I L R Q = WP V 29 8 ls (m_rv (R k 1) :: st) t I L R Q := wp_getR rfl (by decide) h1 h2
theorem i29_8  : WP V 29 8 ls st t I L R Q = WP V 29 9 ls (.int (nI 1) :: st) t I L R Q := wp_go rfl
theorem i29_9  : WP V 29 9 ls st t I L R Q = WP V 29 10 ls (.int (-1) :: st) t I L R Q := wp_go rfl
theorem i29_10 {k j : Nat} {x : Int32} (h2 : m_ar k 2 581 = true) (h1 : k < t) (h3 : j < 581) : WP V 29 10 ls (.int x :: .int (nI j) :: .ref k :: st) t I L R Q = WP V 29 11 ls st t (m_sc I k (m_sc (I k) j x)) L R Q := wp_iastore rfl (by decide) h1 h2 h3
theorem i29_11  : WP V 29 11 ls [] t I L R Q = Q none t I L R := wp_rtv rfl rfl
-- TransactionCells$Dealings.beginAnew(I)V
theorem i30_0  : WP V 30 0 ls st t I L R Q = WP V 30 1 ls (.int (nI 47) :: st) t I L R Q := wp_go rfl
theorem i30_1 {w0 w2 : Value} {x : Int32} : WP V 30 1 [w0, .int x, w2] st t I L R Q = WP V 30 2 [w0, .int x, w2] (.int x :: st) t I L R Q := wp_go rfl
theorem i30_2 {x y : Int32} : WP V 30 2 ls (.int y :: .int x :: st) t I L R Q = WP V 30 3 ls (.int (x * y) :: st) t I L R Q := wp_go rfl
theorem i30_3 {p : Int32} {w0 w2 : Value} {x : Int32} : WP V 30 3 [w0, .int p, w2] (.int x :: st) t I L R Q = WP V 30 4 [w0, .int p, .int x] st t I L R Q := wp_go rfl
theorem i30_4 {w1 w2 : Value} {x : Nat} : WP V 30 4 [.ref x, w1, w2] st t I L R Q = WP V 30 5 [.ref x, w1, w2] (.ref x :: st) t I L R Q := wp_go rfl
theorem i30_5 {k : Nat} (h1 : k < t) (h2 : m_ob k 1 = true) : WP V 30 5 ls (.ref k :: st) t I L R Q = WP V 30 6 ls (m_rv (R k 0) :: st) t I L R Q := wp_getR rfl (by decide) h1 h2
theorem i30_6 {w0 w2 : Value} {x : Int32} : WP V 30 6 [w0, .int x, w2] st t I L R Q = WP V 30 7 [w0, .int x, w2] (.int x :: st) t I L R Q := wp_go rfl
theorem i30_7 {x0 : Int32} {x1 : Nat}  (h1 : x1 < t) (h2 : m_ob x1 3 = true) : WP V 30 7 ls [.int x0, .ref x1] t I L R Q = WPC V 51 [.ref x1, .int x0] 30 8 ls [] t I L R Q := wp_cls (wp_icv rfl rfl h1 h2) (by decide) (Nat.le_of_ble_eq_true rfl) rfl rfl (Nat.le_of_ble_eq_true rfl) (Nat.le_of_ble_eq_true rfl)
theorem i30_8 {w1 w2 : Value} {x : Nat} : WP V 30 8 [.ref x, w1, w2] st t I L R Q = WP V 30 9 [.ref x, w1, w2] (.ref x :: st) t I L R Q := wp_go rfl
theorem i30_9 {w0 w2 : Value} {x : Int32} : WP V 30 9 [w0, .int x, w2] st t I L R Q = WP V 30 10 [w0, .int x, w2] (.int x :: st) t I L R Q := wp_go rfl
theorem i30_10  : WP V 30 10 ls st t I L R Q = WP V 30 11 ls (.int (nI 33) :: st) t I L R Q := wp_go rfl
theorem i30_11 {x0 : Int32} {x1 : Int32} {x2 : Nat}  (h1 : x2 < t) (h2 : m_ob x2 1 = true) : WP V 30 11 ls [.int x0, .int x1, .ref x2] t I L R Q = WPC V 28 [.ref x2, .int x1, .int x0] 30 12 ls [] t I L R Q := wp_cls (wp_icv rfl rfl h1 h2) (by decide) (Nat.le_of_ble_eq_true rfl) rfl rfl (Nat.le_of_ble_eq_true rfl) (Nat.le_of_ble_eq_true rfl)
theorem i30_12 {w1 w2 : Value} {x : Nat} : WP V 30 12 [.ref x, w1, w2] st t I L R Q = WP V 30 13 [.ref x, w1, w2] (.ref x :: st) t I L R Q := wp_go rfl
theorem i30_13 {w0 w2 : Value} {x : Int32} : WP V 30 13 [w0, .int x, w2] st t I L R Q = WP V 30 14 [w0, .int x, w2] (.int x :: st) t I L R Q := wp_go rfl
theorem i30_14 {x0 : Int32} {x1 : Nat}  (h1 : x1 < t) (h2 : m_ob x1 1 = true) : WP V 30 14 ls [.int x0, .ref x1] t I L R Q = WPC V 26 [.ref x1, .int x0] 30 15 ls [] t I L R Q := wp_cls (wp_icv rfl rfl h1 h2) (by decide) (Nat.le_of_ble_eq_true rfl) rfl rfl (Nat.le_of_ble_eq_true rfl) (Nat.le_of_ble_eq_true rfl)
theorem i30_15 {w1 w2 : Value} {x : Nat} : WP V 30 15 [.ref x, w1, w2] st t I L R Q = WP V 30 16 [.ref x, w1, w2] (.ref x :: st) t I L R Q := wp_go rfl
theorem i30_16 {k : Nat} (h1 : k < t) (h2 : m_ob k 1 = true) : WP V 30 16 ls (.ref k :: st) t I L R Q = WP V 30 17 ls (m_rv (R k 1) :: st) t I L R Q := wp_getR rfl (by decide) h1 h2
theorem i30_17  : WP V 30 17 ls st t I L R Q = WP V 30 18 ls (.int (nI 145) :: st) t I L R Q := wp_go rfl
theorem i30_18 {w0 w1 : Value} {x : Int32} : WP V 30 18 [w0, w1, .int x] st t I L R Q = WP V 30 19 [w0, w1, .int x] (.int x :: st) t I L R Q := wp_go rfl
theorem i30_19 {x y : Int32} : WP V 30 19 ls (.int y :: .int x :: st) t I L R Q = WP V 30 20 ls (.int (x + y) :: st) t I L R Q := wp_go rfl
theorem i30_20 {w1 w2 : Value} {x : Nat} : WP V 30 20 [.ref x, w1, w2] st t I L R Q = WP V 30 21 [.ref x, w1, w2] (.ref x :: st) t I L R Q := wp_go rfl
theorem i30_21 {k : Nat} (h1 : k < t) (h2 : m_ob k 1 = true) : WP V 30 21 ls (.ref k :: st) t I L R Q = WP V 30 22 ls (m_rv (R k 1) :: st) t I L R Q := wp_getR rfl (by decide) h1 h2
theorem i30_22  : WP V 30 22 ls st t I L R Q = WP V 30 23 ls (.int (nI 0) :: st) t I L R Q := wp_go rfl
theorem i30_23 {k j : Nat} (h2 : m_ar k 2 581 = true) (h1 : k < t) (h3 : j < 581) : WP V 30 23 ls (.int (nI j) :: .ref k :: st) t I L R Q = WP V 30 24 ls (.int (I k j) :: st) t I L R Q := wp_iaload rfl (by decide) h1 h2 h3
theorem i30_24 {k j : Nat} {x : Int32} (h2 : m_ar k 2 581 = true) (h1 : k < t) (h3 : j < 581) : WP V 30 24 ls (.int x :: .int (nI j) :: .ref k :: st) t I L R Q = WP V 30 25 ls st t (m_sc I k (m_sc (I k) j x)) L R Q := wp_iastore rfl (by decide) h1 h2 h3
theorem i30_25 {w1 w2 : Value} {x : Nat} : WP V 30 25 [.ref x, w1, w2] st t I L R Q = WP V 30 26 [.ref x, w1, w2] (.ref x :: st) t I L R Q := wp_go rfl
theorem i30_26 {k : Nat} (h1 : k < t) (h2 : m_ob k 1 = true) : WP V 30 26 ls (.ref k :: st) t I L R Q = WP V 30 27 ls (m_rv (R k 1) :: st) t I L R Q := wp_getR rfl (by decide) h1 h2
theorem i30_27  : WP V 30 27 ls st t I L R Q = WP V 30 28 ls (.int (nI 12) :: st) t I L R Q := wp_go rfl
theorem i30_28 {w0 w2 : Value} {x : Int32} : WP V 30 28 [w0, .int x, w2] st t I L R Q = WP V 30 29 [w0, .int x, w2] (.int x :: st) t I L R Q := wp_go rfl
theorem i30_29 {x y : Int32} : WP V 30 29 ls (.int y :: .int x :: st) t I L R Q = WP V 30 30 ls (.int (x + y) :: st) t I L R Q := wp_go rfl
theorem i30_30 {w1 w2 : Value} {x : Nat} : WP V 30 30 [.ref x, w1, w2] st t I L R Q = WP V 30 31 [.ref x, w1, w2] (.ref x :: st) t I L R Q := wp_go rfl
theorem i30_31 {k : Nat} (h1 : k < t) (h2 : m_ob k 1 = true) : WP V 30 31 ls (.ref k :: st) t I L R Q = WP V 30 32 ls (m_rv (R k 1) :: st) t I L R Q := wp_getR rfl (by decide) h1 h2
theorem i30_32  : WP V 30 32 ls st t I L R Q = WP V 30 33 ls (.int (nI 147) :: st) t I L R Q := wp_go rfl
theorem i30_33 {w0 w1 : Value} {x : Int32} : WP V 30 33 [w0, w1, .int x] st t I L R Q = WP V 30 34 [w0, w1, .int x] (.int x :: st) t I L R Q := wp_go rfl
theorem i30_34 {x y : Int32} : WP V 30 34 ls (.int y :: .int x :: st) t I L R Q = WP V 30 35 ls (.int (x + y) :: st) t I L R Q := wp_go rfl
theorem i30_35 {k j : Nat} (h2 : m_ar k 2 581 = true) (h1 : k < t) (h3 : j < 581) : WP V 30 35 ls (.int (nI j) :: .ref k :: st) t I L R Q = WP V 30 36 ls (.int (I k j) :: st) t I L R Q := wp_iaload rfl (by decide) h1 h2 h3
theorem i30_36 {k j : Nat} {x : Int32} (h2 : m_ar k 2 581 = true) (h1 : k < t) (h3 : j < 581) : WP V 30 36 ls (.int x :: .int (nI j) :: .ref k :: st) t I L R Q = WP V 30 37 ls st t (m_sc I k (m_sc (I k) j x)) L R Q := wp_iastore rfl (by decide) h1 h2 h3
theorem i30_37 {w1 w2 : Value} {x : Nat} : WP V 30 37 [.ref x, w1, w2] st t I L R Q = WP V 30 38 [.ref x, w1, w2] (.ref x :: st) t I L R Q := wp_go rfl
theorem i30_38 {k : Nat} (h1 : k < t) (h2 : m_ob k 1 = true) : WP V 30 38 ls (.ref k :: st) t I L R Q = WP V 30 39 ls (m_rv (R k 1) :: st) t I L R Q := wp_getR rfl (by decide) h1 h2
theorem i30_39  : WP V 30 39 ls st t I L R Q = WP V 30 40 ls (.int (nI 6) :: st) t I L R Q := wp_go rfl
theorem i30_40 {w0 w2 : Value} {x : Int32} : WP V 30 40 [w0, .int x, w2] st t I L R Q = WP V 30 41 [w0, .int x, w2] (.int x :: st) t I L R Q := wp_go rfl
theorem i30_41 {x y : Int32} : WP V 30 41 ls (.int y :: .int x :: st) t I L R Q = WP V 30 42 ls (.int (x + y) :: st) t I L R Q := wp_go rfl
theorem i30_42 {w1 w2 : Value} {x : Nat} : WP V 30 42 [.ref x, w1, w2] st t I L R Q = WP V 30 43 [.ref x, w1, w2] (.ref x :: st) t I L R Q := wp_go rfl
theorem i30_43 {k : Nat} (h1 : k < t) (h2 : m_ob k 1 = true) : WP V 30 43 ls (.ref k :: st) t I L R Q = WP V 30 44 ls (m_rv (R k 1) :: st) t I L R Q := wp_getR rfl (by decide) h1 h2
theorem i30_44  : WP V 30 44 ls st t I L R Q = WP V 30 45 ls (.int (nI 146) :: st) t I L R Q := wp_go rfl
theorem i30_45 {w0 w1 : Value} {x : Int32} : WP V 30 45 [w0, w1, .int x] st t I L R Q = WP V 30 46 [w0, w1, .int x] (.int x :: st) t I L R Q := wp_go rfl
theorem i30_46 {x y : Int32} : WP V 30 46 ls (.int y :: .int x :: st) t I L R Q = WP V 30 47 ls (.int (x + y) :: st) t I L R Q := wp_go rfl
theorem i30_47 {k j : Nat} (h2 : m_ar k 2 581 = true) (h1 : k < t) (h3 : j < 581) : WP V 30 47 ls (.int (nI j) :: .ref k :: st) t I L R Q = WP V 30 48 ls (.int (I k j) :: st) t I L R Q := wp_iaload rfl (by decide) h1 h2 h3
theorem i30_48 {k j : Nat} {x : Int32} (h2 : m_ar k 2 581 = true) (h1 : k < t) (h3 : j < 581) : WP V 30 48 ls (.int x :: .int (nI j) :: .ref k :: st) t I L R Q = WP V 30 49 ls st t (m_sc I k (m_sc (I k) j x)) L R Q := wp_iastore rfl (by decide) h1 h2 h3
theorem i30_49 {w1 w2 : Value} {x : Nat} : WP V 30 49 [.ref x, w1, w2] st t I L R Q = WP V 30 50 [.ref x, w1, w2] (.ref x :: st) t I L R Q := wp_go rfl
theorem i30_50 {k : Nat} (h1 : k < t) (h2 : m_ob k 1 = true) : WP V 30 50 ls (.ref k :: st) t I L R Q = WP V 30 51 ls (m_rv (R k 1) :: st) t I L R Q := wp_getR rfl (by decide) h1 h2
theorem i30_51  : WP V 30 51 ls st t I L R Q = WP V 30 52 ls (.int (nI 560) :: st) t I L R Q := wp_go rfl
theorem i30_52 {v0 : Int32} {v1 : Nat} : WP V 30 52 ls (.int v0 :: .ref v1 :: st) t I L R Q = WP V 30 53 ls (.int v0 :: .ref v1 :: .int v0 :: .ref v1 :: st) t I L R Q := wp_go rfl
theorem i30_53 {k j : Nat} (h2 : m_ar k 2 581 = true) (h1 : k < t) (h3 : j < 581) : WP V 30 53 ls (.int (nI j) :: .ref k :: st) t I L R Q = WP V 30 54 ls (.int (I k j) :: st) t I L R Q := wp_iaload rfl (by decide) h1 h2 h3
theorem i30_54  : WP V 30 54 ls st t I L R Q = WP V 30 55 ls (.int (nI 1) :: st) t I L R Q := wp_go rfl
theorem i30_55 {x y : Int32} : WP V 30 55 ls (.int y :: .int x :: st) t I L R Q = WP V 30 56 ls (.int (x + y) :: st) t I L R Q := wp_go rfl
theorem i30_56 {k j : Nat} {x : Int32} (h2 : m_ar k 2 581 = true) (h1 : k < t) (h3 : j < 581) : WP V 30 56 ls (.int x :: .int (nI j) :: .ref k :: st) t I L R Q = WP V 30 57 ls st t (m_sc I k (m_sc (I k) j x)) L R Q := wp_iastore rfl (by decide) h1 h2 h3
theorem i30_57 {w1 w2 : Value} {x : Nat} : WP V 30 57 [.ref x, w1, w2] st t I L R Q = WP V 30 58 [.ref x, w1, w2] (.ref x :: st) t I L R Q := wp_go rfl
theorem i30_58 {k : Nat} (h1 : k < t) (h2 : m_ob k 1 = true) : WP V 30 58 ls (.ref k :: st) t I L R Q = WP V 30 59 ls (m_rv (R k 1) :: st) t I L R Q := wp_getR rfl (by decide) h1 h2
theorem i30_59  : WP V 30 59 ls st t I L R Q = WP V 30 60 ls (.int (nI 550) :: st) t I L R Q := wp_go rfl
theorem i30_60 {w0 w2 : Value} {x : Int32} : WP V 30 60 [w0, .int x, w2] st t I L R Q = WP V 30 61 [w0, .int x, w2] (.int x :: st) t I L R Q := wp_go rfl
theorem i30_61 {x y : Int32} : WP V 30 61 ls (.int y :: .int x :: st) t I L R Q = WP V 30 62 ls (.int (x + y) :: st) t I L R Q := wp_go rfl
theorem i30_62 {v0 : Int32} {v1 : Nat} : WP V 30 62 ls (.int v0 :: .ref v1 :: st) t I L R Q = WP V 30 63 ls (.int v0 :: .ref v1 :: .int v0 :: .ref v1 :: st) t I L R Q := wp_go rfl
theorem i30_63 {k j : Nat} (h2 : m_ar k 2 581 = true) (h1 : k < t) (h3 : j < 581) : WP V 30 63 ls (.int (nI j) :: .ref k :: st) t I L R Q = WP V 30 64 ls (.int (I k j) :: st) t I L R Q := wp_iaload rfl (by decide) h1 h2 h3
theorem i30_64  : WP V 30 64 ls st t I L R Q = WP V 30 65 ls (.int (nI 1) :: st) t I L R Q := wp_go rfl
theorem i30_65 {x y : Int32} : WP V 30 65 ls (.int y :: .int x :: st) t I L R Q = WP V 30 66 ls (.int (x + y) :: st) t I L R Q := wp_go rfl
theorem i30_66 {k j : Nat} {x : Int32} (h2 : m_ar k 2 581 = true) (h1 : k < t) (h3 : j < 581) : WP V 30 66 ls (.int x :: .int (nI j) :: .ref k :: st) t I L R Q = WP V 30 67 ls st t (m_sc I k (m_sc (I k) j x)) L R Q := wp_iastore rfl (by decide) h1 h2 h3
theorem i30_67  : WP V 30 67 ls [] t I L R Q = Q none t I L R := wp_rtv rfl rfl
-- TransactionCells$Dealings.sleep(I)I
theorem i31_0 {w1 w2 : Value} {x : Nat} : WP V 31 0 [.ref x, w1, w2] st t I L R Q = WP V 31 1 [.ref x, w1, w2] (.ref x :: st) t I L R Q := wp_go rfl
theorem i31_1 {w0 w2 : Value} {x : Int32} : WP V 31 1 [w0, .int x, w2] st t I L R Q = WP V 31 2 [w0, .int x, w2] (.int x :: st) t I L R Q := wp_go rfl
theorem i31_2 {x0 : Int32} {x1 : Nat}  (h1 : x1 < t) (h2 : m_ob x1 1 = true) : WP V 31 2 ls [.int x0, .ref x1] t I L R Q = WPC V 24 [.ref x1, .int x0] 31 3 ls [] t I L R Q := wp_cls (wp_icv rfl rfl h1 h2) (by decide) (Nat.le_of_ble_eq_true rfl) rfl rfl (Nat.le_of_ble_eq_true rfl) (Nat.le_of_ble_eq_true rfl)
theorem i31_3 {x : Int32} : WP V 31 3 ls (.int x :: st) t I L R Q = if x = nI 0 then WP V 31 6 ls st t I L R Q else WP V 31 4 ls st t I L R Q := wp_br (c := m_cc .eq x 0) rfl rfl
theorem i31_4  : WP V 31 4 ls st t I L R Q = WP V 31 5 ls (.int (nI 2) :: st) t I L R Q := wp_go rfl
theorem i31_5 {x : Int32} : WP V 31 5 ls [.int x] t I L R Q = Q (some (.int x)) t I L R := wp_rti rfl rfl
theorem i31_6  : WP V 31 6 ls st t I L R Q = WP V 31 7 ls (.int (nI 176) :: st) t I L R Q := wp_go rfl
theorem i31_7  : WP V 31 7 ls st t I L R Q = WP V 31 8 ls (.int (nI 47) :: st) t I L R Q := wp_go rfl
theorem i31_8 {w0 w2 : Value} {x : Int32} : WP V 31 8 [w0, .int x, w2] st t I L R Q = WP V 31 9 [w0, .int x, w2] (.int x :: st) t I L R Q := wp_go rfl
theorem i31_9 {x y : Int32} : WP V 31 9 ls (.int y :: .int x :: st) t I L R Q = WP V 31 10 ls (.int (x * y) :: st) t I L R Q := wp_go rfl
theorem i31_10 {x y : Int32} : WP V 31 10 ls (.int y :: .int x :: st) t I L R Q = WP V 31 11 ls (.int (x + y) :: st) t I L R Q := wp_go rfl
theorem i31_11 {p : Int32} {w0 w2 : Value} {x : Int32} : WP V 31 11 [w0, .int p, w2] (.int x :: st) t I L R Q = WP V 31 12 [w0, .int p, .int x] st t I L R Q := wp_go rfl
theorem i31_12 {w1 w2 : Value} {x : Nat} : WP V 31 12 [.ref x, w1, w2] st t I L R Q = WP V 31 13 [.ref x, w1, w2] (.ref x :: st) t I L R Q := wp_go rfl
theorem i31_13 {k : Nat} (h1 : k < t) (h2 : m_ob k 1 = true) : WP V 31 13 ls (.ref k :: st) t I L R Q = WP V 31 14 ls (m_rv (R k 1) :: st) t I L R Q := wp_getR rfl (by decide) h1 h2
theorem i31_14 {w0 w1 : Value} {x : Int32} : WP V 31 14 [w0, w1, .int x] st t I L R Q = WP V 31 15 [w0, w1, .int x] (.int x :: st) t I L R Q := wp_go rfl
theorem i31_15 {w0 w1 : Value} {x : Int32} : WP V 31 15 [w0, w1, .int x] st t I L R Q = WP V 31 16 [w0, w1, .int x] (.int x :: st) t I L R Q := wp_go rfl
theorem i31_16  : WP V 31 16 ls st t I L R Q = WP V 31 17 ls (.int (nI 8) :: st) t I L R Q := wp_go rfl
theorem i31_17 {x y : Int32} : WP V 31 17 ls (.int y :: .int x :: st) t I L R Q = WP V 31 18 ls (.int (x + y) :: st) t I L R Q := wp_go rfl
theorem i31_18  : WP V 31 18 ls st t I L R Q = WP V 31 19 ls (.int (-1) :: st) t I L R Q := wp_go rfl
theorem i31_19 {x0 : Int32} {x1 : Int32} {x2 : Int32} {x3 : Nat}  : WP V 31 19 ls [.int x0, .int x1, .int x2, .ref x3] t I L R Q = WPC V 197 [.ref x3, .int x2, .int x1, .int x0] 31 20 ls [] t I L R Q := wp_cls (wp_ics rfl (by decide)) (by decide) (Nat.le_of_ble_eq_true rfl) rfl rfl (Nat.le_of_ble_eq_true rfl) (Nat.le_of_ble_eq_true rfl)
theorem i31_20 {w1 w2 : Value} {x : Nat} : WP V 31 20 [.ref x, w1, w2] st t I L R Q = WP V 31 21 [.ref x, w1, w2] (.ref x :: st) t I L R Q := wp_go rfl
theorem i31_21 {k : Nat} (h1 : k < t) (h2 : m_ob k 1 = true) : WP V 31 21 ls (.ref k :: st) t I L R Q = WP V 31 22 ls (m_rv (R k 1) :: st) t I L R Q := wp_getR rfl (by decide) h1 h2
theorem i31_22 {w0 w1 : Value} {x : Int32} : WP V 31 22 [w0, w1, .int x] st t I L R Q = WP V 31 23 [w0, w1, .int x] (.int x :: st) t I L R Q := wp_go rfl
theorem i31_23  : WP V 31 23 ls st t I L R Q = WP V 31 24 ls (.int (nI 8) :: st) t I L R Q := wp_go rfl
theorem i31_24 {x y : Int32} : WP V 31 24 ls (.int y :: .int x :: st) t I L R Q = WP V 31 25 ls (.int (x + y) :: st) t I L R Q := wp_go rfl
theorem i31_25 {w0 w1 : Value} {x : Int32} : WP V 31 25 [w0, w1, .int x] st t I L R Q = WP V 31 26 [w0, w1, .int x] (.int x :: st) t I L R Q := wp_go rfl
theorem i31_26  : WP V 31 26 ls st t I L R Q = WP V 31 27 ls (.int (nI 16) :: st) t I L R Q := wp_go rfl
theorem i31_27 {x y : Int32} : WP V 31 27 ls (.int y :: .int x :: st) t I L R Q = WP V 31 28 ls (.int (x + y) :: st) t I L R Q := wp_go rfl
theorem i31_28  : WP V 31 28 ls st t I L R Q = WP V 31 29 ls (.int (nI 0) :: st) t I L R Q := wp_go rfl
theorem i31_29 {x0 : Int32} {x1 : Int32} {x2 : Int32} {x3 : Nat}  : WP V 31 29 ls [.int x0, .int x1, .int x2, .ref x3] t I L R Q = WPC V 197 [.ref x3, .int x2, .int x1, .int x0] 31 30 ls [] t I L R Q := wp_cls (wp_ics rfl (by decide)) (by decide) (Nat.le_of_ble_eq_true rfl) rfl rfl (Nat.le_of_ble_eq_true rfl) (Nat.le_of_ble_eq_true rfl)
theorem i31_30 {w1 w2 : Value} {x : Nat} : WP V 31 30 [.ref x, w1, w2] st t I L R Q = WP V 31 31 [.ref x, w1, w2] (.ref x :: st) t I L R Q := wp_go rfl
theorem i31_31 {w0 w2 : Value} {x : Int32} : WP V 31 31 [w0, .int x, w2] st t I L R Q = WP V 31 32 [w0, .int x, w2] (.int x :: st) t I L R Q := wp_go rfl
theorem i31_32  : WP V 31 32 ls st t I L R Q = WP V 31 33 ls (.int (nI 33) :: st) t I L R Q := wp_go rfl
theorem i31_33 {x0 : Int32} {x1 : Int32} {x2 : Nat}  (h1 : x2 < t) (h2 : m_ob x2 1 = true) : WP V 31 33 ls [.int x0, .int x1, .ref x2] t I L R Q = WPC V 28 [.ref x2, .int x1, .int x0] 31 34 ls [] t I L R Q := wp_cls (wp_icv rfl rfl h1 h2) (by decide) (Nat.le_of_ble_eq_true rfl) rfl rfl (Nat.le_of_ble_eq_true rfl) (Nat.le_of_ble_eq_true rfl)
theorem i31_34 {w1 w2 : Value} {x : Nat} : WP V 31 34 [.ref x, w1, w2] st t I L R Q = WP V 31 35 [.ref x, w1, w2] (.ref x :: st) t I L R Q := wp_go rfl
theorem i31_35 {w0 w2 : Value} {x : Int32} : WP V 31 35 [w0, .int x, w2] st t I L R Q = WP V 31 36 [w0, .int x, w2] (.int x :: st) t I L R Q := wp_go rfl
theorem i31_36 {x0 : Int32} {x1 : Nat}  (h1 : x1 < t) (h2 : m_ob x1 1 = true) : WP V 31 36 ls [.int x0, .ref x1] t I L R Q = WPC V 29 [.ref x1, .int x0] 31 37 ls [] t I L R Q := wp_cls (wp_icv rfl rfl h1 h2) (by decide) (Nat.le_of_ble_eq_true rfl) rfl rfl (Nat.le_of_ble_eq_true rfl) (Nat.le_of_ble_eq_true rfl)
theorem i31_37 {w1 w2 : Value} {x : Nat} : WP V 31 37 [.ref x, w1, w2] st t I L R Q = WP V 31 38 [.ref x, w1, w2] (.ref x :: st) t I L R Q := wp_go rfl
theorem i31_38 {k : Nat} (h1 : k < t) (h2 : m_ob k 1 = true) : WP V 31 38 ls (.ref k :: st) t I L R Q = WP V 31 39 ls (m_rv (R k 1) :: st) t I L R Q := wp_getR rfl (by decide) h1 h2
theorem i31_39  : WP V 31 39 ls st t I L R Q = WP V 31 40 ls (.int (nI 3) :: st) t I L R Q := wp_go rfl
theorem i31_40 {w0 w2 : Value} {x : Int32} : WP V 31 40 [w0, .int x, w2] st t I L R Q = WP V 31 41 [w0, .int x, w2] (.int x :: st) t I L R Q := wp_go rfl
theorem i31_41 {x y : Int32} : WP V 31 41 ls (.int y :: .int x :: st) t I L R Q = WP V 31 42 ls (.int (x + y) :: st) t I L R Q := wp_go rfl
theorem i31_42  : WP V 31 42 ls st t I L R Q = WP V 31 43 ls (.int (nI 4) :: st) t I L R Q := wp_go rfl
theorem i31_43 {k j : Nat} {x : Int32} (h2 : m_ar k 2 581 = true) (h1 : k < t) (h3 : j < 581) : WP V 31 43 ls (.int x :: .int (nI j) :: .ref k :: st) t I L R Q = WP V 31 44 ls st t (m_sc I k (m_sc (I k) j x)) L R Q := wp_iastore rfl (by decide) h1 h2 h3
theorem i31_44  : WP V 31 44 ls st t I L R Q = WP V 31 45 ls (.int (nI 5) :: st) t I L R Q := wp_go rfl
theorem i31_45 {x : Int32} : WP V 31 45 ls [.int x] t I L R Q = Q (some (.int x)) t I L R := wp_rti rfl rfl
-- TransactionCells$Dealings.wake(I)I
theorem i32_0 {w1 : Value} {x : Nat} : WP V 32 0 [.ref x, w1] st t I L R Q = WP V 32 1 [.ref x, w1] (.ref x :: st) t I L R Q := wp_go rfl
theorem i32_1 {w0 : Value} {x : Int32} : WP V 32 1 [w0, .int x] st t I L R Q = WP V 32 2 [w0, .int x] (.int x :: st) t I L R Q := wp_go rfl
theorem i32_2 {x0 : Int32} {x1 : Nat}  (h1 : x1 < t) (h2 : m_ob x1 1 = true) : WP V 32 2 ls [.int x0, .ref x1] t I L R Q = WPC V 24 [.ref x1, .int x0] 32 3 ls [] t I L R Q := wp_cls (wp_icv rfl rfl h1 h2) (by decide) (Nat.le_of_ble_eq_true rfl) rfl rfl (Nat.le_of_ble_eq_true rfl) (Nat.le_of_ble_eq_true rfl)
theorem i32_3 {x : Int32} : WP V 32 3 ls (.int x :: st) t I L R Q = if x = nI 0 then WP V 32 4 ls st t I L R Q else WP V 32 6 ls st t I L R Q := wp_brn (c := m_cc .ne x 0) rfl rfl
theorem i32_4  : WP V 32 4 ls st t I L R Q = WP V 32 5 ls (.int (nI 0) :: st) t I L R Q := wp_go rfl
theorem i32_5 {x : Int32} : WP V 32 5 ls [.int x] t I L R Q = Q (some (.int x)) t I L R := wp_rti rfl rfl
theorem i32_6 {w1 : Value} {x : Nat} : WP V 32 6 [.ref x, w1] st t I L R Q = WP V 32 7 [.ref x, w1] (.ref x :: st) t I L R Q := wp_go rfl
theorem i32_7  : WP V 32 7 ls st t I L R Q = WP V 32 8 ls (.int (nI 3) :: st) t I L R Q := wp_go rfl
theorem i32_8 {x0 : Int32} {x1 : Nat}  (h1 : x1 < t) (h2 : m_ob x1 1 = true) : WP V 32 8 ls [.int x0, .ref x1] t I L R Q = WPC V 8 [.ref x1, .int x0] 32 9 ls [] t I L R Q := wp_cls (wp_icv rfl rfl h1 h2) (by decide) (Nat.le_of_ble_eq_true rfl) rfl rfl (Nat.le_of_ble_eq_true rfl) (Nat.le_of_ble_eq_true rfl)
theorem i32_9 {x : Int32} : WP V 32 9 ls (.int x :: st) t I L R Q = if x = nI 0 then WP V 32 24 ls st t I L R Q else WP V 32 10 ls st t I L R Q := wp_br (c := m_cc .eq x 0) rfl rfl
theorem i32_10 {w1 : Value} {x : Nat} : WP V 32 10 [.ref x, w1] st t I L R Q = WP V 32 11 [.ref x, w1] (.ref x :: st) t I L R Q := wp_go rfl
theorem i32_11 {k : Nat} (h1 : k < t) (h2 : m_ob k 1 = true) : WP V 32 11 ls (.ref k :: st) t I L R Q = WP V 32 12 ls (m_rv (R k 1) :: st) t I L R Q := wp_getR rfl (by decide) h1 h2
theorem i32_12  : WP V 32 12 ls st t I L R Q = WP V 32 13 ls (.int (nI 1) :: st) t I L R Q := wp_go rfl
theorem i32_13 {k j : Nat} (h2 : m_ar k 2 581 = true) (h1 : k < t) (h3 : j < 581) : WP V 32 13 ls (.int (nI j) :: .ref k :: st) t I L R Q = WP V 32 14 ls (.int (I k j) :: st) t I L R Q := wp_iaload rfl (by decide) h1 h2 h3
theorem i32_14 {w0 : Value} {x : Int32} : WP V 32 14 [w0, .int x] st t I L R Q = WP V 32 15 [w0, .int x] (.int x :: st) t I L R Q := wp_go rfl
theorem i32_15 {x0 : Int32} {x1 : Int32}  : WP V 32 15 ls [.int x0, .int x1] t I L R Q = WPC V 9 [.int x1, .int x0] 32 16 ls [] t I L R Q := wp_cls (wp_ics rfl (by decide)) (by decide) (Nat.le_of_ble_eq_true rfl) rfl rfl (Nat.le_of_ble_eq_true rfl) (Nat.le_of_ble_eq_true rfl)
theorem i32_16 {x : Int32} : WP V 32 16 ls (.int x :: st) t I L R Q = if x = nI 0 then WP V 32 19 ls st t I L R Q else WP V 32 17 ls st t I L R Q := wp_br (c := m_cc .eq x 0) rfl rfl
theorem i32_17  : WP V 32 17 ls st t I L R Q = WP V 32 18 ls (.int (nI 0) :: st) t I L R Q := wp_go rfl
theorem i32_18 {x : Int32} : WP V 32 18 ls [.int x] t I L R Q = Q (some (.int x)) t I L R := wp_rti rfl rfl
theorem i32_19 {w1 : Value} {x : Nat} : WP V 32 19 [.ref x, w1] st t I L R Q = WP V 32 20 [.ref x, w1] (.ref x :: st) t I L R Q := wp_go rfl
theorem i32_20 {k : Nat} (h1 : k < t) (h2 : m_ob k 1 = true) : WP V 32 20 ls (.ref k :: st) t I L R Q = WP V 32 21 ls (m_rv (R k 1) :: st) t I L R Q := wp_getR rfl (by decide) h1 h2
theorem i32_21  : WP V 32 21 ls st t I L R Q = WP V 32 22 ls (.int (nI 1) :: st) t I L R Q := wp_go rfl
theorem i32_22 {w0 : Value} {x : Int32} : WP V 32 22 [w0, .int x] st t I L R Q = WP V 32 23 [w0, .int x] (.int x :: st) t I L R Q := wp_go rfl
theorem i32_23 {k j : Nat} {x : Int32} (h2 : m_ar k 2 581 = true) (h1 : k < t) (h3 : j < 581) : WP V 32 23 ls (.int x :: .int (nI j) :: .ref k :: st) t I L R Q = WP V 32 24 ls st t (m_sc I k (m_sc (I k) j x)) L R Q := wp_iastore rfl (by decide) h1 h2 h3
theorem i32_24 {w1 : Value} {x : Nat} : WP V 32 24 [.ref x, w1] st t I L R Q = WP V 32 25 [.ref x, w1] (.ref x :: st) t I L R Q := wp_go rfl
theorem i32_25 {k : Nat} (h1 : k < t) (h2 : m_ob k 1 = true) : WP V 32 25 ls (.ref k :: st) t I L R Q = WP V 32 26 ls (m_rv (R k 1) :: st) t I L R Q := wp_getR rfl (by decide) h1 h2
theorem i32_26  : WP V 32 26 ls st t I L R Q = WP V 32 27 ls (.int (nI 3) :: st) t I L R Q := wp_go rfl
theorem i32_27 {w0 : Value} {x : Int32} : WP V 32 27 [w0, .int x] st t I L R Q = WP V 32 28 [w0, .int x] (.int x :: st) t I L R Q := wp_go rfl
theorem i32_28 {x y : Int32} : WP V 32 28 ls (.int y :: .int x :: st) t I L R Q = WP V 32 29 ls (.int (x + y) :: st) t I L R Q := wp_go rfl
theorem i32_29  : WP V 32 29 ls st t I L R Q = WP V 32 30 ls (.int (nI 1) :: st) t I L R Q := wp_go rfl
theorem i32_30 {k j : Nat} {x : Int32} (h2 : m_ar k 2 581 = true) (h1 : k < t) (h3 : j < 581) : WP V 32 30 ls (.int x :: .int (nI j) :: .ref k :: st) t I L R Q = WP V 32 31 ls st t (m_sc I k (m_sc (I k) j x)) L R Q := wp_iastore rfl (by decide) h1 h2 h3
theorem i32_31  : WP V 32 31 ls st t I L R Q = WP V 32 32 ls (.int (nI 2) :: st) t I L R Q := wp_go rfl
theorem i32_32 {x : Int32} : WP V 32 32 ls [.int x] t I L R Q = Q (some (.int x)) t I L R := wp_rti rfl rfl
end
