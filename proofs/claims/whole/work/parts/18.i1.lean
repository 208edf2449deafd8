section
variable {V : m_V} {t : Nat} {I : m_I} {L : m_L} {R : m_R} {Q : Option Value → Nat → m_I → m_L → m_R → Prop} {ls st : List Value}
-- TransactionCells$Explorer.<init>(LTransactionCells$House;LTransactionCells$Steps;)V
theorem i33_0 {w1 w2 : Value} {x : Nat} : WP V 33 0 [.ref x, w1, w2] st t I L R Q = WP V 33 1 [.ref x, w1, w2] (.ref x :: st) t I L R Q := wp_go rfl
theorem i33_1 {k : Nat}  : WP V 33 1 ls [.ref k] t I L R Q = WP V 33 2 ls [] t I L R Q := wp_objI rfl (Nat.le_of_ble_eq_true rfl)
theorem i33_2 {w1 w2 : Value} {x : Nat} : WP V 33 2 [.ref x, w1, w2] st t I L R Q = WP V 33 3 [.ref x, w1, w2] (.ref x :: st) t I L R Q := wp_go rfl
theorem i33_3  : WP V 33 3 ls st t I L R Q = WP V 33 4 ls (.int (nI 581) :: st) t I L R Q := wp_go rfl
theorem i33_4 {N : Nat} (h : m_ar t 2 N = true) : WP V 33 4 ls (.int (nI N) :: st) t I L R Q = WP V 33 5 ls (.ref t :: st) (t + 1) (m_sc I t (fun _ => 0)) (m_sc L t (fun _ => 0)) R Q := wp_newi rfl h
theorem i33_5 {k x : Nat} (h1 : k < t) (h2 : m_ob k 2 = true) : WP V 33 5 ls (.ref x :: .ref k :: st) t I L R Q = WP V 33 6 ls st t I L (m_sc R k (m_sc (R k) 3 (some x))) Q := wp_putR rfl (by decide) h1 h2
theorem i33_5n {k : Nat} (h1 : k < t) (h2 : m_ob k 2 = true) : WP V 33 5 ls (.null :: .ref k :: st) t I L R Q = WP V 33 6 ls st t I L (m_sc R k (m_sc (R k) 3 none)) Q := wp_putN rfl (by decide) h1 h2
theorem i33_6 {w1 w2 : Value} {x : Nat} : WP V 33 6 [.ref x, w1, w2] st t I L R Q = WP V 33 7 [.ref x, w1, w2] (.ref x :: st) t I L R Q := wp_go rfl
theorem i33_7  : WP V 33 7 ls st t I L R Q = WP V 33 8 ls (.int (nI 232400) :: st) t I L R Q := wp_go rfl
theorem i33_8 {N : Nat} (h : m_ar t 2 N = true) : WP V 33 8 ls (.int (nI N) :: st) t I L R Q = WP V 33 9 ls (.ref t :: st) (t + 1) (m_sc I t (fun _ => 0)) (m_sc L t (fun _ => 0)) R Q := wp_newi rfl h
theorem i33_9 {k x : Nat} (h1 : k < t) (h2 : m_ob k 2 = true) : WP V 33 9 ls (.ref x :: .ref k :: st) t I L R Q = WP V 33 10 ls st t I L (m_sc R k (m_sc (R k) 4 (some x))) Q := wp_putR rfl (by decide) h1 h2
theorem i33_9n {k : Nat} (h1 : k < t) (h2 : m_ob k 2 = true) : WP V 33 9 ls (.null :: .ref k :: st) t I L R Q = WP V 33 10 ls st t I L (m_sc R k (m_sc (R k) 4 none)) Q := wp_putN rfl (by decide) h1 h2
theorem i33_10 {w1 w2 : Value} {x : Nat} : WP V 33 10 [.ref x, w1, w2] st t I L R Q = WP V 33 11 [.ref x, w1, w2] (.ref x :: st) t I L R Q := wp_go rfl
theorem i33_11  : WP V 33 11 ls st t I L R Q = WP V 33 12 ls (.int (nI 400) :: st) t I L R Q := wp_go rfl
theorem i33_12 {N : Nat} (h : m_ar t 2 N = true) : WP V 33 12 ls (.int (nI N) :: st) t I L R Q = WP V 33 13 ls (.ref t :: st) (t + 1) (m_sc I t (fun _ => 0)) (m_sc L t (fun _ => 0)) R Q := wp_newi rfl h
theorem i33_13 {k x : Nat} (h1 : k < t) (h2 : m_ob k 2 = true) : WP V 33 13 ls (.ref x :: .ref k :: st) t I L R Q = WP V 33 14 ls st t I L (m_sc R k (m_sc (R k) 5 (some x))) Q := wp_putR rfl (by decide) h1 h2
theorem i33_13n {k : Nat} (h1 : k < t) (h2 : m_ob k 2 = true) : WP V 33 13 ls (.null :: .ref k :: st) t I L R Q = WP V 33 14 ls st t I L (m_sc R k (m_sc (R k) 5 none)) Q := wp_putN rfl (by decide) h1 h2
theorem i33_14 {w1 w2 : Value} {x : Nat} : WP V 33 14 [.ref x, w1, w2] st t I L R Q = WP V 33 15 [.ref x, w1, w2] (.ref x :: st) t I L R Q := wp_go rfl
theorem i33_15  : WP V 33 15 ls st t I L R Q = WP V 33 16 ls (.int (nI 400) :: st) t I L R Q := wp_go rfl
theorem i33_16 {N : Nat} (h : m_ar t 3 N = true) : WP V 33 16 ls (.int (nI N) :: st) t I L R Q = WP V 33 17 ls (.ref t :: st) (t + 1) (m_sc I t (fun _ => 0)) (m_sc L t (fun _ => 0)) R Q := wp_newz rfl h
theorem i33_17 {k x : Nat} (h1 : k < t) (h2 : m_ob k 2 = true) : WP V 33 17 ls (.ref x :: .ref k :: st) t I L R Q = WP V 33 18 ls st t I L (m_sc R k (m_sc (R k) 6 (some x))) Q := wp_putR rfl (by decide) h1 h2
theorem i33_17n {k : Nat} (h1 : k < t) (h2 : m_ob k 2 = true) : WP V 33 17 ls (.null :: .ref k :: st) t I L R Q = WP V 33 18 ls st t I L (m_sc R k (m_sc (R k) 6 none)) Q := wp_putN rfl (by decide) h1 h2
theorem i33_18 {w1 w2 : Value} {x : Nat} : WP V 33 18 [.ref x, w1, w2] st t I L R Q = WP V 33 19 [.ref x, w1, w2] (.ref x :: st) t I L R Q := wp_go rfl
theorem i33_19  : WP V 33 19 ls st t I L R Q = WP V 33 20 ls (.int (nI 1024) :: st) t I L R Q := wp_go rfl
theorem i33_20 {N : Nat} (h : m_ar t 2 N = true) : WP V 33 20 ls (.int (nI N) :: st) t I L R Q = WP V 33 21 ls (.ref t :: st) (t + 1) (m_sc I t (fun _ => 0)) (m_sc L t (fun _ => 0)) R Q := wp_newi rfl h
theorem i33_21 {k x : Nat} (h1 : k < t) (h2 : m_ob k 2 = true) : WP V 33 21 ls (.ref x :: .ref k :: st) t I L R Q = WP V 33 22 ls st t I L (m_sc R k (m_sc (R k) 7 (some x))) Q := wp_putR rfl (by decide) h1 h2
theorem i33_21n {k : Nat} (h1 : k < t) (h2 : m_ob k 2 = true) : WP V 33 21 ls (.null :: .ref k :: st) t I L R Q = WP V 33 22 ls st t I L (m_sc R k (m_sc (R k) 7 none)) Q := wp_putN rfl (by decide) h1 h2
theorem i33_22 {w1 w2 : Value} {x : Nat} : WP V 33 22 [.ref x, w1, w2] st t I L R Q = WP V 33 23 [.ref x, w1, w2] (.ref x :: st) t I L R Q := wp_go rfl
theorem i33_23  : WP V 33 23 ls st t I L R Q = WP V 33 24 ls (.int (nI 0) :: st) t I L R Q := wp_go rfl
theorem i33_24 {k : Nat} {x : Int32} (h1 : k < t) (h2 : m_ob k 2 = true) : WP V 33 24 ls (.int x :: .ref k :: st) t I L R Q = WP V 33 25 ls st t (m_sc I k (m_sc (I k) 8 x)) L R Q := wp_putI rfl (by decide) h1 h2
theorem i33_25 {w1 w2 : Value} {x : Nat} : WP V 33 25 [.ref x, w1, w2] st t I L R Q = WP V 33 26 [.ref x, w1, w2] (.ref x :: st) t I L R Q := wp_go rfl
theorem i33_26  : WP V 33 26 ls st t I L R Q = WP V 33 27 ls (.int (nI 7600) :: st) t I L R Q := wp_go rfl
theorem i33_27 {N : Nat} (h : m_ar t 2 N = true) : WP V 33 27 ls (.int (nI N) :: st) t I L R Q = WP V 33 28 ls (.ref t :: st) (t + 1) (m_sc I t (fun _ => 0)) (m_sc L t (fun _ => 0)) R Q := wp_newi rfl h
theorem i33_28 {k x : Nat} (h1 : k < t) (h2 : m_ob k 2 = true) : WP V 33 28 ls (.ref x :: .ref k :: st) t I L R Q = WP V 33 29 ls st t I L (m_sc R k (m_sc (R k) 9 (some x))) Q := wp_putR rfl (by decide) h1 h2
theorem i33_28n {k : Nat} (h1 : k < t) (h2 : m_ob k 2 = true) : WP V 33 28 ls (.null :: .ref k :: st) t I L R Q = WP V 33 29 ls st t I L (m_sc R k (m_sc (R k) 9 none)) Q := wp_putN rfl (by decide) h1 h2
theorem i33_29 {w1 w2 : Value} {x : Nat} : WP V 33 29 [.ref x, w1, w2] st t I L R Q = WP V 33 30 [.ref x, w1, w2] (.ref x :: st) t I L R Q := wp_go rfl
theorem i33_30  : WP V 33 30 ls st t I L R Q = WP V 33 31 ls (.int (-1) :: st) t I L R Q := wp_go rfl
theorem i33_31 {k : Nat} {x : Int32} (h1 : k < t) (h2 : m_ob k 2 = true) : WP V 33 31 ls (.int x :: .ref k :: st) t I L R Q = WP V 33 32 ls st t (m_sc I k (m_sc (I k) 10 x)) L R Q := wp_putI rfl (by decide) h1 h2
theorem i33_32 {w1 w2 : Value} {x : Nat} : WP V 33 32 [.ref x, w1, w2] st t I L R Q = WP V 33 33 [.ref x, w1, w2] (.ref x :: st) t I L R Q := wp_go rfl
theorem i33_33 {w0 w2 : Value} {x : Nat} : WP V 33 33 [w0, .ref x, w2] st t I L R Q = WP V 33 34 [w0, .ref x, w2] (.ref x :: st) t I L R Q := wp_go rfl
theorem i33_34 {k x : Nat} (h1 : k < t) (h2 : m_ob k 2 = true) : WP V 33 34 ls (.ref x :: .ref k :: st) t I L R Q = WP V 33 35 ls st t I L (m_sc R k (m_sc (R k) 0 (some x))) Q := wp_putR rfl (by decide) h1 h2
theorem i33_34n {k : Nat} (h1 : k < t) (h2 : m_ob k 2 = true) : WP V 33 34 ls (.null :: .ref k :: st) t I L R Q = WP V 33 35 ls st t I L (m_sc R k (m_sc (R k) 0 none)) Q := wp_putN rfl (by decide) h1 h2
theorem i33_35 {w1 w2 : Value} {x : Nat} : WP V 33 35 [.ref x, w1, w2] st t I L R Q = WP V 33 36 [.ref x, w1, w2] (.ref x :: st) t I L R Q := wp_go rfl
theorem i33_36 {w0 w1 : Value} {x : Nat} : WP V 33 36 [w0, w1, .ref x] st t I L R Q = WP V 33 37 [w0, w1, .ref x] (.ref x :: st) t I L R Q := wp_go rfl
theorem i33_37 {k x : Nat} (h1 : k < t) (h2 : m_ob k 2 = true) : WP V 33 37 ls (.ref x :: .ref k :: st) t I L R Q = WP V 33 38 ls st t I L (m_sc R k (m_sc (R k) 1 (some x))) Q := wp_putR rfl (by decide) h1 h2
theorem i33_37n {k : Nat} (h1 : k < t) (h2 : m_ob k 2 = true) : WP V 33 37 ls (.null :: .ref k :: st) t I L R Q = WP V 33 38 ls st t I L (m_sc R k (m_sc (R k) 1 none)) Q := wp_putN rfl (by decide) h1 h2
theorem i33_38 {w1 w2 : Value} {x : Nat} : WP V 33 38 [.ref x, w1, w2] st t I L R Q = WP V 33 39 [.ref x, w1, w2] (.ref x :: st) t I L R Q := wp_go rfl
theorem i33_39 {w0 w2 : Value} {x : Nat} : WP V 33 39 [w0, .ref x, w2] st t I L R Q = WP V 33 40 [w0, .ref x, w2] (.ref x :: st) t I L R Q := wp_go rfl
theorem i33_40 {k : Nat} (h1 : k < t) (h2 : m_ob k 3 = true) : WP V 33 40 ls (.ref k :: st) t I L R Q = WP V 33 41 ls (m_rv (R k 0) :: st) t I L R Q := wp_getR rfl (by decide) h1 h2
theorem i33_41 {k x : Nat} (h1 : k < t) (h2 : m_ob k 2 = true) : WP V 33 41 ls (.ref x :: .ref k :: st) t I L R Q = WP V 33 42 ls st t I L (m_sc R k (m_sc (R k) 2 (some x))) Q := wp_putR rfl (by decide) h1 h2
theorem i33_41n {k : Nat} (h1 : k < t) (h2 : m_ob k 2 = true) : WP V 33 41 ls (.null :: .ref k :: st) t I L R Q = WP V 33 42 ls st t I L (m_sc R k (m_sc (R k) 2 none)) Q := wp_putN rfl (by decide) h1 h2
theorem i33_42  : WP V 33 42 ls [] t I L R Q = Q none t I L R := wp_rtv rfl rfl
-- TransactionCells$Explorer.meetAll(I)I
theorem i34_0 {w1 w2 w3 w4 : Value} {x : Nat} : WP V 34 0 [.ref x, w1, w2, w3, w4] st t I L R Q = WP V 34 1 [.ref x, w1, w2, w3, w4] (.ref x :: st) t I L R Q := wp_go rfl
theorem i34_1 {k : Nat} (h1 : k < t) (h2 : m_ob k 2 = true) : WP V 34 1 ls (.ref k :: st) t I L R Q = WP V 34 2 ls (m_rv (R k 2) :: st) t I L R Q := wp_getR rfl (by decide) h1 h2
theorem i34_2  : WP V 34 2 ls st t I L R Q = WP V 34 3 ls (.int (nI 0) :: st) t I L R Q := wp_go rfl
theorem i34_3 {w1 w2 w3 w4 : Value} {x : Nat} : WP V 34 3 [.ref x, w1, w2, w3, w4] st t I L R Q = WP V 34 4 [.ref x, w1, w2, w3, w4] (.ref x :: st) t I L R Q := wp_go rfl
theorem i34_4 {k : Nat} (h1 : k < t) (h2 : m_ob k 2 = true) : WP V 34 4 ls (.ref k :: st) t I L R Q = WP V 34 5 ls (m_rv (R k 3) :: st) t I L R Q := wp_getR rfl (by decide) h1 h2
theorem i34_5  : WP V 34 5 ls st t I L R Q = WP V 34 6 ls (.int (nI 0) :: st) t I L R Q := wp_go rfl
theorem i34_6  : WP V 34 6 ls st t I L R Q = WP V 34 7 ls (.int (nI 581) :: st) t I L R Q := wp_go rfl
theorem i34_7 {s d sp dp cnt : Nat} (h3 : m_ar s 2 581 = true) (h4 : m_ar d 2 581 = true) (h1 : s < t) (h2 : d < t) (h5 : sp + cnt ≤ 581) (h6 : dp + cnt ≤ 581) : WP V 34 7 ls [.int (nI cnt), .int (nI dp), .ref d, .int (nI sp), .ref s] t I L R Q = WP V 34 8 ls [] t (m_sc I d (va_cpy (I s) (I d) sp dp cnt)) L R Q := wp_copyi rfl (by decide) (by decide) h1 h2 h3 h4 h5 h6 (by decide)
theorem i34_8 {w1 w2 w3 w4 : Value} {x : Nat} : WP V 34 8 [.ref x, w1, w2, w3, w4] st t I L R Q = WP V 34 9 [.ref x, w1, w2, w3, w4] (.ref x :: st) t I L R Q := wp_go rfl
theorem i34_9 {k : Nat} (h1 : k < t) (h2 : m_ob k 2 = true) : WP V 34 9 ls (.ref k :: st) t I L R Q = WP V 34 10 ls (m_rv (R k 0) :: st) t I L R Q := wp_getR rfl (by decide) h1 h2
theorem i34_10 {k : Nat} (h1 : k < t) (h2 : m_ob k 3 = true) : WP V 34 10 ls (.ref k :: st) t I L R Q = WP V 34 11 ls (m_rv (R k 3) :: st) t I L R Q := wp_getR rfl (by decide) h1 h2
theorem i34_11  : WP V 34 11 ls st t I L R Q = WP V 34 12 ls (.int (nI 1) :: st) t I L R Q := wp_go rfl
theorem i34_12 {k : Nat} {x : Int32} (h1 : k < t) (h2 : m_ob k 4 = true) (h3 : m_01 x = true) : WP V 34 12 ls (.int x :: .ref k :: st) t I L R Q = WP V 34 13 ls st t (m_sc I k (m_sc (I k) 3 x)) L R Q := wp_putZ rfl (by decide) h1 h2 h3
theorem i34_13 {w1 w2 w3 w4 : Value} {x : Nat} : WP V 34 13 [.ref x, w1, w2, w3, w4] st t I L R Q = WP V 34 14 [.ref x, w1, w2, w3, w4] (.ref x :: st) t I L R Q := wp_go rfl
theorem i34_14 {k : Nat} (h1 : k < t) (h2 : m_ob k 2 = true) : WP V 34 14 ls (.ref k :: st) t I L R Q = WP V 34 15 ls (m_rv (R k 7) :: st) t I L R Q := wp_getR rfl (by decide) h1 h2
theorem i34_15  : WP V 34 15 ls st t I L R Q = WP V 34 16 ls (.int (nI 0) :: st) t I L R Q := wp_go rfl
theorem i34_16 {x0 : Int32} {x1 : Nat}  : WP V 34 16 ls [.int x0, .ref x1] t I L R Q = WPC V 196 [.ref x1, .int x0] 34 17 ls [] t I L R Q := wp_cls (wp_ics rfl (by decide)) (by decide) (Nat.le_of_ble_eq_true rfl) rfl rfl (Nat.le_of_ble_eq_true rfl) (Nat.le_of_ble_eq_true rfl)
theorem i34_17 {w1 w2 w3 w4 : Value} {x : Nat} : WP V 34 17 [.ref x, w1, w2, w3, w4] st t I L R Q = WP V 34 18 [.ref x, w1, w2, w3, w4] (.ref x :: st) t I L R Q := wp_go rfl
theorem i34_18  : WP V 34 18 ls st t I L R Q = WP V 34 19 ls (.int (nI 0) :: st) t I L R Q := wp_go rfl
theorem i34_19 {k : Nat} {x : Int32} (h1 : k < t) (h2 : m_ob k 2 = true) : WP V 34 19 ls (.int x :: .ref k :: st) t I L R Q = WP V 34 20 ls st t (m_sc I k (m_sc (I k) 8 x)) L R Q := wp_putI rfl (by decide) h1 h2
theorem i34_20 {w1 w2 w3 w4 : Value} {x : Nat} : WP V 34 20 [.ref x, w1, w2, w3, w4] st t I L R Q = WP V 34 21 [.ref x, w1, w2, w3, w4] (.ref x :: st) t I L R Q := wp_go rfl
theorem i34_21 {w0 w2 w3 w4 : Value} {x : Int32} : WP V 34 21 [w0, .int x, w2, w3, w4] st t I L R Q = WP V 34 22 [w0, .int x, w2, w3, w4] (.int x :: st) t I L R Q := wp_go rfl
theorem i34_22 {x0 : Int32} {x1 : Nat}  (h1 : x1 < t) (h2 : m_ob x1 2 = true) : WP V 34 22 ls [.int x0, .ref x1] t I L R Q = WPC V 35 [.ref x1, .int x0] 34 23 ls [] t I L R Q := wp_cls (wp_icv rfl rfl h1 h2) (by decide) (Nat.le_of_ble_eq_true rfl) rfl rfl (Nat.le_of_ble_eq_true rfl) (Nat.le_of_ble_eq_true rfl)
theorem i34_23 {p : Int32} {w0 w2 w3 w4 : Value} {x : Int32} : WP V 34 23 [w0, .int p, w2, w3, w4] (.int x :: st) t I L R Q = WP V 34 24 [w0, .int p, .int x, w3, w4] st t I L R Q := wp_go rfl
theorem i34_24  : WP V 34 24 ls st t I L R Q = WP V 34 25 ls (.int (nI 0) :: st) t I L R Q := wp_go rfl
theorem i34_25 {p : Int32} {w0 w1 w3 w4 : Value} {x : Int32} : WP V 34 25 [w0, w1, .int p, w3, w4] (.int x :: st) t I L R Q = WP V 34 26 [w0, w1, .int p, .int x, w4] st t I L R Q := wp_go rfl
theorem i34_26 {w0 w1 w2 w4 : Value} {x : Int32} : WP V 34 26 [w0, w1, w2, .int x, w4] st t I L R Q = WP V 34 27 [w0, w1, w2, .int x, w4] (.int x :: st) t I L R Q := wp_go rfl
theorem i34_27 {w0 w2 w3 w4 : Value} {x : Int32} : WP V 34 27 [w0, .int x, w2, w3, w4] st t I L R Q = WP V 34 28 [w0, .int x, w2, w3, w4] (.int x :: st) t I L R Q := wp_go rfl
theorem i34_28 {x y : Int32} : WP V 34 28 ls (.int y :: .int x :: st) t I L R Q = if y ≤ x then WP V 34 81 ls st t I L R Q else WP V 34 29 ls st t I L R Q := wp_br (c := m_cc .ge x y) rfl rfl
theorem i34_29 {w0 w1 w2 w4 : Value} {x : Int32} : WP V 34 29 [w0, w1, w2, .int x, w4] st t I L R Q = WP V 34 30 [w0, w1, w2, .int x, w4] (.int x :: st) t I L R Q := wp_go rfl
theorem i34_30 {w1 w2 w3 w4 : Value} {x : Nat} : WP V 34 30 [.ref x, w1, w2, w3, w4] st t I L R Q = WP V 34 31 [.ref x, w1, w2, w3, w4] (.ref x :: st) t I L R Q := wp_go rfl
theorem i34_31 {k : Nat} (h1 : k < t) (h2 : m_ob k 2 = true) : WP V 34 31 ls (.ref k :: st) t I L R Q = WP V 34 32 ls (.int (I k 8) :: st) t I L R Q := wp_getI rfl (by decide) h1 h2
theorem i34_32 {x y : Int32} : WP V 34 32 ls (.int y :: .int x :: st) t I L R Q = if y ≤ x then WP V 34 81 ls st t I L R Q else WP V 34 33 ls st t I L R Q := wp_br (c := m_cc .ge x y) rfl rfl
theorem i34_33 {w0 w1 w3 w4 : Value} {x : Int32} : WP V 34 33 [w0, w1, .int x, w3, w4] st t I L R Q = WP V 34 34 [w0, w1, .int x, w3, w4] (.int x :: st) t I L R Q := wp_go rfl
theorem i34_34 {x : Int32} : WP V 34 34 ls (.int x :: st) t I L R Q = if x = nI 0 then WP V 34 81 ls st t I L R Q else WP V 34 35 ls st t I L R Q := wp_br (c := m_cc .eq x 0) rfl rfl
theorem i34_35 {w1 w2 w3 w4 : Value} {x : Nat} : WP V 34 35 [.ref x, w1, w2, w3, w4] st t I L R Q = WP V 34 36 [.ref x, w1, w2, w3, w4] (.ref x :: st) t I L R Q := wp_go rfl
theorem i34_36 {k : Nat} (h1 : k < t) (h2 : m_ob k 2 = true) : WP V 34 36 ls (.ref k :: st) t I L R Q = WP V 34 37 ls (m_rv (R k 6) :: st) t I L R Q := wp_getR rfl (by decide) h1 h2
theorem i34_37 {w0 w1 w2 w4 : Value} {x : Int32} : WP V 34 37 [w0, w1, w2, .int x, w4] st t I L R Q = WP V 34 38 [w0, w1, w2, .int x, w4] (.int x :: st) t I L R Q := wp_go rfl
theorem i34_38  : WP V 34 38 ls st t I L R Q = WP V 34 39 ls (.int (nI 1) :: st) t I L R Q := wp_go rfl
theorem i34_39 {k j : Nat} {x : Int32} (h2 : m_ar k 3 400 = true) (h1 : k < t) (h3 : j < 400) : WP V 34 39 ls (.int x :: .int (nI j) :: .ref k :: st) t I L R Q = WP V 34 40 ls st t (m_sc I k (m_sc (I k) j (x &&& 1))) L R Q := wp_bastore rfl (by decide) h1 h2 h3
theorem i34_40  : WP V 34 40 ls st t I L R Q = WP V 34 41 ls (.int (nI 0) :: st) t I L R Q := wp_go rfl
theorem i34_41 {p : Int32} {w0 w1 w2 w4 : Value} {x : Int32} : WP V 34 41 [w0, w1, w2, .int p, w4] (.int x :: st) t I L R Q = WP V 34 42 [w0, w1, w2, .int p, .int x] st t I L R Q := wp_go rfl
theorem i34_42 {w0 w1 w2 w3 : Value} {x : Int32} : WP V 34 42 [w0, w1, w2, w3, .int x] st t I L R Q = WP V 34 43 [w0, w1, w2, w3, .int x] (.int x :: st) t I L R Q := wp_go rfl
theorem i34_43  : WP V 34 43 ls st t I L R Q = WP V 34 44 ls (.int (nI 3) :: st) t I L R Q := wp_go rfl
theorem i34_44 {x y : Int32} : WP V 34 44 ls (.int y :: .int x :: st) t I L R Q = if y ≤ x then WP V 34 79 ls st t I L R Q else WP V 34 45 ls st t I L R Q := wp_br (c := m_cc .ge x y) rfl rfl
theorem i34_45 {w0 w1 w3 w4 : Value} {x : Int32} : WP V 34 45 [w0, w1, .int x, w3, w4] st t I L R Q = WP V 34 46 [w0, w1, .int x, w3, w4] (.int x :: st) t I L R Q := wp_go rfl
theorem i34_46 {x : Int32} : WP V 34 46 ls (.int x :: st) t I L R Q = if x = nI 0 then WP V 34 79 ls st t I L R Q else WP V 34 47 ls st t I L R Q := wp_br (c := m_cc .eq x 0) rfl rfl
theorem i34_47 {w1 w2 w3 w4 : Value} {x : Nat} : WP V 34 47 [.ref x, w1, w2, w3, w4] st t I L R Q = WP V 34 48 [.ref x, w1, w2, w3, w4] (.ref x :: st) t I L R Q := wp_go rfl
theorem i34_48 {k : Nat} (h1 : k < t) (h2 : m_ob k 2 = true) : WP V 34 48 ls (.ref k :: st) t I L R Q = WP V 34 49 ls (m_rv (R k 4) :: st) t I L R Q := wp_getR rfl (by decide) h1 h2
theorem i34_49 {w0 w1 w2 w4 : Value} {x : Int32} : WP V 34 49 [w0, w1, w2, .int x, w4] st t I L R Q = WP V 34 50 [w0, w1, w2, .int x, w4] (.int x :: st) t I L R Q := wp_go rfl
theorem i34_50  : WP V 34 50 ls st t I L R Q = WP V 34 51 ls (.int (nI 581) :: st) t I L R Q := wp_go rfl
theorem i34_51 {x y : Int32} : WP V 34 51 ls (.int y :: .int x :: st) t I L R Q = WP V 34 52 ls (.int (x * y) :: st) t I L R Q := wp_go rfl
theorem i34_52 {w1 w2 w3 w4 : Value} {x : Nat} : WP V 34 52 [.ref x, w1, w2, w3, w4] st t I L R Q = WP V 34 53 [.ref x, w1, w2, w3, w4] (.ref x :: st) t I L R Q := wp_go rfl
theorem i34_53 {k : Nat} (h1 : k < t) (h2 : m_ob k 2 = true) : WP V 34 53 ls (.ref k :: st) t I L R Q = WP V 34 54 ls (m_rv (R k 2) :: st) t I L R Q := wp_getR rfl (by decide) h1 h2
theorem i34_54  : WP V 34 54 ls st t I L R Q = WP V 34 55 ls (.int (nI 0) :: st) t I L R Q := wp_go rfl
theorem i34_55  : WP V 34 55 ls st t I L R Q = WP V 34 56 ls (.int (nI 581) :: st) t I L R Q := wp_go rfl
theorem i34_56 {s d sp dp cnt : Nat} (h3 : m_ar s 2 232400 = true) (h4 : m_ar d 2 581 = true) (h1 : s < t) (h2 : d < t) (h5 : sp + cnt ≤ 232400) (h6 : dp + cnt ≤ 581) : WP V 34 56 ls [.int (nI cnt), .int (nI dp), .ref d, .int (nI sp), .ref s] t I L R Q = WP V 34 57 ls [] t (m_sc I d (va_cpy (I s) (I d) sp dp cnt)) L R Q := wp_copyi rfl (by decide) (by decide) h1 h2 h3 h4 h5 h6 (by decide)
theorem i34_57 {w1 w2 w3 w4 : Value} {x : Nat} : WP V 34 57 [.ref x, w1, w2, w3, w4] st t I L R Q = WP V 34 58 [.ref x, w1, w2, w3, w4] (.ref x :: st) t I L R Q := wp_go rfl
theorem i34_58 {k : Nat} (h1 : k < t) (h2 : m_ob k 2 = true) : WP V 34 58 ls (.ref k :: st) t I L R Q = WP V 34 59 ls (m_rv (R k 0) :: st) t I L R Q := wp_getR rfl (by decide) h1 h2
theorem i34_59 {w0 w1 w2 w3 : Value} {x : Int32} : WP V 34 59 [w0, w1, w2, w3, .int x] st t I L R Q = WP V 34 60 [w0, w1, w2, w3, .int x] (.int x :: st) t I L R Q := wp_go rfl
theorem i34_60 {x0 : Int32} {x1 : Nat}  (h1 : x1 < t) (h2 : m_ob x1 3 = true) : WP V 34 60 ls [.int x0, .ref x1] t I L R Q = WPC V 50 [.ref x1, .int x0] 34 61 ls [] t I L R Q := wp_cls (wp_icv rfl rfl h1 h2) (by decide) (Nat.le_of_ble_eq_true rfl) rfl rfl (Nat.le_of_ble_eq_true rfl) (Nat.le_of_ble_eq_true rfl)
theorem i34_61 {x : Int32} : WP V 34 61 ls (.int x :: st) t I L R Q = if x = nI 0 then WP V 34 77 ls st t I L R Q else WP V 34 62 ls st t I L R Q := wp_br (c := m_cc .eq x 0) rfl rfl
theorem i34_62 {w1 w2 w3 w4 : Value} {x : Nat} : WP V 34 62 [.ref x, w1, w2, w3, w4] st t I L R Q = WP V 34 63 [.ref x, w1, w2, w3, w4] (.ref x :: st) t I L R Q := wp_go rfl
theorem i34_63 {k : Nat} (h1 : k < t) (h2 : m_ob k 2 = true) : WP V 34 63 ls (.ref k :: st) t I L R Q = WP V 34 64 ls (m_rv (R k 1) :: st) t I L R Q := wp_getR rfl (by decide) h1 h2
theorem i34_64 {w0 w1 w2 w3 : Value} {x : Int32} : WP V 34 64 [w0, w1, w2, w3, .int x] st t I L R Q = WP V 34 65 [w0, w1, w2, w3, .int x] (.int x :: st) t I L R Q := wp_go rfl
theorem i34_65 {x0 : Int32} {x1 : Nat}  (h1 : x1 < t) (h2 : m_ob x1 6 = true) : WP V 34 65 ls [.int x0, .ref x1] t I L R Q = WPC V 70 [.ref x1, .int x0] 34 66 ls [] t I L R Q := wp_cls (wp_icv rfl rfl h1 h2) (by decide) (Nat.le_of_ble_eq_true rfl) rfl rfl (Nat.le_of_ble_eq_true rfl) (Nat.le_of_ble_eq_true rfl)
theorem i34_66 {x : Int32} : WP V 34 66 ls (.int x :: st) t I L R Q = if x = nI 0 then WP V 34 67 ls st t I L R Q else WP V 34 68 ls st t I L R Q := wp_brn (c := m_cc .ne x 0) rfl rfl
theorem i34_67  : WP V 34 67 ls st t I L R Q = WP V 34 77 ls st t I L R Q := wp_go rfl
theorem i34_68 {w1 w2 w3 w4 : Value} {x : Nat} : WP V 34 68 [.ref x, w1, w2, w3, w4] st t I L R Q = WP V 34 69 [.ref x, w1, w2, w3, w4] (.ref x :: st) t I L R Q := wp_go rfl
theorem i34_69 {k : Nat} (h1 : k < t) (h2 : m_ob k 2 = true) : WP V 34 69 ls (.ref k :: st) t I L R Q = WP V 34 70 ls (m_rv (R k 6) :: st) t I L R Q := wp_getR rfl (by decide) h1 h2
theorem i34_70 {w0 w1 w2 w4 : Value} {x : Int32} : WP V 34 70 [w0, w1, w2, .int x, w4] st t I L R Q = WP V 34 71 [w0, w1, w2, .int x, w4] (.int x :: st) t I L R Q := wp_go rfl
theorem i34_71  : WP V 34 71 ls st t I L R Q = WP V 34 72 ls (.int (nI 0) :: st) t I L R Q := wp_go rfl
theorem i34_72 {k j : Nat} {x : Int32} (h2 : m_ar k 3 400 = true) (h1 : k < t) (h3 : j < 400) : WP V 34 72 ls (.int x :: .int (nI j) :: .ref k :: st) t I L R Q = WP V 34 73 ls st t (m_sc I k (m_sc (I k) j (x &&& 1))) L R Q := wp_bastore rfl (by decide) h1 h2 h3
theorem i34_73 {w1 w2 w3 w4 : Value} {x : Nat} : WP V 34 73 [.ref x, w1, w2, w3, w4] st t I L R Q = WP V 34 74 [.ref x, w1, w2, w3, w4] (.ref x :: st) t I L R Q := wp_go rfl
theorem i34_74 {w0 w2 w3 w4 : Value} {x : Int32} : WP V 34 74 [w0, .int x, w2, w3, w4] st t I L R Q = WP V 34 75 [w0, .int x, w2, w3, w4] (.int x :: st) t I L R Q := wp_go rfl
theorem i34_75 {x0 : Int32} {x1 : Nat}  (h1 : x1 < t) (h2 : m_ob x1 2 = true) : WP V 34 75 ls [.int x0, .ref x1] t I L R Q = WPC V 35 [.ref x1, .int x0] 34 76 ls [] t I L R Q := wp_cls (wp_icv rfl rfl h1 h2) (by decide) (Nat.le_of_ble_eq_true rfl) rfl rfl (Nat.le_of_ble_eq_true rfl) (Nat.le_of_ble_eq_true rfl)
theorem i34_76 {p : Int32} {w0 w2 w3 w4 : Value} {x : Int32} : WP V 34 76 [w0, .int p, w2, w3, w4] (.int x :: st) t I L R Q = WP V 34 77 [w0, .int p, .int x, w3, w4] st t I L R Q := wp_go rfl
theorem i34_77 {p : Int32} {w0 w1 w2 : Value} {x : Int32} : WP V 34 77 [w0, w1, w2, .int p, .int x] st t I L R Q = WP V 34 78 [w0, w1, w2, .int p, .int (x + (nI 1))] st t I L R Q := wp_go rfl
theorem i34_78  : WP V 34 78 ls st t I L R Q = WP V 34 42 ls st t I L R Q := wp_go rfl
theorem i34_79 {p : Int32} {w0 w1 w4 : Value} {x : Int32} : WP V 34 79 [w0, w1, .int p, .int x, w4] st t I L R Q = WP V 34 80 [w0, w1, .int p, .int (x + (nI 1)), w4] st t I L R Q := wp_go rfl
theorem i34_80  : WP V 34 80 ls st t I L R Q = WP V 34 26 ls st t I L R Q := wp_go rfl
theorem i34_81 {w1 w2 w3 w4 : Value} {x : Nat} : WP V 34 81 [.ref x, w1, w2, w3, w4] st t I L R Q = WP V 34 82 [.ref x, w1, w2, w3, w4] (.ref x :: st) t I L R Q := wp_go rfl
theorem i34_82 {k : Nat} (h1 : k < t) (h2 : m_ob k 2 = true) : WP V 34 82 ls (.ref k :: st) t I L R Q = WP V 34 83 ls (m_rv (R k 0) :: st) t I L R Q := wp_getR rfl (by decide) h1 h2
theorem i34_83 {k : Nat} (h1 : k < t) (h2 : m_ob k 3 = true) : WP V 34 83 ls (.ref k :: st) t I L R Q = WP V 34 84 ls (m_rv (R k 3) :: st) t I L R Q := wp_getR rfl (by decide) h1 h2
theorem i34_84  : WP V 34 84 ls st t I L R Q = WP V 34 85 ls (.int (nI 0) :: st) t I L R Q := wp_go rfl
theorem i34_85 {k : Nat} {x : Int32} (h1 : k < t) (h2 : m_ob k 4 = true) (h3 : m_01 x = true) : WP V 34 85 ls (.int x :: .ref k :: st) t I L R Q = WP V 34 86 ls st t (m_sc I k (m_sc (I k) 3 x)) L R Q := wp_putZ rfl (by decide) h1 h2 h3
theorem i34_86 {w1 w2 w3 w4 : Value} {x : Nat} : WP V 34 86 [.ref x, w1, w2, w3, w4] st t I L R Q = WP V 34 87 [.ref x, w1, w2, w3, w4] (.ref x :: st) t I L R Q := wp_go rfl
theorem i34_87 {k : Nat} (h1 : k < t) (h2 : m_ob k 2 = true) : WP V 34 87 ls (.ref k :: st) t I L R Q = WP V 34 88 ls (m_rv (R k 3) :: st) t I L R Q := wp_getR rfl (by decide) h1 h2
theorem i34_88  : WP V 34 88 ls st t I L R Q = WP V 34 89 ls (.int (nI 0) :: st) t I L R Q := wp_go rfl
theorem i34_89 {w1 w2 w3 w4 : Value} {x : Nat} : WP V 34 89 [.ref x, w1, w2, w3, w4] st t I L R Q = WP V 34 90 [.ref x, w1, w2, w3, w4] (.ref x :: st) t I L R Q := wp_go rfl
theorem i34_90 {k : Nat} (h1 : k < t) (h2 : m_ob k 2 = true) : WP V 34 90 ls (.ref k :: st) t I L R Q = WP V 34 91 ls (m_rv (R k 2) :: st) t I L R Q := wp_getR rfl (by decide) h1 h2
theorem i34_91  : WP V 34 91 ls st t I L R Q = WP V 34 92 ls (.int (nI 0) :: st) t I L R Q := wp_go rfl
theorem i34_92  : WP V 34 92 ls st t I L R Q = WP V 34 93 ls (.int (nI 581) :: st) t I L R Q := wp_go rfl
theorem i34_93 {s d sp dp cnt : Nat} (h3 : m_ar s 2 581 = true) (h4 : m_ar d 2 581 = true) (h1 : s < t) (h2 : d < t) (h5 : sp + cnt ≤ 581) (h6 : dp + cnt ≤ 581) : WP V 34 93 ls [.int (nI cnt), .int (nI dp), .ref d, .int (nI sp), .ref s] t I L R Q = WP V 34 94 ls [] t (m_sc I d (va_cpy (I s) (I d) sp dp cnt)) L R Q := wp_copyi rfl (by decide) (by decide) h1 h2 h3 h4 h5 h6 (by decide)
theorem i34_94 {w0 w1 w3 w4 : Value} {x : Int32} : WP V 34 94 [w0, w1, .int x, w3, w4] st t I L R Q = WP V 34 95 [w0, w1, .int x, w3, w4] (.int x :: st) t I L R Q := wp_go rfl
theorem i34_95 {x : Int32} : WP V 34 95 ls (.int x :: st) t I L R Q = if x = nI 0 then WP V 34 96 ls st t I L R Q else WP V 34 100 ls st t I L R Q := wp_brn (c := m_cc .ne x 0) rfl rfl
theorem i34_96  : WP V 34 96 ls st t I L R Q = WP V 34 97 ls (.int (-1) :: st) t I L R Q := wp_go rfl
theorem i34_97 {w0 w2 w3 w4 : Value} {x : Int32} : WP V 34 97 [w0, .int x, w2, w3, w4] st t I L R Q = WP V 34 98 [w0, .int x, w2, w3, w4] (.int x :: st) t I L R Q := wp_go rfl
theorem i34_98 {x y : Int32} : WP V 34 98 ls (.int y :: .int x :: st) t I L R Q = WP V 34 99 ls (.int (x - y) :: st) t I L R Q := wp_go rfl
theorem i34_99 {x : Int32} : WP V 34 99 ls [.int x] t I L R Q = Q (some (.int x)) t I L R := wp_rti rfl rfl
theorem i34_100 {w1 w2 w3 w4 : Value} {x : Nat} : WP V 34 100 [.ref x, w1, w2, w3, w4] st t I L R Q = WP V 34 101 [.ref x, w1, w2, w3, w4] (.ref x :: st) t I L R Q := wp_go rfl
theorem i34_101 {x0 : Nat}  (h1 : x0 < t) (h2 : m_ob x0 2 = true) : WP V 34 101 ls [.ref x0] t I L R Q = WPC V 41 [.ref x0] 34 102 ls [] t I L R Q := wp_cls (wp_icv rfl rfl h1 h2) (by decide) (Nat.le_of_ble_eq_true rfl) rfl rfl (Nat.le_of_ble_eq_true rfl) (Nat.le_of_ble_eq_true rfl)
theorem i34_102 {w1 w2 w3 w4 : Value} {x : Nat} : WP V 34 102 [.ref x, w1, w2, w3, w4] st t I L R Q = WP V 34 103 [.ref x, w1, w2, w3, w4] (.ref x :: st) t I L R Q := wp_go rfl
theorem i34_103 {k : Nat} (h1 : k < t) (h2 : m_ob k 2 = true) : WP V 34 103 ls (.ref k :: st) t I L R Q = WP V 34 104 ls (.int (I k 8) :: st) t I L R Q := wp_getI rfl (by decide) h1 h2
theorem i34_104 {x : Int32} : WP V 34 104 ls [.int x] t I L R Q = Q (some (.int x)) t I L R := wp_rti rfl rfl
-- TransactionCells$Explorer.meet(I)Z
theorem i35_0 {w1 w2 w3 w4 w5 : Value} {x : Nat} : WP V 35 0 [.ref x, w1, w2, w3, w4, w5] st t I L R Q = WP V 35 1 [.ref x, w1, w2, w3, w4, w5] (.ref x :: st) t I L R Q := wp_go rfl
theorem i35_1 {x0 : Nat}  (h1 : x0 < t) (h2 : m_ob x0 2 = true) : WP V 35 1 ls [.ref x0] t I L R Q = WPC V 36 [.ref x0] 35 2 ls [] t I L R Q := wp_cls (wp_icv rfl rfl h1 h2) (by decide) (Nat.le_of_ble_eq_true rfl) rfl rfl (Nat.le_of_ble_eq_true rfl) (Nat.le_of_ble_eq_true rfl)
theorem i35_2 {w1 w2 w3 w4 w5 : Value} {x : Nat} : WP V 35 2 [.ref x, w1, w2, w3, w4, w5] st t I L R Q = WP V 35 3 [.ref x, w1, w2, w3, w4, w5] (.ref x :: st) t I L R Q := wp_go rfl
theorem i35_3 {x0 : Nat}  (h1 : x0 < t) (h2 : m_ob x0 2 = true) : WP V 35 3 ls [.ref x0] t I L R Q = WPC V 38 [.ref x0] 35 4 ls [] t I L R Q := wp_cls (wp_icv rfl rfl h1 h2) (by decide) (Nat.le_of_ble_eq_true rfl) rfl rfl (Nat.le_of_ble_eq_true rfl) (Nat.le_of_ble_eq_true rfl)
theorem i35_4 {p : Int32} {w0 w2 w3 w4 w5 : Value} {x : Int32} : WP V 35 4 [w0, .int p, w2, w3, w4, w5] (.int x :: st) t I L R Q = WP V 35 5 [w0, .int p, .int x, w3, w4, w5] st t I L R Q := wp_go rfl
theorem i35_5 {w0 w1 w3 w4 w5 : Value} {x : Int32} : WP V 35 5 [w0, w1, .int x, w3, w4, w5] st t I L R Q = WP V 35 6 [w0, w1, .int x, w3, w4, w5] (.int x :: st) t I L R Q := wp_go rfl
theorem i35_6  : WP V 35 6 ls st t I L R Q = WP V 35 7 ls (.int (nI 1023) :: st) t I L R Q := wp_go rfl
theorem i35_7 {x y : Int32} : WP V 35 7 ls (.int y :: .int x :: st) t I L R Q = WP V 35 8 ls (.int (x &&& y) :: st) t I L R Q := wp_go rfl
theorem i35_8 {p : Int32} {w0 w1 w3 w4 w5 : Value} {x : Int32} : WP V 35 8 [w0, w1, .int p, w3, w4, w5] (.int x :: st) t I L R Q = WP V 35 9 [w0, w1, .int p, .int x, w4, w5] st t I L R Q := wp_go rfl
theorem i35_9  : WP V 35 9 ls st t I L R Q = WP V 35 10 ls (.int (nI 0) :: st) t I L R Q := wp_go rfl
theorem i35_10 {p : Int32} {w0 w1 w2 w4 w5 : Value} {x : Int32} : WP V 35 10 [w0, w1, w2, .int p, w4, w5] (.int x :: st) t I L R Q = WP V 35 11 [w0, w1, w2, .int p, .int x, w5] st t I L R Q := wp_go rfl
theorem i35_11 {w0 w1 w2 w3 w5 : Value} {x : Int32} : WP V 35 11 [w0, w1, w2, w3, .int x, w5] st t I L R Q = WP V 35 12 [w0, w1, w2, w3, .int x, w5] (.int x :: st) t I L R Q := wp_go rfl
theorem i35_12  : WP V 35 12 ls st t I L R Q = WP V 35 13 ls (.int (nI 1024) :: st) t I L R Q := wp_go rfl
theorem i35_13 {x y : Int32} : WP V 35 13 ls (.int y :: .int x :: st) t I L R Q = if y ≤ x then WP V 35 48 ls st t I L R Q else WP V 35 14 ls st t I L R Q := wp_br (c := m_cc .ge x y) rfl rfl
theorem i35_14 {w1 w2 w3 w4 w5 : Value} {x : Nat} : WP V 35 14 [.ref x, w1, w2, w3, w4, w5] st t I L R Q = WP V 35 15 [.ref x, w1, w2, w3, w4, w5] (.ref x :: st) t I L R Q := wp_go rfl
theorem i35_15 {k : Nat} (h1 : k < t) (h2 : m_ob k 2 = true) : WP V 35 15 ls (.ref k :: st) t I L R Q = WP V 35 16 ls (m_rv (R k 7) :: st) t I L R Q := wp_getR rfl (by decide) h1 h2
theorem i35_16 {w0 w1 w2 w4 w5 : Value} {x : Int32} : WP V 35 16 [w0, w1, w2, .int x, w4, w5] st t I L R Q = WP V 35 17 [w0, w1, w2, .int x, w4, w5] (.int x :: st) t I L R Q := wp_go rfl
theorem i35_17 {k j : Nat} (h2 : m_ar k 2 1024 = true) (h1 : k < t) (h3 : j < 1024) : WP V 35 17 ls (.int (nI j) :: .ref k :: st) t I L R Q = WP V 35 18 ls (.int (I k j) :: st) t I L R Q := wp_iaload rfl (by decide) h1 h2 h3
theorem i35_18 {x : Int32} : WP V 35 18 ls (.int x :: st) t I L R Q = if x = nI 0 then WP V 35 48 ls st t I L R Q else WP V 35 19 ls st t I L R Q := wp_br (c := m_cc .eq x 0) rfl rfl
theorem i35_19 {w1 w2 w3 w4 w5 : Value} {x : Nat} : WP V 35 19 [.ref x, w1, w2, w3, w4, w5] st t I L R Q = WP V 35 20 [.ref x, w1, w2, w3, w4, w5] (.ref x :: st) t I L R Q := wp_go rfl
theorem i35_20 {k : Nat} (h1 : k < t) (h2 : m_ob k 2 = true) : WP V 35 20 ls (.ref k :: st) t I L R Q = WP V 35 21 ls (m_rv (R k 7) :: st) t I L R Q := wp_getR rfl (by decide) h1 h2
theorem i35_21 {w0 w1 w2 w4 w5 : Value} {x : Int32} : WP V 35 21 [w0, w1, w2, .int x, w4, w5] st t I L R Q = WP V 35 22 [w0, w1, w2, .int x, w4, w5] (.int x :: st) t I L R Q := wp_go rfl
theorem i35_22 {k j : Nat} (h2 : m_ar k 2 1024 = true) (h1 : k < t) (h3 : j < 1024) : WP V 35 22 ls (.int (nI j) :: .ref k :: st) t I L R Q = WP V 35 23 ls (.int (I k j) :: st) t I L R Q := wp_iaload rfl (by decide) h1 h2 h3
theorem i35_23  : WP V 35 23 ls st t I L R Q = WP V 35 24 ls (.int (nI 1) :: st) t I L R Q := wp_go rfl
theorem i35_24 {x y : Int32} : WP V 35 24 ls (.int y :: .int x :: st) t I L R Q = WP V 35 25 ls (.int (x - y) :: st) t I L R Q := wp_go rfl
theorem i35_25 {p : Int32} {w0 w1 w2 w3 w5 : Value} {x : Int32} : WP V 35 25 [w0, w1, w2, w3, .int p, w5] (.int x :: st) t I L R Q = WP V 35 26 [w0, w1, w2, w3, .int p, .int x] st t I L R Q := wp_go rfl
theorem i35_26 {w1 w2 w3 w4 w5 : Value} {x : Nat} : WP V 35 26 [.ref x, w1, w2, w3, w4, w5] st t I L R Q = WP V 35 27 [.ref x, w1, w2, w3, w4, w5] (.ref x :: st) t I L R Q := wp_go rfl
theorem i35_27 {k : Nat} (h1 : k < t) (h2 : m_ob k 2 = true) : WP V 35 27 ls (.ref k :: st) t I L R Q = WP V 35 28 ls (m_rv (R k 5) :: st) t I L R Q := wp_getR rfl (by decide) h1 h2
theorem i35_28 {w0 w1 w2 w3 w4 : Value} {x : Int32} : WP V 35 28 [w0, w1, w2, w3, w4, .int x] st t I L R Q = WP V 35 29 [w0, w1, w2, w3, w4, .int x] (.int x :: st) t I L R Q := wp_go rfl
theorem i35_29 {k j : Nat} (h2 : m_ar k 2 400 = true) (h1 : k < t) (h3 : j < 400) : WP V 35 29 ls (.int (nI j) :: .ref k :: st) t I L R Q = WP V 35 30 ls (.int (I k j) :: st) t I L R Q := wp_iaload rfl (by decide) h1 h2 h3
theorem i35_30 {w0 w1 w3 w4 w5 : Value} {x : Int32} : WP V 35 30 [w0, w1, .int x, w3, w4, w5] st t I L R Q = WP V 35 31 [w0, w1, .int x, w3, w4, w5] (.int x :: st) t I L R Q := wp_go rfl
theorem i35_31 {x y : Int32} : WP V 35 31 ls (.int y :: .int x :: st) t I L R Q = if x = y then WP V 35 32 ls st t I L R Q else WP V 35 40 ls st t I L R Q := wp_brn (c := m_cc .ne x y) rfl rfl
theorem i35_32 {w1 w2 w3 w4 w5 : Value} {x : Nat} : WP V 35 32 [.ref x, w1, w2, w3, w4, w5] st t I L R Q = WP V 35 33 [.ref x, w1, w2, w3, w4, w5] (.ref x :: st) t I L R Q := wp_go rfl
theorem i35_33 {w0 w1 w2 w3 w4 : Value} {x : Int32} : WP V 35 33 [w0, w1, w2, w3, w4, .int x] st t I L R Q = WP V 35 34 [w0, w1, w2, w3, w4, .int x] (.int x :: st) t I L R Q := wp_go rfl
theorem i35_34  : WP V 35 34 ls st t I L R Q = WP V 35 35 ls (.int (nI 581) :: st) t I L R Q := wp_go rfl
theorem i35_35 {x y : Int32} : WP V 35 35 ls (.int y :: .int x :: st) t I L R Q = WP V 35 36 ls (.int (x * y) :: st) t I L R Q := wp_go rfl
theorem i35_36 {x0 : Int32} {x1 : Nat}  (h1 : x1 < t) (h2 : m_ob x1 2 = true) : WP V 35 36 ls [.int x0, .ref x1] t I L R Q = WPC V 39 [.ref x1, .int x0] 35 37 ls [] t I L R Q := wp_cls (wp_icv rfl rfl h1 h2) (by decide) (Nat.le_of_ble_eq_true rfl) rfl rfl (Nat.le_of_ble_eq_true rfl) (Nat.le_of_ble_eq_true rfl)
theorem i35_37 {x : Int32} : WP V 35 37 ls (.int x :: st) t I L R Q = if x = nI 0 then WP V 35 40 ls st t I L R Q else WP V 35 38 ls st t I L R Q := wp_br (c := m_cc .eq x 0) rfl rfl
theorem i35_38  : WP V 35 38 ls st t I L R Q = WP V 35 39 ls (.int (nI 1) :: st) t I L R Q := wp_go rfl
theorem i35_39 {x : Int32} (h : m_01 x = true) : WP V 35 39 ls [.int x] t I L R Q = Q (some (.int x)) t I L R := wp_rtz rfl rfl h
theorem i35_40 {w0 w1 w2 w4 w5 : Value} {x : Int32} : WP V 35 40 [w0, w1, w2, .int x, w4, w5] st t I L R Q = WP V 35 41 [w0, w1, w2, .int x, w4, w5] (.int x :: st) t I L R Q := wp_go rfl
theorem i35_41  : WP V 35 41 ls st t I L R Q = WP V 35 42 ls (.int (nI 1) :: st) t I L R Q := wp_go rfl
theorem i35_42 {x y : Int32} : WP V 35 42 ls (.int y :: .int x :: st) t I L R Q = WP V 35 43 ls (.int (x + y) :: st) t I L R Q := wp_go rfl
theorem i35_43  : WP V 35 43 ls st t I L R Q = WP V 35 44 ls (.int (nI 1023) :: st) t I L R Q := wp_go rfl
theorem i35_44 {x y : Int32} : WP V 35 44 ls (.int y :: .int x :: st) t I L R Q = WP V 35 45 ls (.int (x &&& y) :: st) t I L R Q := wp_go rfl
theorem i35_45 {p : Int32} {w0 w1 w3 w4 w5 : Value} {x : Int32} : WP V 35 45 [w0, w1, .int p, w3, w4, w5] (.int x :: st) t I L R Q = WP V 35 46 [w0, w1, .int p, .int x, w4, w5] st t I L R Q := wp_go rfl
theorem i35_46 {p : Int32} {w0 w1 w2 w5 : Value} {x : Int32} : WP V 35 46 [w0, w1, w2, .int p, .int x, w5] st t I L R Q = WP V 35 47 [w0, w1, w2, .int p, .int (x + (nI 1)), w5] st t I L R Q := wp_go rfl
theorem i35_47  : WP V 35 47 ls st t I L R Q = WP V 35 11 ls st t I L R Q := wp_go rfl
theorem i35_48 {w1 w2 w3 w4 w5 : Value} {x : Nat} : WP V 35 48 [.ref x, w1, w2, w3, w4, w5] st t I L R Q = WP V 35 49 [.ref x, w1, w2, w3, w4, w5] (.ref x :: st) t I L R Q := wp_go rfl
theorem i35_49 {k : Nat} (h1 : k < t) (h2 : m_ob k 2 = true) : WP V 35 49 ls (.ref k :: st) t I L R Q = WP V 35 50 ls (.int (I k 8) :: st) t I L R Q := wp_getI rfl (by decide) h1 h2
theorem i35_50 {w0 w2 w3 w4 w5 : Value} {x : Int32} : WP V 35 50 [w0, .int x, w2, w3, w4, w5] st t I L R Q = WP V 35 51 [w0, .int x, w2, w3, w4, w5] (.int x :: st) t I L R Q := wp_go rfl
theorem i35_51 {x y : Int32} : WP V 35 51 ls (.int y :: .int x :: st) t I L R Q = if x < y then WP V 35 54 ls st t I L R Q else WP V 35 52 ls st t I L R Q := wp_br (c := m_cc .lt x y) rfl rfl
theorem i35_52  : WP V 35 52 ls st t I L R Q = WP V 35 53 ls (.int (nI 0) :: st) t I L R Q := wp_go rfl
theorem i35_53 {x : Int32} (h : m_01 x = true) : WP V 35 53 ls [.int x] t I L R Q = Q (some (.int x)) t I L R := wp_rtz rfl rfl h
theorem i35_54 {w1 w2 w3 w4 w5 : Value} {x : Nat} : WP V 35 54 [.ref x, w1, w2, w3, w4, w5] st t I L R Q = WP V 35 55 [.ref x, w1, w2, w3, w4, w5] (.ref x :: st) t I L R Q := wp_go rfl
theorem i35_55 {k : Nat} (h1 : k < t) (h2 : m_ob k 2 = true) : WP V 35 55 ls (.ref k :: st) t I L R Q = WP V 35 56 ls (m_rv (R k 2) :: st) t I L R Q := wp_getR rfl (by decide) h1 h2
theorem i35_56  : WP V 35 56 ls st t I L R Q = WP V 35 57 ls (.int (nI 0) :: st) t I L R Q := wp_go rfl
theorem i35_57 {w1 w2 w3 w4 w5 : Value} {x : Nat} : WP V 35 57 [.ref x, w1, w2, w3, w4, w5] st t I L R Q = WP V 35 58 [.ref x, w1, w2, w3, w4, w5] (.ref x :: st) t I L R Q := wp_go rfl
theorem i35_58 {k : Nat} (h1 : k < t) (h2 : m_ob k 2 = true) : WP V 35 58 ls (.ref k :: st) t I L R Q = WP V 35 59 ls (m_rv (R k 4) :: st) t I L R Q := wp_getR rfl (by decide) h1 h2
theorem i35_59 {w1 w2 w3 w4 w5 : Value} {x : Nat} : WP V 35 59 [.ref x, w1, w2, w3, w4, w5] st t I L R Q = WP V 35 60 [.ref x, w1, w2, w3, w4, w5] (.ref x :: st) t I L R Q := wp_go rfl
theorem i35_60 {k : Nat} (h1 : k < t) (h2 : m_ob k 2 = true) : WP V 35 60 ls (.ref k :: st) t I L R Q = WP V 35 61 ls (.int (I k 8) :: st) t I L R Q := wp_getI rfl (by decide) h1 h2
theorem i35_61  : WP V 35 61 ls st t I L R Q = WP V 35 62 ls (.int (nI 581) :: st) t I L R Q := wp_go rfl
theorem i35_62 {x y : Int32} : WP V 35 62 ls (.int y :: .int x :: st) t I L R Q = WP V 35 63 ls (.int (x * y) :: st) t I L R Q := wp_go rfl
theorem i35_63  : WP V 35 63 ls st t I L R Q = WP V 35 64 ls (.int (nI 581) :: st) t I L R Q := wp_go rfl
theorem i35_64 {s d sp dp cnt : Nat} (h3 : m_ar s 2 581 = true) (h4 : m_ar d 2 232400 = true) (h1 : s < t) (h2 : d < t) (h5 : sp + cnt ≤ 581) (h6 : dp + cnt ≤ 232400) : WP V 35 64 ls [.int (nI cnt), .int (nI dp), .ref d, .int (nI sp), .ref s] t I L R Q = WP V 35 65 ls [] t (m_sc I d (va_cpy (I s) (I d) sp dp cnt)) L R Q := wp_copyi rfl (by decide) (by decide) h1 h2 h3 h4 h5 h6 (by decide)
theorem i35_65 {w1 w2 w3 w4 w5 : Value} {x : Nat} : WP V 35 65 [.ref x, w1, w2, w3, w4, w5] st t I L R Q = WP V 35 66 [.ref x, w1, w2, w3, w4, w5] (.ref x :: st) t I L R Q := wp_go rfl
theorem i35_66 {k : Nat} (h1 : k < t) (h2 : m_ob k 2 = true) : WP V 35 66 ls (.ref k :: st) t I L R Q = WP V 35 67 ls (m_rv (R k 5) :: st) t I L R Q := wp_getR rfl (by decide) h1 h2
theorem i35_67 {w1 w2 w3 w4 w5 : Value} {x : Nat} : WP V 35 67 [.ref x, w1, w2, w3, w4, w5] st t I L R Q = WP V 35 68 [.ref x, w1, w2, w3, w4, w5] (.ref x :: st) t I L R Q := wp_go rfl
theorem i35_68 {k : Nat} (h1 : k < t) (h2 : m_ob k 2 = true) : WP V 35 68 ls (.ref k :: st) t I L R Q = WP V 35 69 ls (.int (I k 8) :: st) t I L R Q := wp_getI rfl (by decide) h1 h2
theorem i35_69 {w0 w1 w3 w4 w5 : Value} {x : Int32} : WP V 35 69 [w0, w1, .int x, w3, w4, w5] st t I L R Q = WP V 35 70 [w0, w1, .int x, w3, w4, w5] (.int x :: st) t I L R Q := wp_go rfl
theorem i35_70 {k j : Nat} {x : Int32} (h2 : m_ar k 2 400 = true) (h1 : k < t) (h3 : j < 400) : WP V 35 70 ls (.int x :: .int (nI j) :: .ref k :: st) t I L R Q = WP V 35 71 ls st t (m_sc I k (m_sc (I k) j x)) L R Q := wp_iastore rfl (by decide) h1 h2 h3
theorem i35_71 {w1 w2 w3 w4 w5 : Value} {x : Nat} : WP V 35 71 [.ref x, w1, w2, w3, w4, w5] st t I L R Q = WP V 35 72 [.ref x, w1, w2, w3, w4, w5] (.ref x :: st) t I L R Q := wp_go rfl
theorem i35_72 {k : Nat} (h1 : k < t) (h2 : m_ob k 2 = true) : WP V 35 72 ls (.ref k :: st) t I L R Q = WP V 35 73 ls (m_rv (R k 7) :: st) t I L R Q := wp_getR rfl (by decide) h1 h2
theorem i35_73 {w0 w1 w2 w4 w5 : Value} {x : Int32} : WP V 35 73 [w0, w1, w2, .int x, w4, w5] st t I L R Q = WP V 35 74 [w0, w1, w2, .int x, w4, w5] (.int x :: st) t I L R Q := wp_go rfl
theorem i35_74 {w1 w2 w3 w4 w5 : Value} {x : Nat} : WP V 35 74 [.ref x, w1, w2, w3, w4, w5] st t I L R Q = WP V 35 75 [.ref x, w1, w2, w3, w4, w5] (.ref x :: st) t I L R Q := wp_go rfl
theorem i35_75 {v0 : Nat} : WP V 35 75 ls (.ref v0 :: st) t I L R Q = WP V 35 76 ls (.ref v0 :: .ref v0 :: st) t I L R Q := wp_go rfl
theorem i35_76 {k : Nat} (h1 : k < t) (h2 : m_ob k 2 = true) : WP V 35 76 ls (.ref k :: st) t I L R Q = WP V 35 77 ls (.int (I k 8) :: st) t I L R Q := wp_getI rfl (by decide) h1 h2
theorem i35_77  : WP V 35 77 ls st t I L R Q = WP V 35 78 ls (.int (nI 1) :: st) t I L R Q := wp_go rfl
theorem i35_78 {x y : Int32} : WP V 35 78 ls (.int y :: .int x :: st) t I L R Q = WP V 35 79 ls (.int (x + y) :: st) t I L R Q := wp_go rfl
theorem i35_79 {v0 : Int32} {v1 : Nat} : WP V 35 79 ls (.int v0 :: .ref v1 :: st) t I L R Q = WP V 35 80 ls (.int v0 :: .ref v1 :: .int v0 :: st) t I L R Q := wp_go rfl
theorem i35_80 {k : Nat} {x : Int32} (h1 : k < t) (h2 : m_ob k 2 = true) : WP V 35 80 ls (.int x :: .ref k :: st) t I L R Q = WP V 35 81 ls st t (m_sc I k (m_sc (I k) 8 x)) L R Q := wp_putI rfl (by decide) h1 h2
theorem i35_81 {k j : Nat} {x : Int32} (h2 : m_ar k 2 1024 = true) (h1 : k < t) (h3 : j < 1024) : WP V 35 81 ls (.int x :: .int (nI j) :: .ref k :: st) t I L R Q = WP V 35 82 ls st t (m_sc I k (m_sc (I k) j x)) L R Q := wp_iastore rfl (by decide) h1 h2 h3
theorem i35_82  : WP V 35 82 ls st t I L R Q = WP V 35 83 ls (.int (nI 1) :: st) t I L R Q := wp_go rfl
theorem i35_83 {x : Int32} (h : m_01 x = true) : WP V 35 83 ls [.int x] t I L R Q = Q (some (.int x)) t I L R := wp_rtz rfl rfl h
-- TransactionCells$Explorer.rankAges()V
theorem i36_0 {w1 w2 w3 : Value} {x : Nat} : WP V 36 0 [.ref x, w1, w2, w3] st t I L R Q = WP V 36 1 [.ref x, w1, w2, w3] (.ref x :: st) t I L R Q := wp_go rfl
theorem i36_1  : WP V 36 1 ls st t I L R Q = WP V 36 2 ls (.int (nI 0) :: st) t I L R Q := wp_go rfl
theorem i36_2 {x0 : Int32} {x1 : Nat}  (h1 : x1 < t) (h2 : m_ob x1 2 = true) : WP V 36 2 ls [.int x0, .ref x1] t I L R Q = WPC V 37 [.ref x1, .int x0] 36 3 ls [] t I L R Q := wp_cls (wp_icv rfl rfl h1 h2) (by decide) (Nat.le_of_ble_eq_true rfl) rfl rfl (Nat.le_of_ble_eq_true rfl) (Nat.le_of_ble_eq_true rfl)
theorem i36_3 {p : Nat} {w1 w2 w3 : Value} {x : Int32} : WP V 36 3 [.ref p, w1, w2, w3] (.int x :: st) t I L R Q = WP V 36 4 [.ref p, .int x, w2, w3] st t I L R Q := wp_go rfl
theorem i36_4 {w1 w2 w3 : Value} {x : Nat} : WP V 36 4 [.ref x, w1, w2, w3] st t I L R Q = WP V 36 5 [.ref x, w1, w2, w3] (.ref x :: st) t I L R Q := wp_go rfl
theorem i36_5  : WP V 36 5 ls st t I L R Q = WP V 36 6 ls (.int (nI 1) :: st) t I L R Q := wp_go rfl
theorem i36_6 {x0 : Int32} {x1 : Nat}  (h1 : x1 < t) (h2 : m_ob x1 2 = true) : WP V 36 6 ls [.int x0, .ref x1] t I L R Q = WPC V 37 [.ref x1, .int x0] 36 7 ls [] t I L R Q := wp_cls (wp_icv rfl rfl h1 h2) (by decide) (Nat.le_of_ble_eq_true rfl) rfl rfl (Nat.le_of_ble_eq_true rfl) (Nat.le_of_ble_eq_true rfl)
theorem i36_7 {p : Int32} {w0 w2 w3 : Value} {x : Int32} : WP V 36 7 [w0, .int p, w2, w3] (.int x :: st) t I L R Q = WP V 36 8 [w0, .int p, .int x, w3] st t I L R Q := wp_go rfl
theorem i36_8 {w1 w2 w3 : Value} {x : Nat} : WP V 36 8 [.ref x, w1, w2, w3] st t I L R Q = WP V 36 9 [.ref x, w1, w2, w3] (.ref x :: st) t I L R Q := wp_go rfl
theorem i36_9  : WP V 36 9 ls st t I L R Q = WP V 36 10 ls (.int (nI 2) :: st) t I L R Q := wp_go rfl
theorem i36_10 {x0 : Int32} {x1 : Nat}  (h1 : x1 < t) (h2 : m_ob x1 2 = true) : WP V 36 10 ls [.int x0, .ref x1] t I L R Q = WPC V 37 [.ref x1, .int x0] 36 11 ls [] t I L R Q := wp_cls (wp_icv rfl rfl h1 h2) (by decide) (Nat.le_of_ble_eq_true rfl) rfl rfl (Nat.le_of_ble_eq_true rfl) (Nat.le_of_ble_eq_true rfl)
theorem i36_11 {p : Int32} {w0 w1 w3 : Value} {x : Int32} : WP V 36 11 [w0, w1, .int p, w3] (.int x :: st) t I L R Q = WP V 36 12 [w0, w1, .int p, .int x] st t I L R Q := wp_go rfl
theorem i36_12 {w1 w2 w3 : Value} {x : Nat} : WP V 36 12 [.ref x, w1, w2, w3] st t I L R Q = WP V 36 13 [.ref x, w1, w2, w3] (.ref x :: st) t I L R Q := wp_go rfl
theorem i36_13 {k : Nat} (h1 : k < t) (h2 : m_ob k 2 = true) : WP V 36 13 ls (.ref k :: st) t I L R Q = WP V 36 14 ls (m_rv (R k 2) :: st) t I L R Q := wp_getR rfl (by decide) h1 h2
theorem i36_14  : WP V 36 14 ls st t I L R Q = WP V 36 15 ls (.int (nI 18) :: st) t I L R Q := wp_go rfl
theorem i36_15 {w0 w2 w3 : Value} {x : Int32} : WP V 36 15 [w0, .int x, w2, w3] st t I L R Q = WP V 36 16 [w0, .int x, w2, w3] (.int x :: st) t I L R Q := wp_go rfl
theorem i36_16 {k j : Nat} {x : Int32} (h2 : m_ar k 2 581 = true) (h1 : k < t) (h3 : j < 581) : WP V 36 16 ls (.int x :: .int (nI j) :: .ref k :: st) t I L R Q = WP V 36 17 ls st t (m_sc I k (m_sc (I k) j x)) L R Q := wp_iastore rfl (by decide) h1 h2 h3
theorem i36_17 {w1 w2 w3 : Value} {x : Nat} : WP V 36 17 [.ref x, w1, w2, w3] st t I L R Q = WP V 36 18 [.ref x, w1, w2, w3] (.ref x :: st) t I L R Q := wp_go rfl
theorem i36_18 {k : Nat} (h1 : k < t) (h2 : m_ob k 2 = true) : WP V 36 18 ls (.ref k :: st) t I L R Q = WP V 36 19 ls (m_rv (R k 2) :: st) t I L R Q := wp_getR rfl (by decide) h1 h2
theorem i36_19  : WP V 36 19 ls st t I L R Q = WP V 36 20 ls (.int (nI 19) :: st) t I L R Q := wp_go rfl
theorem i36_20 {w0 w1 w3 : Value} {x : Int32} : WP V 36 20 [w0, w1, .int x, w3] st t I L R Q = WP V 36 21 [w0, w1, .int x, w3] (.int x :: st) t I L R Q := wp_go rfl
theorem i36_21 {k j : Nat} {x : Int32} (h2 : m_ar k 2 581 = true) (h1 : k < t) (h3 : j < 581) : WP V 36 21 ls (.int x :: .int (nI j) :: .ref k :: st) t I L R Q = WP V 36 22 ls st t (m_sc I k (m_sc (I k) j x)) L R Q := wp_iastore rfl (by decide) h1 h2 h3
theorem i36_22 {w1 w2 w3 : Value} {x : Nat} : WP V 36 22 [.ref x, w1, w2, w3] st t I L R Q = WP V 36 23 [.ref x, w1, w2, w3] (.ref x :: st) t I L R Q := wp_go rfl
theorem i36_23 {k : Nat} (h1 : k < t) (h2 : m_ob k 2 = true) : WP V 36 23 ls (.ref k :: st) t I L R Q = WP V 36 24 ls (m_rv (R k 2) :: st) t I L R Q := wp_getR rfl (by decide) h1 h2
theorem i36_24  : WP V 36 24 ls st t I L R Q = WP V 36 25 ls (.int (nI 20) :: st) t I L R Q := wp_go rfl
theorem i36_25 {w0 w1 w2 : Value} {x : Int32} : WP V 36 25 [w0, w1, w2, .int x] st t I L R Q = WP V 36 26 [w0, w1, w2, .int x] (.int x :: st) t I L R Q := wp_go rfl
theorem i36_26 {k j : Nat} {x : Int32} (h2 : m_ar k 2 581 = true) (h1 : k < t) (h3 : j < 581) : WP V 36 26 ls (.int x :: .int (nI j) :: .ref k :: st) t I L R Q = WP V 36 27 ls st t (m_sc I k (m_sc (I k) j x)) L R Q := wp_iastore rfl (by decide) h1 h2 h3
theorem i36_27  : WP V 36 27 ls [] t I L R Q = Q none t I L R := wp_rtv rfl rfl
-- TransactionCells$Explorer.rank(I)I
theorem i37_0 {w1 w2 w3 : Value} {x : Nat} : WP V 37 0 [.ref x, w1, w2, w3] st t I L R Q = WP V 37 1 [.ref x, w1, w2, w3] (.ref x :: st) t I L R Q := wp_go rfl
theorem i37_1 {k : Nat} (h1 : k < t) (h2 : m_ob k 2 = true) : WP V 37 1 ls (.ref k :: st) t I L R Q = WP V 37 2 ls (m_rv (R k 2) :: st) t I L R Q := wp_getR rfl (by decide) h1 h2
theorem i37_2  : WP V 37 2 ls st t I L R Q = WP V 37 3 ls (.int (nI 15) :: st) t I L R Q := wp_go rfl
theorem i37_3 {w0 w2 w3 : Value} {x : Int32} : WP V 37 3 [w0, .int x, w2, w3] st t I L R Q = WP V 37 4 [w0, .int x, w2, w3] (.int x :: st) t I L R Q := wp_go rfl
theorem i37_4 {x y : Int32} : WP V 37 4 ls (.int y :: .int x :: st) t I L R Q = WP V 37 5 ls (.int (x + y) :: st) t I L R Q := wp_go rfl
theorem i37_5 {k j : Nat} (h2 : m_ar k 2 581 = true) (h1 : k < t) (h3 : j < 581) : WP V 37 5 ls (.int (nI j) :: .ref k :: st) t I L R Q = WP V 37 6 ls (.int (I k j) :: st) t I L R Q := wp_iaload rfl (by decide) h1 h2 h3
theorem i37_6  : WP V 37 6 ls st t I L R Q = WP V 37 7 ls (.int (-1) :: st) t I L R Q := wp_go rfl
theorem i37_7 {x y : Int32} : WP V 37 7 ls (.int y :: .int x :: st) t I L R Q = if x = y then WP V 37 8 ls st t I L R Q else WP V 37 10 ls st t I L R Q := wp_brn (c := m_cc .ne x y) rfl rfl
theorem i37_8  : WP V 37 8 ls st t I L R Q = WP V 37 9 ls (.int (nI 0) :: st) t I L R Q := wp_go rfl
theorem i37_9 {x : Int32} : WP V 37 9 ls [.int x] t I L R Q = Q (some (.int x)) t I L R := wp_rti rfl rfl
theorem i37_10  : WP V 37 10 ls st t I L R Q = WP V 37 11 ls (.int (nI 0) :: st) t I L R Q := wp_go rfl
theorem i37_11 {p : Int32} {w0 w2 w3 : Value} {x : Int32} : WP V 37 11 [w0, .int p, w2, w3] (.int x :: st) t I L R Q = WP V 37 12 [w0, .int p, .int x, w3] st t I L R Q := wp_go rfl
theorem i37_12  : WP V 37 12 ls st t I L R Q = WP V 37 13 ls (.int (nI 0) :: st) t I L R Q := wp_go rfl
theorem i37_13 {p : Int32} {w0 w1 w3 : Value} {x : Int32} : WP V 37 13 [w0, w1, .int p, w3] (.int x :: st) t I L R Q = WP V 37 14 [w0, w1, .int p, .int x] st t I L R Q := wp_go rfl
theorem i37_14 {w0 w1 w2 : Value} {x : Int32} : WP V 37 14 [w0, w1, w2, .int x] st t I L R Q = WP V 37 15 [w0, w1, w2, .int x] (.int x :: st) t I L R Q := wp_go rfl
theorem i37_15  : WP V 37 15 ls st t I L R Q = WP V 37 16 ls (.int (nI 3) :: st) t I L R Q := wp_go rfl
theorem i37_16 {x y : Int32} : WP V 37 16 ls (.int y :: .int x :: st) t I L R Q = if y ≤ x then WP V 37 41 ls st t I L R Q else WP V 37 17 ls st t I L R Q := wp_br (c := m_cc .ge x y) rfl rfl
theorem i37_17 {w1 w2 w3 : Value} {x : Nat} : WP V 37 17 [.ref x, w1, w2, w3] st t I L R Q = WP V 37 18 [.ref x, w1, w2, w3] (.ref x :: st) t I L R Q := wp_go rfl
theorem i37_18 {k : Nat} (h1 : k < t) (h2 : m_ob k 2 = true) : WP V 37 18 ls (.ref k :: st) t I L R Q = WP V 37 19 ls (m_rv (R k 2) :: st) t I L R Q := wp_getR rfl (by decide) h1 h2
theorem i37_19  : WP V 37 19 ls st t I L R Q = WP V 37 20 ls (.int (nI 15) :: st) t I L R Q := wp_go rfl
theorem i37_20 {w0 w1 w2 : Value} {x : Int32} : WP V 37 20 [w0, w1, w2, .int x] st t I L R Q = WP V 37 21 [w0, w1, w2, .int x] (.int x :: st) t I L R Q := wp_go rfl
theorem i37_21 {x y : Int32} : WP V 37 21 ls (.int y :: .int x :: st) t I L R Q = WP V 37 22 ls (.int (x + y) :: st) t I L R Q := wp_go rfl
theorem i37_22 {k j : Nat} (h2 : m_ar k 2 581 = true) (h1 : k < t) (h3 : j < 581) : WP V 37 22 ls (.int (nI j) :: .ref k :: st) t I L R Q = WP V 37 23 ls (.int (I k j) :: st) t I L R Q := wp_iaload rfl (by decide) h1 h2 h3
theorem i37_23  : WP V 37 23 ls st t I L R Q = WP V 37 24 ls (.int (-1) :: st) t I L R Q := wp_go rfl
theorem i37_24 {x y : Int32} : WP V 37 24 ls (.int y :: .int x :: st) t I L R Q = if x = y then WP V 37 39 ls st t I L R Q else WP V 37 25 ls st t I L R Q := wp_br (c := m_cc .eq x y) rfl rfl
theorem i37_25 {w1 w2 w3 : Value} {x : Nat} : WP V 37 25 [.ref x, w1, w2, w3] st t I L R Q = WP V 37 26 [.ref x, w1, w2, w3] (.ref x :: st) t I L R Q := wp_go rfl
theorem i37_26 {k : Nat} (h1 : k < t) (h2 : m_ob k 2 = true) : WP V 37 26 ls (.ref k :: st) t I L R Q = WP V 37 27 ls (m_rv (R k 2) :: st) t I L R Q := wp_getR rfl (by decide) h1 h2
theorem i37_27  : WP V 37 27 ls st t I L R Q = WP V 37 28 ls (.int (nI 18) :: st) t I L R Q := wp_go rfl
theorem i37_28 {w0 w1 w2 : Value} {x : Int32} : WP V 37 28 [w0, w1, w2, .int x] st t I L R Q = WP V 37 29 [w0, w1, w2, .int x] (.int x :: st) t I L R Q := wp_go rfl
theorem i37_29 {x y : Int32} : WP V 37 29 ls (.int y :: .int x :: st) t I L R Q = WP V 37 30 ls (.int (x + y) :: st) t I L R Q := wp_go rfl
theorem i37_30 {k j : Nat} (h2 : m_ar k 2 581 = true) (h1 : k < t) (h3 : j < 581) : WP V 37 30 ls (.int (nI j) :: .ref k :: st) t I L R Q = WP V 37 31 ls (.int (I k j) :: st) t I L R Q := wp_iaload rfl (by decide) h1 h2 h3
theorem i37_31 {w1 w2 w3 : Value} {x : Nat} : WP V 37 31 [.ref x, w1, w2, w3] st t I L R Q = WP V 37 32 [.ref x, w1, w2, w3] (.ref x :: st) t I L R Q := wp_go rfl
theorem i37_32 {k : Nat} (h1 : k < t) (h2 : m_ob k 2 = true) : WP V 37 32 ls (.ref k :: st) t I L R Q = WP V 37 33 ls (m_rv (R k 2) :: st) t I L R Q := wp_getR rfl (by decide) h1 h2
theorem i37_33  : WP V 37 33 ls st t I L R Q = WP V 37 34 ls (.int (nI 18) :: st) t I L R Q := wp_go rfl
theorem i37_34 {w0 w2 w3 : Value} {x : Int32} : WP V 37 34 [w0, .int x, w2, w3] st t I L R Q = WP V 37 35 [w0, .int x, w2, w3] (.int x :: st) t I L R Q := wp_go rfl
theorem i37_35 {x y : Int32} : WP V 37 35 ls (.int y :: .int x :: st) t I L R Q = WP V 37 36 ls (.int (x + y) :: st) t I L R Q := wp_go rfl
theorem i37_36 {k j : Nat} (h2 : m_ar k 2 581 = true) (h1 : k < t) (h3 : j < 581) : WP V 37 36 ls (.int (nI j) :: .ref k :: st) t I L R Q = WP V 37 37 ls (.int (I k j) :: st) t I L R Q := wp_iaload rfl (by decide) h1 h2 h3
theorem i37_37 {x y : Int32} : WP V 37 37 ls (.int y :: .int x :: st) t I L R Q = if y ≤ x then WP V 37 39 ls st t I L R Q else WP V 37 38 ls st t I L R Q := wp_br (c := m_cc .ge x y) rfl rfl
theorem i37_38 {p : Int32} {w0 w3 : Value} {x : Int32} : WP V 37 38 [w0, .int p, .int x, w3] st t I L R Q = WP V 37 39 [w0, .int p, .int (x + (nI 1)), w3] st t I L R Q := wp_go rfl
theorem i37_39 {p : Int32} {w0 w1 : Value} {x : Int32} : WP V 37 39 [w0, w1, .int p, .int x] st t I L R Q = WP V 37 40 [w0, w1, .int p, .int (x + (nI 1))] st t I L R Q := wp_go rfl
theorem i37_40  : WP V 37 40 ls st t I L R Q = WP V 37 14 ls st t I L R Q := wp_go rfl
theorem i37_41 {w0 w1 w3 : Value} {x : Int32} : WP V 37 41 [w0, w1, .int x, w3] st t I L R Q = WP V 37 42 [w0, w1, .int x, w3] (.int x :: st) t I L R Q := wp_go rfl
theorem i37_42 {x : Int32} : WP V 37 42 ls [.int x] t I L R Q = Q (some (.int x)) t I L R := wp_rti rfl rfl
-- TransactionCells$Explorer.hash()I
theorem i38_0  : WP V 38 0 ls st t I L R Q = WP V 38 1 ls (.int (nI 17) :: st) t I L R Q := wp_go rfl
theorem i38_1 {p : Nat} {w1 w2 : Value} {x : Int32} : WP V 38 1 [.ref p, w1, w2] (.int x :: st) t I L R Q = WP V 38 2 [.ref p, .int x, w2] st t I L R Q := wp_go rfl
theorem i38_2  : WP V 38 2 ls st t I L R Q = WP V 38 3 ls (.int (nI 0) :: st) t I L R Q := wp_go rfl
theorem i38_3 {p : Int32} {w0 w2 : Value} {x : Int32} : WP V 38 3 [w0, .int p, w2] (.int x :: st) t I L R Q = WP V 38 4 [w0, .int p, .int x] st t I L R Q := wp_go rfl
theorem i38_4 {w0 w1 : Value} {x : Int32} : WP V 38 4 [w0, w1, .int x] st t I L R Q = WP V 38 5 [w0, w1, .int x] (.int x :: st) t I L R Q := wp_go rfl
theorem i38_5  : WP V 38 5 ls st t I L R Q = WP V 38 6 ls (.int (nI 73) :: st) t I L R Q := wp_go rfl
theorem i38_6 {x y : Int32} : WP V 38 6 ls (.int y :: .int x :: st) t I L R Q = if y ≤ x then WP V 38 18 ls st t I L R Q else WP V 38 7 ls st t I L R Q := wp_br (c := m_cc .ge x y) rfl rfl
theorem i38_7  : WP V 38 7 ls st t I L R Q = WP V 38 8 ls (.int (nI 31) :: st) t I L R Q := wp_go rfl
theorem i38_8 {w0 w2 : Value} {x : Int32} : WP V 38 8 [w0, .int x, w2] st t I L R Q = WP V 38 9 [w0, .int x, w2] (.int x :: st) t I L R Q := wp_go rfl
theorem i38_9 {x y : Int32} : WP V 38 9 ls (.int y :: .int x :: st) t I L R Q = WP V 38 10 ls (.int (x * y) :: st) t I L R Q := wp_go rfl
theorem i38_10 {w1 w2 : Value} {x : Nat} : WP V 38 10 [.ref x, w1, w2] st t I L R Q = WP V 38 11 [.ref x, w1, w2] (.ref x :: st) t I L R Q := wp_go rfl
theorem i38_11 {k : Nat} (h1 : k < t) (h2 : m_ob k 2 = true) : WP V 38 11 ls (.ref k :: st) t I L R Q = WP V 38 12 ls (m_rv (R k 2) :: st) t I L R Q := wp_getR rfl (by decide) h1 h2
theorem i38_12 {w0 w1 : Value} {x : Int32} : WP V 38 12 [w0, w1, .int x] st t I L R Q = WP V 38 13 [w0, w1, .int x] (.int x :: st) t I L R Q := wp_go rfl
theorem i38_13 {k j : Nat} (h2 : m_ar k 2 581 = true) (h1 : k < t) (h3 : j < 581) : WP V 38 13 ls (.int (nI j) :: .ref k :: st) t I L R Q = WP V 38 14 ls (.int (I k j) :: st) t I L R Q := wp_iaload rfl (by decide) h1 h2 h3
theorem i38_14 {x y : Int32} : WP V 38 14 ls (.int y :: .int x :: st) t I L R Q = WP V 38 15 ls (.int (x + y) :: st) t I L R Q := wp_go rfl
theorem i38_15 {p : Nat} {w1 w2 : Value} {x : Int32} : WP V 38 15 [.ref p, w1, w2] (.int x :: st) t I L R Q = WP V 38 16 [.ref p, .int x, w2] st t I L R Q := wp_go rfl
theorem i38_16 {p : Int32} {w0 : Value} {x : Int32} : WP V 38 16 [w0, .int p, .int x] st t I L R Q = WP V 38 17 [w0, .int p, .int (x + (nI 1))] st t I L R Q := wp_go rfl
theorem i38_17  : WP V 38 17 ls st t I L R Q = WP V 38 4 ls st t I L R Q := wp_go rfl
theorem i38_18 {w0 w2 : Value} {x : Int32} : WP V 38 18 [w0, .int x, w2] st t I L R Q = WP V 38 19 [w0, .int x, w2] (.int x :: st) t I L R Q := wp_go rfl
theorem i38_19 {w0 w2 : Value} {x : Int32} : WP V 38 19 [w0, .int x, w2] st t I L R Q = WP V 38 20 [w0, .int x, w2] (.int x :: st) t I L R Q := wp_go rfl
theorem i38_20  : WP V 38 20 ls st t I L R Q = WP V 38 21 ls (.int (nI 15) :: st) t I L R Q := wp_go rfl
theorem i38_21 {x y : Int32} : WP V 38 21 ls (.int y :: .int x :: st) t I L R Q = WP V 38 22 ls (.int ((x.toUInt32 >>> (y.toUInt32 &&& Int32.toUInt32 31)).toInt32) :: st) t I L R Q := wp_go rfl
theorem i38_22 {x y : Int32} : WP V 38 22 ls (.int y :: .int x :: st) t I L R Q = WP V 38 23 ls (.int (x ^^^ y) :: st) t I L R Q := wp_go rfl
theorem i38_23 {x : Int32} : WP V 38 23 ls [.int x] t I L R Q = Q (some (.int x)) t I L R := wp_rti rfl rfl
-- TransactionCells$Explorer.isLike(I)Z
theorem i39_0 {w1 w2 w3 w4 : Value} {x : Nat} : WP V 39 0 [.ref x, w1, w2, w3, w4] st t I L R Q = WP V 39 1 [.ref x, w1, w2, w3, w4] (.ref x :: st) t I L R Q := wp_go rfl
theorem i39_1 {w0 w2 w3 w4 : Value} {x : Int32} : WP V 39 1 [w0, .int x, w2, w3, w4] st t I L R Q = WP V 39 2 [w0, .int x, w2, w3, w4] (.int x :: st) t I L R Q := wp_go rfl
theorem i39_2  : WP V 39 2 ls st t I L R Q = WP V 39 3 ls (.int (nI 0) :: st) t I L R Q := wp_go rfl
theorem i39_3  : WP V 39 3 ls st t I L R Q = WP V 39 4 ls (.int (nI 73) :: st) t I L R Q := wp_go rfl
theorem i39_4 {x0 : Int32} {x1 : Int32} {x2 : Int32} {x3 : Nat}  (h1 : x3 < t) (h2 : m_ob x3 2 = true) : WP V 39 4 ls [.int x0, .int x1, .int x2, .ref x3] t I L R Q = WPC V 40 [.ref x3, .int x2, .int x1, .int x0] 39 5 ls [] t I L R Q := wp_cls (wp_icv rfl rfl h1 h2) (by decide) (Nat.le_of_ble_eq_true rfl) rfl rfl (Nat.le_of_ble_eq_true rfl) (Nat.le_of_ble_eq_true rfl)
theorem i39_5 {x : Int32} : WP V 39 5 ls (.int x :: st) t I L R Q = if x = nI 0 then WP V 39 6 ls st t I L R Q else WP V 39 8 ls st t I L R Q := wp_brn (c := m_cc .ne x 0) rfl rfl
theorem i39_6  : WP V 39 6 ls st t I L R Q = WP V 39 7 ls (.int (nI 0) :: st) t I L R Q := wp_go rfl
theorem i39_7 {x : Int32} (h : m_01 x = true) : WP V 39 7 ls [.int x] t I L R Q = Q (some (.int x)) t I L R := wp_rtz rfl rfl h
theorem i39_8 {w1 w2 w3 w4 : Value} {x : Nat} : WP V 39 8 [.ref x, w1, w2, w3, w4] st t I L R Q = WP V 39 9 [.ref x, w1, w2, w3, w4] (.ref x :: st) t I L R Q := wp_go rfl
theorem i39_9 {k : Nat} (h1 : k < t) (h2 : m_ob k 2 = true) : WP V 39 9 ls (.ref k :: st) t I L R Q = WP V 39 10 ls (m_rv (R k 2) :: st) t I L R Q := wp_getR rfl (by decide) h1 h2
theorem i39_10  : WP V 39 10 ls st t I L R Q = WP V 39 11 ls (.int (nI 0) :: st) t I L R Q := wp_go rfl
theorem i39_11 {k j : Nat} (h2 : m_ar k 2 581 = true) (h1 : k < t) (h3 : j < 581) : WP V 39 11 ls (.int (nI j) :: .ref k :: st) t I L R Q = WP V 39 12 ls (.int (I k j) :: st) t I L R Q := wp_iaload rfl (by decide) h1 h2 h3
theorem i39_12 {x : Int32} : WP V 39 12 ls (.int x :: st) t I L R Q = if x ≤ nI 0 then WP V 39 21 ls st t I L R Q else WP V 39 13 ls st t I L R Q := wp_br (c := m_cc .le x 0) rfl rfl
theorem i39_13 {w1 w2 w3 w4 : Value} {x : Nat} : WP V 39 13 [.ref x, w1, w2, w3, w4] st t I L R Q = WP V 39 14 [.ref x, w1, w2, w3, w4] (.ref x :: st) t I L R Q := wp_go rfl
theorem i39_14 {w0 w2 w3 w4 : Value} {x : Int32} : WP V 39 14 [w0, .int x, w2, w3, w4] st t I L R Q = WP V 39 15 [w0, .int x, w2, w3, w4] (.int x :: st) t I L R Q := wp_go rfl
theorem i39_15  : WP V 39 15 ls st t I L R Q = WP V 39 16 ls (.int (nI 73) :: st) t I L R Q := wp_go rfl
theorem i39_16  : WP V 39 16 ls st t I L R Q = WP V 39 17 ls (.int (nI 145) :: st) t I L R Q := wp_go rfl
theorem i39_17 {x0 : Int32} {x1 : Int32} {x2 : Int32} {x3 : Nat}  (h1 : x3 < t) (h2 : m_ob x3 2 = true) : WP V 39 17 ls [.int x0, .int x1, .int x2, .ref x3] t I L R Q = WPC V 40 [.ref x3, .int x2, .int x1, .int x0] 39 18 ls [] t I L R Q := wp_cls (wp_icv rfl rfl h1 h2) (by decide) (Nat.le_of_ble_eq_true rfl) rfl rfl (Nat.le_of_ble_eq_true rfl) (Nat.le_of_ble_eq_true rfl)
theorem i39_18 {x : Int32} : WP V 39 18 ls (.int x :: st) t I L R Q = if x = nI 0 then WP V 39 19 ls st t I L R Q else WP V 39 21 ls st t I L R Q := wp_brn (c := m_cc .ne x 0) rfl rfl
theorem i39_19  : WP V 39 19 ls st t I L R Q = WP V 39 20 ls (.int (nI 0) :: st) t I L R Q := wp_go rfl
theorem i39_20 {x : Int32} (h : m_01 x = true) : WP V 39 20 ls [.int x] t I L R Q = Q (some (.int x)) t I L R := wp_rtz rfl rfl h
theorem i39_21  : WP V 39 21 ls st t I L R Q = WP V 39 22 ls (.int (nI 0) :: st) t I L R Q := wp_go rfl
theorem i39_22 {p : Int32} {w0 w2 w3 w4 : Value} {x : Int32} : WP V 39 22 [w0, .int p, w2, w3, w4] (.int x :: st) t I L R Q = WP V 39 23 [w0, .int p, .int x, w3, w4] st t I L R Q := wp_go rfl
theorem i39_23 {w0 w1 w3 w4 : Value} {x : Int32} : WP V 39 23 [w0, w1, .int x, w3, w4] st t I L R Q = WP V 39 24 [w0, w1, .int x, w3, w4] (.int x :: st) t I L R Q := wp_go rfl
theorem i39_24  : WP V 39 24 ls st t I L R Q = WP V 39 25 ls (.int (nI 3) :: st) t I L R Q := wp_go rfl
theorem i39_25 {x y : Int32} : WP V 39 25 ls (.int y :: .int x :: st) t I L R Q = if y ≤ x then WP V 39 75 ls st t I L R Q else WP V 39 26 ls st t I L R Q := wp_br (c := m_cc .ge x y) rfl rfl
theorem i39_26  : WP V 39 26 ls st t I L R Q = WP V 39 27 ls (.int (nI 145) :: st) t I L R Q := wp_go rfl
theorem i39_27  : WP V 39 27 ls st t I L R Q = WP V 39 28 ls (.int (nI 47) :: st) t I L R Q := wp_go rfl
theorem i39_28 {w0 w1 w3 w4 : Value} {x : Int32} : WP V 39 28 [w0, w1, .int x, w3, w4] st t I L R Q = WP V 39 29 [w0, w1, .int x, w3, w4] (.int x :: st) t I L R Q := wp_go rfl
theorem i39_29 {x y : Int32} : WP V 39 29 ls (.int y :: .int x :: st) t I L R Q = WP V 39 30 ls (.int (x * y) :: st) t I L R Q := wp_go rfl
theorem i39_30 {x y : Int32} : WP V 39 30 ls (.int y :: .int x :: st) t I L R Q = WP V 39 31 ls (.int (x + y) :: st) t I L R Q := wp_go rfl
theorem i39_31 {p : Int32} {w0 w1 w3 w4 : Value} {x : Int32} : WP V 39 31 [w0, w1, .int p, w3, w4] (.int x :: st) t I L R Q = WP V 39 32 [w0, w1, .int p, .int x, w4] st t I L R Q := wp_go rfl
theorem i39_32 {w1 w2 w3 w4 : Value} {x : Nat} : WP V 39 32 [.ref x, w1, w2, w3, w4] st t I L R Q = WP V 39 33 [.ref x, w1, w2, w3, w4] (.ref x :: st) t I L R Q := wp_go rfl
theorem i39_33 {k : Nat} (h1 : k < t) (h2 : m_ob k 2 = true) : WP V 39 33 ls (.ref k :: st) t I L R Q = WP V 39 34 ls (m_rv (R k 2) :: st) t I L R Q := wp_getR rfl (by decide) h1 h2
theorem i39_34  : WP V 39 34 ls st t I L R Q = WP V 39 35 ls (.int (nI 15) :: st) t I L R Q := wp_go rfl
theorem i39_35 {w0 w1 w3 w4 : Value} {x : Int32} : WP V 39 35 [w0, w1, .int x, w3, w4] st t I L R Q = WP V 39 36 [w0, w1, .int x, w3, w4] (.int x :: st) t I L R Q := wp_go rfl
theorem i39_36 {x y : Int32} : WP V 39 36 ls (.int y :: .int x :: st) t I L R Q = WP V 39 37 ls (.int (x + y) :: st) t I L R Q := wp_go rfl
theorem i39_37 {k j : Nat} (h2 : m_ar k 2 581 = true) (h1 : k < t) (h3 : j < 581) : WP V 39 37 ls (.int (nI j) :: .ref k :: st) t I L R Q = WP V 39 38 ls (.int (I k j) :: st) t I L R Q := wp_iaload rfl (by decide) h1 h2 h3
theorem i39_38  : WP V 39 38 ls st t I L R Q = WP V 39 39 ls (.int (-1) :: st) t I L R Q := wp_go rfl
theorem i39_39 {x y : Int32} : WP V 39 39 ls (.int y :: .int x :: st) t I L R Q = if x = y then WP V 39 50 ls st t I L R Q else WP V 39 40 ls st t I L R Q := wp_br (c := m_cc .eq x y) rfl rfl
theorem i39_40 {w1 w2 w3 w4 : Value} {x : Nat} : WP V 39 40 [.ref x, w1, w2, w3, w4] st t I L R Q = WP V 39 41 [.ref x, w1, w2, w3, w4] (.ref x :: st) t I L R Q := wp_go rfl
theorem i39_41 {w0 w2 w3 w4 : Value} {x : Int32} : WP V 39 41 [w0, .int x, w2, w3, w4] st t I L R Q = WP V 39 42 [w0, .int x, w2, w3, w4] (.int x :: st) t I L R Q := wp_go rfl
theorem i39_42 {w0 w1 w2 w4 : Value} {x : Int32} : WP V 39 42 [w0, w1, w2, .int x, w4] st t I L R Q = WP V 39 43 [w0, w1, w2, .int x, w4] (.int x :: st) t I L R Q := wp_go rfl
theorem i39_43 {w0 w1 w2 w4 : Value} {x : Int32} : WP V 39 43 [w0, w1, w2, .int x, w4] st t I L R Q = WP V 39 44 [w0, w1, w2, .int x, w4] (.int x :: st) t I L R Q := wp_go rfl
theorem i39_44  : WP V 39 44 ls st t I L R Q = WP V 39 45 ls (.int (nI 47) :: st) t I L R Q := wp_go rfl
theorem i39_45 {x y : Int32} : WP V 39 45 ls (.int y :: .int x :: st) t I L R Q = WP V 39 46 ls (.int (x + y) :: st) t I L R Q := wp_go rfl
theorem i39_46 {x0 : Int32} {x1 : Int32} {x2 : Int32} {x3 : Nat}  (h1 : x3 < t) (h2 : m_ob x3 2 = true) : WP V 39 46 ls [.int x0, .int x1, .int x2, .ref x3] t I L R Q = WPC V 40 [.ref x3, .int x2, .int x1, .int x0] 39 47 ls [] t I L R Q := wp_cls (wp_icv rfl rfl h1 h2) (by decide) (Nat.le_of_ble_eq_true rfl) rfl rfl (Nat.le_of_ble_eq_true rfl) (Nat.le_of_ble_eq_true rfl)
theorem i39_47 {x : Int32} : WP V 39 47 ls (.int x :: st) t I L R Q = if x = nI 0 then WP V 39 48 ls st t I L R Q else WP V 39 50 ls st t I L R Q := wp_brn (c := m_cc .ne x 0) rfl rfl
theorem i39_48  : WP V 39 48 ls st t I L R Q = WP V 39 49 ls (.int (nI 0) :: st) t I L R Q := wp_go rfl
theorem i39_49 {x : Int32} (h : m_01 x = true) : WP V 39 49 ls [.int x] t I L R Q = Q (some (.int x)) t I L R := wp_rtz rfl rfl h
theorem i39_50  : WP V 39 50 ls st t I L R Q = WP V 39 51 ls (.int (nI 286) :: st) t I L R Q := wp_go rfl
theorem i39_51  : WP V 39 51 ls st t I L R Q = WP V 39 52 ls (.int (nI 88) :: st) t I L R Q := wp_go rfl
theorem i39_52 {w0 w1 w3 w4 : Value} {x : Int32} : WP V 39 52 [w0, w1, .int x, w3, w4] st t I L R Q = WP V 39 53 [w0, w1, .int x, w3, w4] (.int x :: st) t I L R Q := wp_go rfl
theorem i39_53 {x y : Int32} : WP V 39 53 ls (.int y :: .int x :: st) t I L R Q = WP V 39 54 ls (.int (x * y) :: st) t I L R Q := wp_go rfl
theorem i39_54 {x y : Int32} : WP V 39 54 ls (.int y :: .int x :: st) t I L R Q = WP V 39 55 ls (.int (x + y) :: st) t I L R Q := wp_go rfl
theorem i39_55 {p : Int32} {w0 w1 w2 w4 : Value} {x : Int32} : WP V 39 55 [w0, w1, w2, .int p, w4] (.int x :: st) t I L R Q = WP V 39 56 [w0, w1, w2, .int p, .int x] st t I L R Q := wp_go rfl
theorem i39_56 {w1 w2 w3 w4 : Value} {x : Nat} : WP V 39 56 [.ref x, w1, w2, w3, w4] st t I L R Q = WP V 39 57 [.ref x, w1, w2, w3, w4] (.ref x :: st) t I L R Q := wp_go rfl
theorem i39_57 {w0 w2 w3 w4 : Value} {x : Int32} : WP V 39 57 [w0, .int x, w2, w3, w4] st t I L R Q = WP V 39 58 [w0, .int x, w2, w3, w4] (.int x :: st) t I L R Q := wp_go rfl
theorem i39_58 {w0 w1 w2 w3 : Value} {x : Int32} : WP V 39 58 [w0, w1, w2, w3, .int x] st t I L R Q = WP V 39 59 [w0, w1, w2, w3, .int x] (.int x :: st) t I L R Q := wp_go rfl
theorem i39_59 {w0 w1 w2 w3 : Value} {x : Int32} : WP V 39 59 [w0, w1, w2, w3, .int x] st t I L R Q = WP V 39 60 [w0, w1, w2, w3, .int x] (.int x :: st) t I L R Q := wp_go rfl
theorem i39_60  : WP V 39 60 ls st t I L R Q = WP V 39 61 ls (.int (nI 22) :: st) t I L R Q := wp_go rfl
theorem i39_61 {w1 w2 w3 w4 : Value} {x : Nat} : WP V 39 61 [.ref x, w1, w2, w3, w4] st t I L R Q = WP V 39 62 [.ref x, w1, w2, w3, w4] (.ref x :: st) t I L R Q := wp_go rfl
theorem i39_62 {k : Nat} (h1 : k < t) (h2 : m_ob k 2 = true) : WP V 39 62 ls (.ref k :: st) t I L R Q = WP V 39 63 ls (m_rv (R k 2) :: st) t I L R Q := wp_getR rfl (by decide) h1 h2
theorem i39_63  : WP V 39 63 ls st t I L R Q = WP V 39 64 ls (.int (nI 12) :: st) t I L R Q := wp_go rfl
theorem i39_64 {w0 w1 w3 w4 : Value} {x : Int32} : WP V 39 64 [w0, w1, .int x, w3, w4] st t I L R Q = WP V 39 65 [w0, w1, .int x, w3, w4] (.int x :: st) t I L R Q := wp_go rfl
theorem i39_65 {x y : Int32} : WP V 39 65 ls (.int y :: .int x :: st) t I L R Q = WP V 39 66 ls (.int (x + y) :: st) t I L R Q := wp_go rfl
theorem i39_66 {k j : Nat} (h2 : m_ar k 2 581 = true) (h1 : k < t) (h3 : j < 581) : WP V 39 66 ls (.int (nI j) :: .ref k :: st) t I L R Q = WP V 39 67 ls (.int (I k j) :: st) t I L R Q := wp_iaload rfl (by decide) h1 h2 h3
theorem i39_67 {x y : Int32} : WP V 39 67 ls (.int y :: .int x :: st) t I L R Q = WP V 39 68 ls (.int (x * y) :: st) t I L R Q := wp_go rfl
theorem i39_68 {x y : Int32} : WP V 39 68 ls (.int y :: .int x :: st) t I L R Q = WP V 39 69 ls (.int (x + y) :: st) t I L R Q := wp_go rfl
theorem i39_69 {x0 : Int32} {x1 : Int32} {x2 : Int32} {x3 : Nat}  (h1 : x3 < t) (h2 : m_ob x3 2 = true) : WP V 39 69 ls [.int x0, .int x1, .int x2, .ref x3] t I L R Q = WPC V 40 [.ref x3, .int x2, .int x1, .int x0] 39 70 ls [] t I L R Q := wp_cls (wp_icv rfl rfl h1 h2) (by decide) (Nat.le_of_ble_eq_true rfl) rfl rfl (Nat.le_of_ble_eq_true rfl) (Nat.le_of_ble_eq_true rfl)
theorem i39_70 {x : Int32} : WP V 39 70 ls (.int x :: st) t I L R Q = if x = nI 0 then WP V 39 71 ls st t I L R Q else WP V 39 73 ls st t I L R Q := wp_brn (c := m_cc .ne x 0) rfl rfl
theorem i39_71  : WP V 39 71 ls st t I L R Q = WP V 39 72 ls (.int (nI 0) :: st) t I L R Q := wp_go rfl
theorem i39_72 {x : Int32} (h : m_01 x = true) : WP V 39 72 ls [.int x] t I L R Q = Q (some (.int x)) t I L R := wp_rtz rfl rfl h
theorem i39_73 {p : Int32} {w0 w3 w4 : Value} {x : Int32} : WP V 39 73 [w0, .int p, .int x, w3, w4] st t I L R Q = WP V 39 74 [w0, .int p, .int (x + (nI 1)), w3, w4] st t I L R Q := wp_go rfl
theorem i39_74  : WP V 39 74 ls st t I L R Q = WP V 39 23 ls st t I L R Q := wp_go rfl
theorem i39_75  : WP V 39 75 ls st t I L R Q = WP V 39 76 ls (.int (nI 1) :: st) t I L R Q := wp_go rfl
theorem i39_76 {x : Int32} (h : m_01 x = true) : WP V 39 76 ls [.int x] t I L R Q = Q (some (.int x)) t I L R := wp_rtz rfl rfl h
-- TransactionCells$Explorer.isSame(III)Z
theorem i40_0 {w0 w1 w3 w4 : Value} {x : Int32} : WP V 40 0 [w0, w1, .int x, w3, w4] st t I L R Q = WP V 40 1 [w0, w1, .int x, w3, w4] (.int x :: st) t I L R Q := wp_go rfl
theorem i40_1 {p : Int32} {w0 w1 w2 w4 : Value} {x : Int32} : WP V 40 1 [w0, w1, w2, .int p, w4] (.int x :: st) t I L R Q = WP V 40 2 [w0, w1, w2, .int p, .int x] st t I L R Q := wp_go rfl
theorem i40_2 {w0 w1 w2 w3 : Value} {x : Int32} : WP V 40 2 [w0, w1, w2, w3, .int x] st t I L R Q = WP V 40 3 [w0, w1, w2, w3, .int x] (.int x :: st) t I L R Q := wp_go rfl
theorem i40_3 {w0 w1 w2 w4 : Value} {x : Int32} : WP V 40 3 [w0, w1, w2, .int x, w4] st t I L R Q = WP V 40 4 [w0, w1, w2, .int x, w4] (.int x :: st) t I L R Q := wp_go rfl
theorem i40_4 {x y : Int32} : WP V 40 4 ls (.int y :: .int x :: st) t I L R Q = if y ≤ x then WP V 40 20 ls st t I L R Q else WP V 40 5 ls st t I L R Q := wp_br (c := m_cc .ge x y) rfl rfl
theorem i40_5 {w1 w2 w3 w4 : Value} {x : Nat} : WP V 40 5 [.ref x, w1, w2, w3, w4] st t I L R Q = WP V 40 6 [.ref x, w1, w2, w3, w4] (.ref x :: st) t I L R Q := wp_go rfl
theorem i40_6 {k : Nat} (h1 : k < t) (h2 : m_ob k 2 = true) : WP V 40 6 ls (.ref k :: st) t I L R Q = WP V 40 7 ls (m_rv (R k 4) :: st) t I L R Q := wp_getR rfl (by decide) h1 h2
theorem i40_7 {w0 w2 w3 w4 : Value} {x : Int32} : WP V 40 7 [w0, .int x, w2, w3, w4] st t I L R Q = WP V 40 8 [w0, .int x, w2, w3, w4] (.int x :: st) t I L R Q := wp_go rfl
theorem i40_8 {w0 w1 w2 w3 : Value} {x : Int32} : WP V 40 8 [w0, w1, w2, w3, .int x] st t I L R Q = WP V 40 9 [w0, w1, w2, w3, .int x] (.int x :: st) t I L R Q := wp_go rfl
theorem i40_9 {x y : Int32} : WP V 40 9 ls (.int y :: .int x :: st) t I L R Q = WP V 40 10 ls (.int (x + y) :: st) t I L R Q := wp_go rfl
theorem i40_10 {k j : Nat} (h2 : m_ar k 2 232400 = true) (h1 : k < t) (h3 : j < 232400) : WP V 40 10 ls (.int (nI j) :: .ref k :: st) t I L R Q = WP V 40 11 ls (.int (I k j) :: st) t I L R Q := wp_iaload rfl (by decide) h1 h2 h3
theorem i40_11 {w1 w2 w3 w4 : Value} {x : Nat} : WP V 40 11 [.ref x, w1, w2, w3, w4] st t I L R Q = WP V 40 12 [.ref x, w1, w2, w3, w4] (.ref x :: st) t I L R Q := wp_go rfl
theorem i40_12 {k : Nat} (h1 : k < t) (h2 : m_ob k 2 = true) : WP V 40 12 ls (.ref k :: st) t I L R Q = WP V 40 13 ls (m_rv (R k 2) :: st) t I L R Q := wp_getR rfl (by decide) h1 h2
theorem i40_13 {w0 w1 w2 w3 : Value} {x : Int32} : WP V 40 13 [w0, w1, w2, w3, .int x] st t I L R Q = WP V 40 14 [w0, w1, w2, w3, .int x] (.int x :: st) t I L R Q := wp_go rfl
theorem i40_14 {k j : Nat} (h2 : m_ar k 2 581 = true) (h1 : k < t) (h3 : j < 581) : WP V 40 14 ls (.int (nI j) :: .ref k :: st) t I L R Q = WP V 40 15 ls (.int (I k j) :: st) t I L R Q := wp_iaload rfl (by decide) h1 h2 h3
theorem i40_15 {x y : Int32} : WP V 40 15 ls (.int y :: .int x :: st) t I L R Q = if x = y then WP V 40 18 ls st t I L R Q else WP V 40 16 ls st t I L R Q := wp_br (c := m_cc .eq x y) rfl rfl
theorem i40_16  : WP V 40 16 ls st t I L R Q = WP V 40 17 ls (.int (nI 0) :: st) t I L R Q := wp_go rfl
theorem i40_17 {x : Int32} (h : m_01 x = true) : WP V 40 17 ls [.int x] t I L R Q = Q (some (.int x)) t I L R := wp_rtz rfl rfl h
theorem i40_18 {p : Int32} {w0 w1 w2 : Value} {x : Int32} : WP V 40 18 [w0, w1, w2, .int p, .int x] st t I L R Q = WP V 40 19 [w0, w1, w2, .int p, .int (x + (nI 1))] st t I L R Q := wp_go rfl
theorem i40_19  : WP V 40 19 ls st t I L R Q = WP V 40 2 ls st t I L R Q := wp_go rfl
theorem i40_20  : WP V 40 20 ls st t I L R Q = WP V 40 21 ls (.int (nI 1) :: st) t I L R Q := wp_go rfl
theorem i40_21 {x : Int32} (h : m_01 x = true) : WP V 40 21 ls [.int x] t I L R Q = Q (some (.int x)) t I L R := wp_rtz rfl rfl h
-- TransactionCells$Explorer.gatherEnds()V
theorem i41_0 {w1 w2 : Value} {x : Nat} : WP V 41 0 [.ref x, w1, w2] st t I L R Q = WP V 41 1 [.ref x, w1, w2] (.ref x :: st) t I L R Q := wp_go rfl
theorem i41_1  : WP V 41 1 ls st t I L R Q = WP V 41 2 ls (.int (nI 0) :: st) t I L R Q := wp_go rfl
theorem i41_2 {k : Nat} {x : Int32} (h1 : k < t) (h2 : m_ob k 2 = true) : WP V 41 2 ls (.int x :: .ref k :: st) t I L R Q = WP V 41 3 ls st t (m_sc I k (m_sc (I k) 10 x)) L R Q := wp_putI rfl (by decide) h1 h2
theorem i41_3  : WP V 41 3 ls st t I L R Q = WP V 41 4 ls (.int (nI 0) :: st) t I L R Q := wp_go rfl
theorem i41_4 {p : Nat} {w1 w2 : Value} {x : Int32} : WP V 41 4 [.ref p, w1, w2] (.int x :: st) t I L R Q = WP V 41 5 [.ref p, .int x, w2] st t I L R Q := wp_go rfl
theorem i41_5 {w0 w2 : Value} {x : Int32} : WP V 41 5 [w0, .int x, w2] st t I L R Q = WP V 41 6 [w0, .int x, w2] (.int x :: st) t I L R Q := wp_go rfl
theorem i41_6 {w1 w2 : Value} {x : Nat} : WP V 41 6 [.ref x, w1, w2] st t I L R Q = WP V 41 7 [.ref x, w1, w2] (.ref x :: st) t I L R Q := wp_go rfl
theorem i41_7 {k : Nat} (h1 : k < t) (h2 : m_ob k 2 = true) : WP V 41 7 ls (.ref k :: st) t I L R Q = WP V 41 8 ls (.int (I k 8) :: st) t I L R Q := wp_getI rfl (by decide) h1 h2
theorem i41_8 {x y : Int32} : WP V 41 8 ls (.int y :: .int x :: st) t I L R Q = if y ≤ x then WP V 41 58 ls st t I L R Q else WP V 41 9 ls st t I L R Q := wp_br (c := m_cc .ge x y) rfl rfl
theorem i41_9 {w1 w2 : Value} {x : Nat} : WP V 41 9 [.ref x, w1, w2] st t I L R Q = WP V 41 10 [.ref x, w1, w2] (.ref x :: st) t I L R Q := wp_go rfl
theorem i41_10 {k : Nat} (h1 : k < t) (h2 : m_ob k 2 = true) : WP V 41 10 ls (.ref k :: st) t I L R Q = WP V 41 11 ls (m_rv (R k 6) :: st) t I L R Q := wp_getR rfl (by decide) h1 h2
theorem i41_11 {w0 w2 : Value} {x : Int32} : WP V 41 11 [w0, .int x, w2] st t I L R Q = WP V 41 12 [w0, .int x, w2] (.int x :: st) t I L R Q := wp_go rfl
theorem i41_12 {k j : Nat} (h2 : m_ar k 3 400 = true) (h1 : k < t) (h3 : j < 400) : WP V 41 12 ls (.int (nI j) :: .ref k :: st) t I L R Q = WP V 41 13 ls (.int (I k j) :: st) t I L R Q := wp_baload rfl (by decide) h1 h2 h3
theorem i41_13 {x : Int32} : WP V 41 13 ls (.int x :: st) t I L R Q = if x = nI 0 then WP V 41 14 ls st t I L R Q else WP V 41 15 ls st t I L R Q := wp_brn (c := m_cc .ne x 0) rfl rfl
theorem i41_14  : WP V 41 14 ls st t I L R Q = WP V 41 56 ls st t I L R Q := wp_go rfl
theorem i41_15 {w1 w2 : Value} {x : Nat} : WP V 41 15 [.ref x, w1, w2] st t I L R Q = WP V 41 16 [.ref x, w1, w2] (.ref x :: st) t I L R Q := wp_go rfl
theorem i41_16 {k : Nat} (h1 : k < t) (h2 : m_ob k 2 = true) : WP V 41 16 ls (.ref k :: st) t I L R Q = WP V 41 17 ls (.int (I k 10) :: st) t I L R Q := wp_getI rfl (by decide) h1 h2
theorem i41_17  : WP V 41 17 ls st t I L R Q = WP V 41 18 ls (.int (nI 19) :: st) t I L R Q := wp_go rfl
theorem i41_18 {x y : Int32} : WP V 41 18 ls (.int y :: .int x :: st) t I L R Q = WP V 41 19 ls (.int (x * y) :: st) t I L R Q := wp_go rfl
theorem i41_19 {p : Int32} {w0 w2 : Value} {x : Int32} : WP V 41 19 [w0, .int p, w2] (.int x :: st) t I L R Q = WP V 41 20 [w0, .int p, .int x] st t I L R Q := wp_go rfl
theorem i41_20 {w1 w2 : Value} {x : Nat} : WP V 41 20 [.ref x, w1, w2] st t I L R Q = WP V 41 21 [.ref x, w1, w2] (.ref x :: st) t I L R Q := wp_go rfl
theorem i41_21 {k : Nat} (h1 : k < t) (h2 : m_ob k 2 = true) : WP V 41 21 ls (.ref k :: st) t I L R Q = WP V 41 22 ls (m_rv (R k 4) :: st) t I L R Q := wp_getR rfl (by decide) h1 h2
theorem i41_22 {w0 w2 : Value} {x : Int32} : WP V 41 22 [w0, .int x, w2] st t I L R Q = WP V 41 23 [w0, .int x, w2] (.int x :: st) t I L R Q := wp_go rfl
theorem i41_23  : WP V 41 23 ls st t I L R Q = WP V 41 24 ls (.int (nI 581) :: st) t I L R Q := wp_go rfl
theorem i41_24 {x y : Int32} : WP V 41 24 ls (.int y :: .int x :: st) t I L R Q = WP V 41 25 ls (.int (x * y) :: st) t I L R Q := wp_go rfl
theorem i41_25  : WP V 41 25 ls st t I L R Q = WP V 41 26 ls (.int (nI 49) :: st) t I L R Q := wp_go rfl
theorem i41_26 {x y : Int32} : WP V 41 26 ls (.int y :: .int x :: st) t I L R Q = WP V 41 27 ls (.int (x + y) :: st) t I L R Q := wp_go rfl
theorem i41_27 {w1 w2 : Value} {x : Nat} : WP V 41 27 [.ref x, w1, w2] st t I L R Q = WP V 41 28 [.ref x, w1, w2] (.ref x :: st) t I L R Q := wp_go rfl
theorem i41_28 {k : Nat} (h1 : k < t) (h2 : m_ob k 2 = true) : WP V 41 28 ls (.ref k :: st) t I L R Q = WP V 41 29 ls (m_rv (R k 9) :: st) t I L R Q := wp_getR rfl (by decide) h1 h2
theorem i41_29 {w0 w1 : Value} {x : Int32} : WP V 41 29 [w0, w1, .int x] st t I L R Q = WP V 41 30 [w0, w1, .int x] (.int x :: st) t I L R Q := wp_go rfl
theorem i41_30  : WP V 41 30 ls st t I L R Q = WP V 41 31 ls (.int (nI 16) :: st) t I L R Q := wp_go rfl
theorem i41_31 {s d sp dp cnt : Nat} (h3 : m_ar s 2 232400 = true) (h4 : m_ar d 2 7600 = true) (h1 : s < t) (h2 : d < t) (h5 : sp + cnt ≤ 232400) (h6 : dp + cnt ≤ 7600) : WP V 41 31 ls [.int (nI cnt), .int (nI dp), .ref d, .int (nI sp), .ref s] t I L R Q = WP V 41 32 ls [] t (m_sc I d (va_cpy (I s) (I d) sp dp cnt)) L R Q := wp_copyi rfl (by decide) (by decide) h1 h2 h3 h4 h5 h6 (by decide)
theorem i41_32 {w1 w2 : Value} {x : Nat} : WP V 41 32 [.ref x, w1, w2] st t I L R Q = WP V 41 33 [.ref x, w1, w2] (.ref x :: st) t I L R Q := wp_go rfl
theorem i41_33 {k : Nat} (h1 : k < t) (h2 : m_ob k 2 = true) : WP V 41 33 ls (.ref k :: st) t I L R Q = WP V 41 34 ls (m_rv (R k 4) :: st) t I L R Q := wp_getR rfl (by decide) h1 h2
theorem i41_34 {w0 w2 : Value} {x : Int32} : WP V 41 34 [w0, .int x, w2] st t I L R Q = WP V 41 35 [w0, .int x, w2] (.int x :: st) t I L R Q := wp_go rfl
theorem i41_35  : WP V 41 35 ls st t I L R Q = WP V 41 36 ls (.int (nI 581) :: st) t I L R Q := wp_go rfl
theorem i41_36 {x y : Int32} : WP V 41 36 ls (.int y :: .int x :: st) t I L R Q = WP V 41 37 ls (.int (x * y) :: st) t I L R Q := wp_go rfl
theorem i41_37  : WP V 41 37 ls st t I L R Q = WP V 41 38 ls (.int (nI 3) :: st) t I L R Q := wp_go rfl
theorem i41_38 {x y : Int32} : WP V 41 38 ls (.int y :: .int x :: st) t I L R Q = WP V 41 39 ls (.int (x + y) :: st) t I L R Q := wp_go rfl
theorem i41_39 {w1 w2 : Value} {x : Nat} : WP V 41 39 [.ref x, w1, w2] st t I L R Q = WP V 41 40 [.ref x, w1, w2] (.ref x :: st) t I L R Q := wp_go rfl
theorem i41_40 {k : Nat} (h1 : k < t) (h2 : m_ob k 2 = true) : WP V 41 40 ls (.ref k :: st) t I L R Q = WP V 41 41 ls (m_rv (R k 9) :: st) t I L R Q := wp_getR rfl (by decide) h1 h2
theorem i41_41 {w0 w1 : Value} {x : Int32} : WP V 41 41 [w0, w1, .int x] st t I L R Q = WP V 41 42 [w0, w1, .int x] (.int x :: st) t I L R Q := wp_go rfl
theorem i41_42  : WP V 41 42 ls st t I L R Q = WP V 41 43 ls (.int (nI 16) :: st) t I L R Q := wp_go rfl
theorem i41_43 {x y : Int32} : WP V 41 43 ls (.int y :: .int x :: st) t I L R Q = WP V 41 44 ls (.int (x + y) :: st) t I L R Q := wp_go rfl
theorem i41_44  : WP V 41 44 ls st t I L R Q = WP V 41 45 ls (.int (nI 3) :: st) t I L R Q := wp_go rfl
theorem i41_45 {s d sp dp cnt : Nat} (h3 : m_ar s 2 232400 = true) (h4 : m_ar d 2 7600 = true) (h1 : s < t) (h2 : d < t) (h5 : sp + cnt ≤ 232400) (h6 : dp + cnt ≤ 7600) : WP V 41 45 ls [.int (nI cnt), .int (nI dp), .ref d, .int (nI sp), .ref s] t I L R Q = WP V 41 46 ls [] t (m_sc I d (va_cpy (I s) (I d) sp dp cnt)) L R Q := wp_copyi rfl (by decide) (by decide) h1 h2 h3 h4 h5 h6 (by decide)
theorem i41_46 {w1 w2 : Value} {x : Nat} : WP V 41 46 [.ref x, w1, w2] st t I L R Q = WP V 41 47 [.ref x, w1, w2] (.ref x :: st) t I L R Q := wp_go rfl
theorem i41_47 {w0 w1 : Value} {x : Int32} : WP V 41 47 [w0, w1, .int x] st t I L R Q = WP V 41 48 [w0, w1, .int x] (.int x :: st) t I L R Q := wp_go rfl
theorem i41_48 {x0 : Int32} {x1 : Nat}  (h1 : x1 < t) (h2 : m_ob x1 2 = true) : WP V 41 48 ls [.int x0, .ref x1] t I L R Q = WPC V 42 [.ref x1, .int x0] 41 49 ls [] t I L R Q := wp_cls (wp_icv rfl rfl h1 h2) (by decide) (Nat.le_of_ble_eq_true rfl) rfl rfl (Nat.le_of_ble_eq_true rfl) (Nat.le_of_ble_eq_true rfl)
theorem i41_49 {x : Int32} : WP V 41 49 ls (.int x :: st) t I L R Q = if x = nI 0 then WP V 41 56 ls st t I L R Q else WP V 41 50 ls st t I L R Q := wp_br (c := m_cc .eq x 0) rfl rfl
theorem i41_50 {w1 w2 : Value} {x : Nat} : WP V 41 50 [.ref x, w1, w2] st t I L R Q = WP V 41 51 [.ref x, w1, w2] (.ref x :: st) t I L R Q := wp_go rfl
theorem i41_51 {v0 : Nat} : WP V 41 51 ls (.ref v0 :: st) t I L R Q = WP V 41 52 ls (.ref v0 :: .ref v0 :: st) t I L R Q := wp_go rfl
theorem i41_52 {k : Nat} (h1 : k < t) (h2 : m_ob k 2 = true) : WP V 41 52 ls (.ref k :: st) t I L R Q = WP V 41 53 ls (.int (I k 10) :: st) t I L R Q := wp_getI rfl (by decide) h1 h2
theorem i41_53  : WP V 41 53 ls st t I L R Q = WP V 41 54 ls (.int (nI 1) :: st) t I L R Q := wp_go rfl
theorem i41_54 {x y : Int32} : WP V 41 54 ls (.int y :: .int x :: st) t I L R Q = WP V 41 55 ls (.int (x + y) :: st) t I L R Q := wp_go rfl
theorem i41_55 {k : Nat} {x : Int32} (h1 : k < t) (h2 : m_ob k 2 = true) : WP V 41 55 ls (.int x :: .ref k :: st) t I L R Q = WP V 41 56 ls st t (m_sc I k (m_sc (I k) 10 x)) L R Q := wp_putI rfl (by decide) h1 h2
theorem i41_56 {p : Nat} {w2 : Value} {x : Int32} : WP V 41 56 [.ref p, .int x, w2] st t I L R Q = WP V 41 57 [.ref p, .int (x + (nI 1)), w2] st t I L R Q := wp_go rfl
theorem i41_57  : WP V 41 57 ls st t I L R Q = WP V 41 5 ls st t I L R Q := wp_go rfl
theorem i41_58  : WP V 41 58 ls [] t I L R Q = Q none t I L R := wp_rtv rfl rfl
-- TransactionCells$Explorer.isNewEnd(I)Z
theorem i42_0  : WP V 42 0 ls st t I L R Q = WP V 42 1 ls (.int (nI 0) :: st) t I L R Q := wp_go rfl
theorem i42_1 {p : Int32} {w0 w2 w3 : Value} {x : Int32} : WP V 42 1 [w0, .int p, w2, w3] (.int x :: st) t I L R Q = WP V 42 2 [w0, .int p, .int x, w3] st t I L R Q := wp_go rfl
theorem i42_2 {w0 w1 w3 : Value} {x : Int32} : WP V 42 2 [w0, w1, .int x, w3] st t I L R Q = WP V 42 3 [w0, w1, .int x, w3] (.int x :: st) t I L R Q := wp_go rfl
theorem i42_3 {w0 w2 w3 : Value} {x : Int32} : WP V 42 3 [w0, .int x, w2, w3] st t I L R Q = WP V 42 4 [w0, .int x, w2, w3] (.int x :: st) t I L R Q := wp_go rfl
theorem i42_4 {x y : Int32} : WP V 42 4 ls (.int y :: .int x :: st) t I L R Q = if y ≤ x then WP V 42 32 ls st t I L R Q else WP V 42 5 ls st t I L R Q := wp_br (c := m_cc .ge x y) rfl rfl
theorem i42_5  : WP V 42 5 ls st t I L R Q = WP V 42 6 ls (.int (nI 0) :: st) t I L R Q := wp_go rfl
theorem i42_6 {p : Int32} {w0 w1 w3 : Value} {x : Int32} : WP V 42 6 [w0, w1, .int p, w3] (.int x :: st) t I L R Q = WP V 42 7 [w0, w1, .int p, .int x] st t I L R Q := wp_go rfl
theorem i42_7 {w0 w1 w2 : Value} {x : Int32} : WP V 42 7 [w0, w1, w2, .int x] st t I L R Q = WP V 42 8 [w0, w1, w2, .int x] (.int x :: st) t I L R Q := wp_go rfl
theorem i42_8  : WP V 42 8 ls st t I L R Q = WP V 42 9 ls (.int (nI 19) :: st) t I L R Q := wp_go rfl
theorem i42_9 {x y : Int32} : WP V 42 9 ls (.int y :: .int x :: st) t I L R Q = if y ≤ x then WP V 42 25 ls st t I L R Q else WP V 42 10 ls st t I L R Q := wp_br (c := m_cc .ge x y) rfl rfl
theorem i42_10 {w1 w2 w3 : Value} {x : Nat} : WP V 42 10 [.ref x, w1, w2, w3] st t I L R Q = WP V 42 11 [.ref x, w1, w2, w3] (.ref x :: st) t I L R Q := wp_go rfl
theorem i42_11 {k : Nat} (h1 : k < t) (h2 : m_ob k 2 = true) : WP V 42 11 ls (.ref k :: st) t I L R Q = WP V 42 12 ls (m_rv (R k 9) :: st) t I L R Q := wp_getR rfl (by decide) h1 h2
theorem i42_12 {w0 w1 w3 : Value} {x : Int32} : WP V 42 12 [w0, w1, .int x, w3] st t I L R Q = WP V 42 13 [w0, w1, .int x, w3] (.int x :: st) t I L R Q := wp_go rfl
theorem i42_13 {w0 w1 w2 : Value} {x : Int32} : WP V 42 13 [w0, w1, w2, .int x] st t I L R Q = WP V 42 14 [w0, w1, w2, .int x] (.int x :: st) t I L R Q := wp_go rfl
theorem i42_14 {x y : Int32} : WP V 42 14 ls (.int y :: .int x :: st) t I L R Q = WP V 42 15 ls (.int (x + y) :: st) t I L R Q := wp_go rfl
theorem i42_15 {k j : Nat} (h2 : m_ar k 2 7600 = true) (h1 : k < t) (h3 : j < 7600) : WP V 42 15 ls (.int (nI j) :: .ref k :: st) t I L R Q = WP V 42 16 ls (.int (I k j) :: st) t I L R Q := wp_iaload rfl (by decide) h1 h2 h3
theorem i42_16 {w1 w2 w3 : Value} {x : Nat} : WP V 42 16 [.ref x, w1, w2, w3] st t I L R Q = WP V 42 17 [.ref x, w1, w2, w3] (.ref x :: st) t I L R Q := wp_go rfl
theorem i42_17 {k : Nat} (h1 : k < t) (h2 : m_ob k 2 = true) : WP V 42 17 ls (.ref k :: st) t I L R Q = WP V 42 18 ls (m_rv (R k 9) :: st) t I L R Q := wp_getR rfl (by decide) h1 h2
theorem i42_18 {w0 w2 w3 : Value} {x : Int32} : WP V 42 18 [w0, .int x, w2, w3] st t I L R Q = WP V 42 19 [w0, .int x, w2, w3] (.int x :: st) t I L R Q := wp_go rfl
theorem i42_19 {w0 w1 w2 : Value} {x : Int32} : WP V 42 19 [w0, w1, w2, .int x] st t I L R Q = WP V 42 20 [w0, w1, w2, .int x] (.int x :: st) t I L R Q := wp_go rfl
theorem i42_20 {x y : Int32} : WP V 42 20 ls (.int y :: .int x :: st) t I L R Q = WP V 42 21 ls (.int (x + y) :: st) t I L R Q := wp_go rfl
theorem i42_21 {k j : Nat} (h2 : m_ar k 2 7600 = true) (h1 : k < t) (h3 : j < 7600) : WP V 42 21 ls (.int (nI j) :: .ref k :: st) t I L R Q = WP V 42 22 ls (.int (I k j) :: st) t I L R Q := wp_iaload rfl (by decide) h1 h2 h3
theorem i42_22 {x y : Int32} : WP V 42 22 ls (.int y :: .int x :: st) t I L R Q = if x = y then WP V 42 23 ls st t I L R Q else WP V 42 25 ls st t I L R Q := wp_brn (c := m_cc .ne x y) rfl rfl
theorem i42_23 {p : Int32} {w0 w1 : Value} {x : Int32} : WP V 42 23 [w0, w1, .int p, .int x] st t I L R Q = WP V 42 24 [w0, w1, .int p, .int (x + (nI 1))] st t I L R Q := wp_go rfl
theorem i42_24  : WP V 42 24 ls st t I L R Q = WP V 42 7 ls st t I L R Q := wp_go rfl
theorem i42_25 {w0 w1 w2 : Value} {x : Int32} : WP V 42 25 [w0, w1, w2, .int x] st t I L R Q = WP V 42 26 [w0, w1, w2, .int x] (.int x :: st) t I L R Q := wp_go rfl
theorem i42_26  : WP V 42 26 ls st t I L R Q = WP V 42 27 ls (.int (nI 19) :: st) t I L R Q := wp_go rfl
theorem i42_27 {x y : Int32} : WP V 42 27 ls (.int y :: .int x :: st) t I L R Q = if x = y then WP V 42 28 ls st t I L R Q else WP V 42 30 ls st t I L R Q := wp_brn (c := m_cc .ne x y) rfl rfl
theorem i42_28  : WP V 42 28 ls st t I L R Q = WP V 42 29 ls (.int (nI 0) :: st) t I L R Q := wp_go rfl
theorem i42_29 {x : Int32} (h : m_01 x = true) : WP V 42 29 ls [.int x] t I L R Q = Q (some (.int x)) t I L R := wp_rtz rfl rfl h
theorem i42_30 {p : Int32} {w0 w3 : Value} {x : Int32} : WP V 42 30 [w0, .int p, .int x, w3] st t I L R Q = WP V 42 31 [w0, .int p, .int (x + (nI 19)), w3] st t I L R Q := wp_go rfl
theorem i42_31  : WP V 42 31 ls st t I L R Q = WP V 42 2 ls st t I L R Q := wp_go rfl
theorem i42_32  : WP V 42 32 ls st t I L R Q = WP V 42 33 ls (.int (nI 1) :: st) t I L R Q := wp_go rfl
theorem i42_33 {x : Int32} (h : m_01 x = true) : WP V 42 33 ls [.int x] t I L R Q = Q (some (.int x)) t I L R := wp_rtz rfl rfl h
-- TransactionCells$House.<init>()V
theorem i43_0 {x : Nat} : WP V 43 0 [.ref x] st t I L R Q = WP V 43 1 [.ref x] (.ref x :: st) t I L R Q := wp_go rfl
theorem i43_1 {k : Nat}  : WP V 43 1 ls [.ref k] t I L R Q = WP V 43 2 ls [] t I L R Q := wp_objI rfl (Nat.le_of_ble_eq_true rfl)
theorem i43_2 {x : Nat} : WP V 43 2 [.ref x] st t I L R Q = WP V 43 3 [.ref x] (.ref x :: st) t I L R Q := wp_go rfl
theorem i43_3  : WP V 43 3 ls st t I L R Q = WP V 43 4 ls (.int (nI 581) :: st) t I L R Q := wp_go rfl
theorem i43_4 {N : Nat} (h : m_ar t 2 N = true) : WP V 43 4 ls (.int (nI N) :: st) t I L R Q = WP V 43 5 ls (.ref t :: st) (t + 1) (m_sc I t (fun _ => 0)) (m_sc L t (fun _ => 0)) R Q := wp_newi rfl h
theorem i43_5 {k x : Nat} (h1 : k < t) (h2 : m_ob k 3 = true) : WP V 43 5 ls (.ref x :: .ref k :: st) t I L R Q = WP V 43 6 ls st t I L (m_sc R k (m_sc (R k) 0 (some x))) Q := wp_putR rfl (by decide) h1 h2
theorem i43_5n {k : Nat} (h1 : k < t) (h2 : m_ob k 3 = true) : WP V 43 5 ls (.null :: .ref k :: st) t I L R Q = WP V 43 6 ls st t I L (m_sc R k (m_sc (R k) 0 none)) Q := wp_putN rfl (by decide) h1 h2
theorem i43_6 {x : Nat} : WP V 43 6 [.ref x] st t I L R Q = WP V 43 7 [.ref x] (.ref x :: st) t I L R Q := wp_go rfl
theorem i43_7 (h : m_ob t 0 = true) : WP V 43 7 ls st t I L R Q = WP V 43 8 ls (.ref t :: st) (t + 1) (m_sc I t (fun _ => 0)) L (m_sc R t (fun _ => none)) Q := wp_new rfl h
theorem i43_8 {v0 : Nat} : WP V 43 8 ls (.ref v0 :: st) t I L R Q = WP V 43 9 ls (.ref v0 :: .ref v0 :: st) t I L R Q := wp_go rfl
theorem i43_9 {x0 : Nat} {r0 : Nat} {r1 : Nat} (h1 : x0 < t) : WP V 43 9 ls [.ref x0, .ref r0, .ref r1] t I L R Q = WPC V 0 [.ref x0] 43 10 ls [.ref r0, .ref r1] t I L R Q := wp_cls (wp_icp rfl (by decide) rfl h1) (by decide) (Nat.le_of_ble_eq_true rfl) rfl rfl (Nat.le_of_ble_eq_true rfl) (Nat.le_of_ble_eq_true rfl)
theorem i43_10 {k x : Nat} (h1 : k < t) (h2 : m_ob k 3 = true) : WP V 43 10 ls (.ref x :: .ref k :: st) t I L R Q = WP V 43 11 ls st t I L (m_sc R k (m_sc (R k) 1 (some x))) Q := wp_putR rfl (by decide) h1 h2
theorem i43_10n {k : Nat} (h1 : k < t) (h2 : m_ob k 3 = true) : WP V 43 10 ls (.null :: .ref k :: st) t I L R Q = WP V 43 11 ls st t I L (m_sc R k (m_sc (R k) 1 none)) Q := wp_putN rfl (by decide) h1 h2
theorem i43_11 {x : Nat} : WP V 43 11 [.ref x] st t I L R Q = WP V 43 12 [.ref x] (.ref x :: st) t I L R Q := wp_go rfl
theorem i43_12 (h : m_ob t 5 = true) : WP V 43 12 ls st t I L R Q = WP V 43 13 ls (.ref t :: st) (t + 1) (m_sc I t (fun _ => 0)) L (m_sc R t (fun _ => none)) Q := wp_new rfl h
theorem i43_13 {v0 : Nat} : WP V 43 13 ls (.ref v0 :: st) t I L R Q = WP V 43 14 ls (.ref v0 :: .ref v0 :: st) t I L R Q := wp_go rfl
theorem i43_14 {x0 : Nat} {r0 : Nat} {r1 : Nat} (h1 : x0 < t) : WP V 43 14 ls [.ref x0, .ref r0, .ref r1] t I L R Q = WPC V 63 [.ref x0] 43 15 ls [.ref r0, .ref r1] t I L R Q := wp_cls (wp_icp rfl (by decide) rfl h1) (by decide) (Nat.le_of_ble_eq_true rfl) rfl rfl (Nat.le_of_ble_eq_true rfl) (Nat.le_of_ble_eq_true rfl)
theorem i43_15 {k x : Nat} (h1 : k < t) (h2 : m_ob k 3 = true) : WP V 43 15 ls (.ref x :: .ref k :: st) t I L R Q = WP V 43 16 ls st t I L (m_sc R k (m_sc (R k) 2 (some x))) Q := wp_putR rfl (by decide) h1 h2
theorem i43_15n {k : Nat} (h1 : k < t) (h2 : m_ob k 3 = true) : WP V 43 15 ls (.null :: .ref k :: st) t I L R Q = WP V 43 16 ls st t I L (m_sc R k (m_sc (R k) 2 none)) Q := wp_putN rfl (by decide) h1 h2
theorem i43_16 {x : Nat} : WP V 43 16 [.ref x] st t I L R Q = WP V 43 17 [.ref x] (.ref x :: st) t I L R Q := wp_go rfl
theorem i43_17 (h : m_ob t 4 = true) : WP V 43 17 ls st t I L R Q = WP V 43 18 ls (.ref t :: st) (t + 1) (m_sc I t (fun _ => 0)) L (m_sc R t (fun _ => none)) Q := wp_new rfl h
theorem i43_18 {v0 : Nat} : WP V 43 18 ls (.ref v0 :: st) t I L R Q = WP V 43 19 ls (.ref v0 :: .ref v0 :: st) t I L R Q := wp_go rfl
theorem i43_19 {x0 : Nat} {r0 : Nat} {r1 : Nat} (h1 : x0 < t) : WP V 43 19 ls [.ref x0, .ref r0, .ref r1] t I L R Q = WPC V 53 [.ref x0] 43 20 ls [.ref r0, .ref r1] t I L R Q := wp_cls (wp_icp rfl (by decide) rfl h1) (by decide) (Nat.le_of_ble_eq_true rfl) rfl rfl (Nat.le_of_ble_eq_true rfl) (Nat.le_of_ble_eq_true rfl)
theorem i43_20 {k x : Nat} (h1 : k < t) (h2 : m_ob k 3 = true) : WP V 43 20 ls (.ref x :: .ref k :: st) t I L R Q = WP V 43 21 ls st t I L (m_sc R k (m_sc (R k) 3 (some x))) Q := wp_putR rfl (by decide) h1 h2
theorem i43_20n {k : Nat} (h1 : k < t) (h2 : m_ob k 3 = true) : WP V 43 20 ls (.null :: .ref k :: st) t I L R Q = WP V 43 21 ls st t I L (m_sc R k (m_sc (R k) 3 none)) Q := wp_putN rfl (by decide) h1 h2
theorem i43_21 {x : Nat} : WP V 43 21 [.ref x] st t I L R Q = WP V 43 22 [.ref x] (.ref x :: st) t I L R Q := wp_go rfl
theorem i43_22 {x0 : Nat}  (h1 : x0 < t) (h2 : m_ob x0 3 = true) : WP V 43 22 ls [.ref x0] t I L R Q = WPC V 46 [.ref x0] 43 23 ls [] t I L R Q := wp_cls (wp_icv rfl rfl h1 h2) (by decide) (Nat.le_of_ble_eq_true rfl) rfl rfl (Nat.le_of_ble_eq_true rfl) (Nat.le_of_ble_eq_true rfl)
theorem i43_23  : WP V 43 23 ls [] t I L R Q = Q none t I L R := wp_rtv rfl rfl
-- TransactionCells$House.isSort(I)Z
theorem i44_0 {x : Int32} : WP V 44 0 [.int x] st t I L R Q = WP V 44 1 [.int x] (.int x :: st) t I L R Q := wp_go rfl
theorem i44_1 {x : Int32} : WP V 44 1 ls (.int x :: st) t I L R Q = if x < nI 0 then WP V 44 7 ls st t I L R Q else WP V 44 2 ls st t I L R Q := wp_br (c := m_cc .lt x 0) rfl rfl
theorem i44_2 {x : Int32} : WP V 44 2 [.int x] st t I L R Q = WP V 44 3 [.int x] (.int x :: st) t I L R Q := wp_go rfl
theorem i44_3  : WP V 44 3 ls st t I L R Q = WP V 44 4 ls (.int (nI 2) :: st) t I L R Q := wp_go rfl
theorem i44_4 {x y : Int32} : WP V 44 4 ls (.int y :: .int x :: st) t I L R Q = if y < x then WP V 44 7 ls st t I L R Q else WP V 44 5 ls st t I L R Q := wp_br (c := m_cc .gt x y) rfl rfl
theorem i44_5  : WP V 44 5 ls st t I L R Q = WP V 44 6 ls (.int (nI 1) :: st) t I L R Q := wp_go rfl
theorem i44_6  : WP V 44 6 ls st t I L R Q = WP V 44 8 ls st t I L R Q := wp_go rfl
theorem i44_7  : WP V 44 7 ls st t I L R Q = WP V 44 8 ls (.int (nI 0) :: st) t I L R Q := wp_go rfl
theorem i44_8 {x : Int32} (h : m_01 x = true) : WP V 44 8 ls [.int x] t I L R Q = Q (some (.int x)) t I L R := wp_rtz rfl rfl h
-- TransactionCells$House.copyFrom(LTransactionCells$House;)V
theorem i45_0 {w0 : Value} {x : Nat} : WP V 45 0 [w0, .ref x] st t I L R Q = WP V 45 1 [w0, .ref x] (.ref x :: st) t I L R Q := wp_go rfl
theorem i45_1 {k : Nat} (h1 : k < t) (h2 : m_ob k 3 = true) : WP V 45 1 ls (.ref k :: st) t I L R Q = WP V 45 2 ls (m_rv (R k 0) :: st) t I L R Q := wp_getR rfl (by decide) h1 h2
theorem i45_2  : WP V 45 2 ls st t I L R Q = WP V 45 3 ls (.int (nI 0) :: st) t I L R Q := wp_go rfl
theorem i45_3 {w1 : Value} {x : Nat} : WP V 45 3 [.ref x, w1] st t I L R Q = WP V 45 4 [.ref x, w1] (.ref x :: st) t I L R Q := wp_go rfl
theorem i45_4 {k : Nat} (h1 : k < t) (h2 : m_ob k 3 = true) : WP V 45 4 ls (.ref k :: st) t I L R Q = WP V 45 5 ls (m_rv (R k 0) :: st) t I L R Q := wp_getR rfl (by decide) h1 h2
theorem i45_5  : WP V 45 5 ls st t I L R Q = WP V 45 6 ls (.int (nI 0) :: st) t I L R Q := wp_go rfl
theorem i45_6  : WP V 45 6 ls st t I L R Q = WP V 45 7 ls (.int (nI 581) :: st) t I L R Q := wp_go rfl
theorem i45_7 {s d sp dp cnt : Nat} (h3 : m_ar s 2 581 = true) (h4 : m_ar d 2 581 = true) (h1 : s < t) (h2 : d < t) (h5 : sp + cnt ≤ 581) (h6 : dp + cnt ≤ 581) : WP V 45 7 ls [.int (nI cnt), .int (nI dp), .ref d, .int (nI sp), .ref s] t I L R Q = WP V 45 8 ls [] t (m_sc I d (va_cpy (I s) (I d) sp dp cnt)) L R Q := wp_copyi rfl (by decide) (by decide) h1 h2 h3 h4 h5 h6 (by decide)
theorem i45_8 {w1 : Value} {x : Nat} : WP V 45 8 [.ref x, w1] st t I L R Q = WP V 45 9 [.ref x, w1] (.ref x :: st) t I L R Q := wp_go rfl
theorem i45_9 {k : Nat} (h1 : k < t) (h2 : m_ob k 3 = true) : WP V 45 9 ls (.ref k :: st) t I L R Q = WP V 45 10 ls (m_rv (R k 1) :: st) t I L R Q := wp_getR rfl (by decide) h1 h2
theorem i45_10 {w0 : Value} {x : Nat} : WP V 45 10 [w0, .ref x] st t I L R Q = WP V 45 11 [w0, .ref x] (.ref x :: st) t I L R Q := wp_go rfl
theorem i45_11 {k : Nat} (h1 : k < t) (h2 : m_ob k 3 = true) : WP V 45 11 ls (.ref k :: st) t I L R Q = WP V 45 12 ls (m_rv (R k 1) :: st) t I L R Q := wp_getR rfl (by decide) h1 h2
theorem i45_12 {x0 : Nat} {x1 : Nat}  (h1 : x1 < t) (h2 : m_ob x1 0 = true) : WP V 45 12 ls [.ref x0, .ref x1] t I L R Q = WPC V 6 [.ref x1, .ref x0] 45 13 ls [] t I L R Q := wp_cls (wp_icv rfl rfl h1 h2) (by decide) (Nat.le_of_ble_eq_true rfl) rfl rfl (Nat.le_of_ble_eq_true rfl) (Nat.le_of_ble_eq_true rfl)
theorem i45_13 {w1 : Value} {x : Nat} : WP V 45 13 [.ref x, w1] st t I L R Q = WP V 45 14 [.ref x, w1] (.ref x :: st) t I L R Q := wp_go rfl
theorem i45_14 {k : Nat} (h1 : k < t) (h2 : m_ob k 3 = true) : WP V 45 14 ls (.ref k :: st) t I L R Q = WP V 45 15 ls (m_rv (R k 2) :: st) t I L R Q := wp_getR rfl (by decide) h1 h2
theorem i45_15 {w0 : Value} {x : Nat} : WP V 45 15 [w0, .ref x] st t I L R Q = WP V 45 16 [w0, .ref x] (.ref x :: st) t I L R Q := wp_go rfl
theorem i45_16 {k : Nat} (h1 : k < t) (h2 : m_ob k 3 = true) : WP V 45 16 ls (.ref k :: st) t I L R Q = WP V 45 17 ls (m_rv (R k 2) :: st) t I L R Q := wp_getR rfl (by decide) h1 h2
theorem i45_17 {x0 : Nat} {x1 : Nat}  (h1 : x1 < t) (h2 : m_ob x1 5 = true) : WP V 45 17 ls [.ref x0, .ref x1] t I L R Q = WPC V 68 [.ref x1, .ref x0] 45 18 ls [] t I L R Q := wp_cls (wp_icv rfl rfl h1 h2) (by decide) (Nat.le_of_ble_eq_true rfl) rfl rfl (Nat.le_of_ble_eq_true rfl) (Nat.le_of_ble_eq_true rfl)
theorem i45_18 {w1 : Value} {x : Nat} : WP V 45 18 [.ref x, w1] st t I L R Q = WP V 45 19 [.ref x, w1] (.ref x :: st) t I L R Q := wp_go rfl
theorem i45_19 {k : Nat} (h1 : k < t) (h2 : m_ob k 3 = true) : WP V 45 19 ls (.ref k :: st) t I L R Q = WP V 45 20 ls (m_rv (R k 3) :: st) t I L R Q := wp_getR rfl (by decide) h1 h2
theorem i45_20 {w0 : Value} {x : Nat} : WP V 45 20 [w0, .ref x] st t I L R Q = WP V 45 21 [w0, .ref x] (.ref x :: st) t I L R Q := wp_go rfl
theorem i45_21 {k : Nat} (h1 : k < t) (h2 : m_ob k 3 = true) : WP V 45 21 ls (.ref k :: st) t I L R Q = WP V 45 22 ls (m_rv (R k 3) :: st) t I L R Q := wp_getR rfl (by decide) h1 h2
theorem i45_22 {x0 : Nat} {x1 : Nat}  (h1 : x1 < t) (h2 : m_ob x1 4 = true) : WP V 45 22 ls [.ref x0, .ref x1] t I L R Q = WPC V 62 [.ref x1, .ref x0] 45 23 ls [] t I L R Q := wp_cls (wp_icv rfl rfl h1 h2) (by decide) (Nat.le_of_ble_eq_true rfl) rfl rfl (Nat.le_of_ble_eq_true rfl) (Nat.le_of_ble_eq_true rfl)
theorem i45_23  : WP V 45 23 ls [] t I L R Q = Q none t I L R := wp_rtv rfl rfl
-- TransactionCells$House.restart()V
theorem i46_0 {w1 : Value} {x : Nat} : WP V 46 0 [.ref x, w1] st t I L R Q = WP V 46 1 [.ref x, w1] (.ref x :: st) t I L R Q := wp_go rfl
theorem i46_1 {k : Nat} (h1 : k < t) (h2 : m_ob k 3 = true) : WP V 46 1 ls (.ref k :: st) t I L R Q = WP V 46 2 ls (m_rv (R k 0) :: st) t I L R Q := wp_getR rfl (by decide) h1 h2
theorem i46_2  : WP V 46 2 ls st t I L R Q = WP V 46 3 ls (.int (nI 0) :: st) t I L R Q := wp_go rfl
theorem i46_3  : WP V 46 3 ls st t I L R Q = WP V 46 4 ls (.int (nI 33) :: st) t I L R Q := wp_go rfl
theorem i46_4  : WP V 46 4 ls st t I L R Q = WP V 46 5 ls (.int (nI 0) :: st) t I L R Q := wp_go rfl
theorem i46_5 {x0 : Int32} {x1 : Int32} {x2 : Int32} {x3 : Nat}  : WP V 46 5 ls [.int x0, .int x1, .int x2, .ref x3] t I L R Q = WPC V 197 [.ref x3, .int x2, .int x1, .int x0] 46 6 ls [] t I L R Q := wp_cls (wp_ics rfl (by decide)) (by decide) (Nat.le_of_ble_eq_true rfl) rfl rfl (Nat.le_of_ble_eq_true rfl) (Nat.le_of_ble_eq_true rfl)
theorem i46_6 {w1 : Value} {x : Nat} : WP V 46 6 [.ref x, w1] st t I L R Q = WP V 46 7 [.ref x, w1] (.ref x :: st) t I L R Q := wp_go rfl
theorem i46_7 {k : Nat} (h1 : k < t) (h2 : m_ob k 3 = true) : WP V 46 7 ls (.ref k :: st) t I L R Q = WP V 46 8 ls (m_rv (R k 0) :: st) t I L R Q := wp_getR rfl (by decide) h1 h2
theorem i46_8  : WP V 46 8 ls st t I L R Q = WP V 46 9 ls (.int (nI 1) :: st) t I L R Q := wp_go rfl
theorem i46_9  : WP V 46 9 ls st t I L R Q = WP V 46 10 ls (.int (-1) :: st) t I L R Q := wp_go rfl
theorem i46_10 {k j : Nat} {x : Int32} (h2 : m_ar k 2 581 = true) (h1 : k < t) (h3 : j < 581) : WP V 46 10 ls (.int x :: .int (nI j) :: .ref k :: st) t I L R Q = WP V 46 11 ls st t (m_sc I k (m_sc (I k) j x)) L R Q := wp_iastore rfl (by decide) h1 h2 h3
theorem i46_11 {w1 : Value} {x : Nat} : WP V 46 11 [.ref x, w1] st t I L R Q = WP V 46 12 [.ref x, w1] (.ref x :: st) t I L R Q := wp_go rfl
theorem i46_12 {k : Nat} (h1 : k < t) (h2 : m_ob k 3 = true) : WP V 46 12 ls (.ref k :: st) t I L R Q = WP V 46 13 ls (m_rv (R k 0) :: st) t I L R Q := wp_getR rfl (by decide) h1 h2
theorem i46_13  : WP V 46 13 ls st t I L R Q = WP V 46 14 ls (.int (nI 2) :: st) t I L R Q := wp_go rfl
theorem i46_14  : WP V 46 14 ls st t I L R Q = WP V 46 15 ls (.int (-1) :: st) t I L R Q := wp_go rfl
theorem i46_15 {k j : Nat} {x : Int32} (h2 : m_ar k 2 581 = true) (h1 : k < t) (h3 : j < 581) : WP V 46 15 ls (.int x :: .int (nI j) :: .ref k :: st) t I L R Q = WP V 46 16 ls st t (m_sc I k (m_sc (I k) j x)) L R Q := wp_iastore rfl (by decide) h1 h2 h3
theorem i46_16 {w1 : Value} {x : Nat} : WP V 46 16 [.ref x, w1] st t I L R Q = WP V 46 17 [.ref x, w1] (.ref x :: st) t I L R Q := wp_go rfl
theorem i46_17 {k : Nat} (h1 : k < t) (h2 : m_ob k 3 = true) : WP V 46 17 ls (.ref k :: st) t I L R Q = WP V 46 18 ls (m_rv (R k 0) :: st) t I L R Q := wp_getR rfl (by decide) h1 h2
theorem i46_18  : WP V 46 18 ls st t I L R Q = WP V 46 19 ls (.int (nI 15) :: st) t I L R Q := wp_go rfl
theorem i46_19  : WP V 46 19 ls st t I L R Q = WP V 46 20 ls (.int (nI 18) :: st) t I L R Q := wp_go rfl
theorem i46_20  : WP V 46 20 ls st t I L R Q = WP V 46 21 ls (.int (-1) :: st) t I L R Q := wp_go rfl
theorem i46_21 {x0 : Int32} {x1 : Int32} {x2 : Int32} {x3 : Nat}  : WP V 46 21 ls [.int x0, .int x1, .int x2, .ref x3] t I L R Q = WPC V 197 [.ref x3, .int x2, .int x1, .int x0] 46 22 ls [] t I L R Q := wp_cls (wp_ics rfl (by decide)) (by decide) (Nat.le_of_ble_eq_true rfl) rfl rfl (Nat.le_of_ble_eq_true rfl) (Nat.le_of_ble_eq_true rfl)
theorem i46_22 {w1 : Value} {x : Nat} : WP V 46 22 [.ref x, w1] st t I L R Q = WP V 46 23 [.ref x, w1] (.ref x :: st) t I L R Q := wp_go rfl
theorem i46_23 {k : Nat} (h1 : k < t) (h2 : m_ob k 3 = true) : WP V 46 23 ls (.ref k :: st) t I L R Q = WP V 46 24 ls (m_rv (R k 0) :: st) t I L R Q := wp_getR rfl (by decide) h1 h2
theorem i46_24  : WP V 46 24 ls st t I L R Q = WP V 46 25 ls (.int (nI 33) :: st) t I L R Q := wp_go rfl
theorem i46_25  : WP V 46 25 ls st t I L R Q = WP V 46 26 ls (.int (nI 49) :: st) t I L R Q := wp_go rfl
theorem i46_26  : WP V 46 26 ls st t I L R Q = WP V 46 27 ls (.int (-1) :: st) t I L R Q := wp_go rfl
theorem i46_27 {x0 : Int32} {x1 : Int32} {x2 : Int32} {x3 : Nat}  : WP V 46 27 ls [.int x0, .int x1, .int x2, .ref x3] t I L R Q = WPC V 197 [.ref x3, .int x2, .int x1, .int x0] 46 28 ls [] t I L R Q := wp_cls (wp_ics rfl (by decide)) (by decide) (Nat.le_of_ble_eq_true rfl) rfl rfl (Nat.le_of_ble_eq_true rfl) (Nat.le_of_ble_eq_true rfl)
theorem i46_28 {w1 : Value} {x : Nat} : WP V 46 28 [.ref x, w1] st t I L R Q = WP V 46 29 [.ref x, w1] (.ref x :: st) t I L R Q := wp_go rfl
theorem i46_29 {k : Nat} (h1 : k < t) (h2 : m_ob k 3 = true) : WP V 46 29 ls (.ref k :: st) t I L R Q = WP V 46 30 ls (m_rv (R k 0) :: st) t I L R Q := wp_getR rfl (by decide) h1 h2
theorem i46_30  : WP V 46 30 ls st t I L R Q = WP V 46 31 ls (.int (nI 65) :: st) t I L R Q := wp_go rfl
theorem i46_31  : WP V 46 31 ls st t I L R Q = WP V 46 32 ls (.int (nI 73) :: st) t I L R Q := wp_go rfl
theorem i46_32  : WP V 46 32 ls st t I L R Q = WP V 46 33 ls (.int (nI 0) :: st) t I L R Q := wp_go rfl
theorem i46_33 {x0 : Int32} {x1 : Int32} {x2 : Int32} {x3 : Nat}  : WP V 46 33 ls [.int x0, .int x1, .int x2, .ref x3] t I L R Q = WPC V 197 [.ref x3, .int x2, .int x1, .int x0] 46 34 ls [] t I L R Q := wp_cls (wp_ics rfl (by decide)) (by decide) (Nat.le_of_ble_eq_true rfl) rfl rfl (Nat.le_of_ble_eq_true rfl) (Nat.le_of_ble_eq_true rfl)
theorem i46_34 {w1 : Value} {x : Nat} : WP V 46 34 [.ref x, w1] st t I L R Q = WP V 46 35 [.ref x, w1] (.ref x :: st) t I L R Q := wp_go rfl
theorem i46_35 {k : Nat} (h1 : k < t) (h2 : m_ob k 3 = true) : WP V 46 35 ls (.ref k :: st) t I L R Q = WP V 46 36 ls (m_rv (R k 0) :: st) t I L R Q := wp_getR rfl (by decide) h1 h2
theorem i46_36  : WP V 46 36 ls st t I L R Q = WP V 46 37 ls (.int (nI 73) :: st) t I L R Q := wp_go rfl
theorem i46_37  : WP V 46 37 ls st t I L R Q = WP V 46 38 ls (.int (nI 145) :: st) t I L R Q := wp_go rfl
theorem i46_38  : WP V 46 38 ls st t I L R Q = WP V 46 39 ls (.int (-1) :: st) t I L R Q := wp_go rfl
theorem i46_39 {x0 : Int32} {x1 : Int32} {x2 : Int32} {x3 : Nat}  : WP V 46 39 ls [.int x0, .int x1, .int x2, .ref x3] t I L R Q = WPC V 197 [.ref x3, .int x2, .int x1, .int x0] 46 40 ls [] t I L R Q := wp_cls (wp_ics rfl (by decide)) (by decide) (Nat.le_of_ble_eq_true rfl) rfl rfl (Nat.le_of_ble_eq_true rfl) (Nat.le_of_ble_eq_true rfl)
theorem i46_40 {w1 : Value} {x : Nat} : WP V 46 40 [.ref x, w1] st t I L R Q = WP V 46 41 [.ref x, w1] (.ref x :: st) t I L R Q := wp_go rfl
theorem i46_41 {k : Nat} (h1 : k < t) (h2 : m_ob k 3 = true) : WP V 46 41 ls (.ref k :: st) t I L R Q = WP V 46 42 ls (m_rv (R k 0) :: st) t I L R Q := wp_getR rfl (by decide) h1 h2
theorem i46_42  : WP V 46 42 ls st t I L R Q = WP V 46 43 ls (.int (nI 145) :: st) t I L R Q := wp_go rfl
theorem i46_43  : WP V 46 43 ls st t I L R Q = WP V 46 44 ls (.int (nI 559) :: st) t I L R Q := wp_go rfl
theorem i46_44  : WP V 46 44 ls st t I L R Q = WP V 46 45 ls (.int (nI 0) :: st) t I L R Q := wp_go rfl
theorem i46_45 {x0 : Int32} {x1 : Int32} {x2 : Int32} {x3 : Nat}  : WP V 46 45 ls [.int x0, .int x1, .int x2, .ref x3] t I L R Q = WPC V 197 [.ref x3, .int x2, .int x1, .int x0] 46 46 ls [] t I L R Q := wp_cls (wp_ics rfl (by decide)) (by decide) (Nat.le_of_ble_eq_true rfl) rfl rfl (Nat.le_of_ble_eq_true rfl) (Nat.le_of_ble_eq_true rfl)
theorem i46_46  : WP V 46 46 ls st t I L R Q = WP V 46 47 ls (.int (nI 0) :: st) t I L R Q := wp_go rfl
theorem i46_47 {p : Nat} {w1 : Value} {x : Int32} : WP V 46 47 [.ref p, w1] (.int x :: st) t I L R Q = WP V 46 48 [.ref p, .int x] st t I L R Q := wp_go rfl
theorem i46_48 {w0 : Value} {x : Int32} : WP V 46 48 [w0, .int x] st t I L R Q = WP V 46 49 [w0, .int x] (.int x :: st) t I L R Q := wp_go rfl
theorem i46_49  : WP V 46 49 ls st t I L R Q = WP V 46 50 ls (.int (nI 3) :: st) t I L R Q := wp_go rfl
theorem i46_50 {x y : Int32} : WP V 46 50 ls (.int y :: .int x :: st) t I L R Q = if y ≤ x then WP V 46 56 ls st t I L R Q else WP V 46 51 ls st t I L R Q := wp_br (c := m_cc .ge x y) rfl rfl
theorem i46_51 {w1 : Value} {x : Nat} : WP V 46 51 [.ref x, w1] st t I L R Q = WP V 46 52 [.ref x, w1] (.ref x :: st) t I L R Q := wp_go rfl
theorem i46_52 {w0 : Value} {x : Int32} : WP V 46 52 [w0, .int x] st t I L R Q = WP V 46 53 [w0, .int x] (.int x :: st) t I L R Q := wp_go rfl
theorem i46_53 {x0 : Int32} {x1 : Nat}  (h1 : x1 < t) (h2 : m_ob x1 3 = true) : WP V 46 53 ls [.int x0, .ref x1] t I L R Q = WPC V 51 [.ref x1, .int x0] 46 54 ls [] t I L R Q := wp_cls (wp_icv rfl rfl h1 h2) (by decide) (Nat.le_of_ble_eq_true rfl) rfl rfl (Nat.le_of_ble_eq_true rfl) (Nat.le_of_ble_eq_true rfl)
theorem i46_54 {p : Nat} {x : Int32} : WP V 46 54 [.ref p, .int x] st t I L R Q = WP V 46 55 [.ref p, .int (x + (nI 1))] st t I L R Q := wp_go rfl
theorem i46_55  : WP V 46 55 ls st t I L R Q = WP V 46 48 ls st t I L R Q := wp_go rfl
theorem i46_56 {w1 : Value} {x : Nat} : WP V 46 56 [.ref x, w1] st t I L R Q = WP V 46 57 [.ref x, w1] (.ref x :: st) t I L R Q := wp_go rfl
theorem i46_57 {k : Nat} (h1 : k < t) (h2 : m_ob k 3 = true) : WP V 46 57 ls (.ref k :: st) t I L R Q = WP V 46 58 ls (m_rv (R k 3) :: st) t I L R Q := wp_getR rfl (by decide) h1 h2
theorem i46_58  : WP V 46 58 ls st t I L R Q = WP V 46 59 ls (.int (nI 0) :: st) t I L R Q := wp_go rfl
theorem i46_59 {k : Nat} {x : Int32} (h1 : k < t) (h2 : m_ob k 4 = true) : WP V 46 59 ls (.int x :: .ref k :: st) t I L R Q = WP V 46 60 ls st t (m_sc I k (m_sc (I k) 2 x)) L R Q := wp_putI rfl (by decide) h1 h2
theorem i46_60 {w1 : Value} {x : Nat} : WP V 46 60 [.ref x, w1] st t I L R Q = WP V 46 61 [.ref x, w1] (.ref x :: st) t I L R Q := wp_go rfl
theorem i46_61 {x0 : Nat}  (h1 : x0 < t) (h2 : m_ob x0 3 = true) : WP V 46 61 ls [.ref x0] t I L R Q = WPC V 47 [.ref x0] 46 62 ls [] t I L R Q := wp_cls (wp_icv rfl rfl h1 h2) (by decide) (Nat.le_of_ble_eq_true rfl) rfl rfl (Nat.le_of_ble_eq_true rfl) (Nat.le_of_ble_eq_true rfl)
theorem i46_62  : WP V 46 62 ls [] t I L R Q = Q none t I L R := wp_rtv rfl rfl
-- TransactionCells$House.markFirst()V
theorem i47_0 {x : Nat} : WP V 47 0 [.ref x] st t I L R Q = WP V 47 1 [.ref x] (.ref x :: st) t I L R Q := wp_go rfl
theorem i47_1 {k : Nat} (h1 : k < t) (h2 : m_ob k 3 = true) : WP V 47 1 ls (.ref k :: st) t I L R Q = WP V 47 2 ls (m_rv (R k 0) :: st) t I L R Q := wp_getR rfl (by decide) h1 h2
theorem i47_2  : WP V 47 2 ls st t I L R Q = WP V 47 3 ls (.int (nI 49) :: st) t I L R Q := wp_go rfl
theorem i47_3 {x : Nat} : WP V 47 3 [.ref x] st t I L R Q = WP V 47 4 [.ref x] (.ref x :: st) t I L R Q := wp_go rfl
theorem i47_4 {k : Nat} (h1 : k < t) (h2 : m_ob k 3 = true) : WP V 47 4 ls (.ref k :: st) t I L R Q = WP V 47 5 ls (m_rv (R k 0) :: st) t I L R Q := wp_getR rfl (by decide) h1 h2
theorem i47_5  : WP V 47 5 ls st t I L R Q = WP V 47 6 ls (.int (nI 565) :: st) t I L R Q := wp_go rfl
theorem i47_6  : WP V 47 6 ls st t I L R Q = WP V 47 7 ls (.int (nI 16) :: st) t I L R Q := wp_go rfl
theorem i47_7 {s d sp dp cnt : Nat} (h3 : m_ar s 2 581 = true) (h4 : m_ar d 2 581 = true) (h1 : s < t) (h2 : d < t) (h5 : sp + cnt ≤ 581) (h6 : dp + cnt ≤ 581) : WP V 47 7 ls [.int (nI cnt), .int (nI dp), .ref d, .int (nI sp), .ref s] t I L R Q = WP V 47 8 ls [] t (m_sc I d (va_cpy (I s) (I d) sp dp cnt)) L R Q := wp_copyi rfl (by decide) (by decide) h1 h2 h3 h4 h5 h6 (by decide)
theorem i47_8  : WP V 47 8 ls [] t I L R Q = Q none t I L R := wp_rtv rfl rfl
-- TransactionCells$House.countBegun()I
theorem i48_0  : WP V 48 0 ls st t I L R Q = WP V 48 1 ls (.int (nI 0) :: st) t I L R Q := wp_go rfl
theorem i48_1 {p : Nat} {w1 w2 : Value} {x : Int32} : WP V 48 1 [.ref p, w1, w2] (.int x :: st) t I L R Q = WP V 48 2 [.ref p, .int x, w2] st t I L R Q := wp_go rfl
theorem i48_2  : WP V 48 2 ls st t I L R Q = WP V 48 3 ls (.int (nI 0) :: st) t I L R Q := wp_go rfl
theorem i48_3 {p : Int32} {w0 w2 : Value} {x : Int32} : WP V 48 3 [w0, .int p, w2] (.int x :: st) t I L R Q = WP V 48 4 [w0, .int p, .int x] st t I L R Q := wp_go rfl
theorem i48_4 {w0 w1 : Value} {x : Int32} : WP V 48 4 [w0, w1, .int x] st t I L R Q = WP V 48 5 [w0, w1, .int x] (.int x :: st) t I L R Q := wp_go rfl
theorem i48_5  : WP V 48 5 ls st t I L R Q = WP V 48 6 ls (.int (nI 3) :: st) t I L R Q := wp_go rfl
theorem i48_6 {x y : Int32} : WP V 48 6 ls (.int y :: .int x :: st) t I L R Q = if y ≤ x then WP V 48 17 ls st t I L R Q else WP V 48 7 ls st t I L R Q := wp_br (c := m_cc .ge x y) rfl rfl
theorem i48_7 {w1 w2 : Value} {x : Nat} : WP V 48 7 [.ref x, w1, w2] st t I L R Q = WP V 48 8 [.ref x, w1, w2] (.ref x :: st) t I L R Q := wp_go rfl
theorem i48_8 {k : Nat} (h1 : k < t) (h2 : m_ob k 3 = true) : WP V 48 8 ls (.ref k :: st) t I L R Q = WP V 48 9 ls (m_rv (R k 0) :: st) t I L R Q := wp_getR rfl (by decide) h1 h2
theorem i48_9  : WP V 48 9 ls st t I L R Q = WP V 48 10 ls (.int (nI 3) :: st) t I L R Q := wp_go rfl
theorem i48_10 {w0 w1 : Value} {x : Int32} : WP V 48 10 [w0, w1, .int x] st t I L R Q = WP V 48 11 [w0, w1, .int x] (.int x :: st) t I L R Q := wp_go rfl
theorem i48_11 {x y : Int32} : WP V 48 11 ls (.int y :: .int x :: st) t I L R Q = WP V 48 12 ls (.int (x + y) :: st) t I L R Q := wp_go rfl
theorem i48_12 {k j : Nat} (h2 : m_ar k 2 581 = true) (h1 : k < t) (h3 : j < 581) : WP V 48 12 ls (.int (nI j) :: .ref k :: st) t I L R Q = WP V 48 13 ls (.int (I k j) :: st) t I L R Q := wp_iaload rfl (by decide) h1 h2 h3
theorem i48_13 {x : Int32} : WP V 48 13 ls (.int x :: st) t I L R Q = if x = nI 0 then WP V 48 15 ls st t I L R Q else WP V 48 14 ls st t I L R Q := wp_br (c := m_cc .eq x 0) rfl rfl
theorem i48_14 {p : Nat} {w2 : Value} {x : Int32} : WP V 48 14 [.ref p, .int x, w2] st t I L R Q = WP V 48 15 [.ref p, .int (x + (nI 1)), w2] st t I L R Q := wp_go rfl
theorem i48_15 {p : Int32} {w0 : Value} {x : Int32} : WP V 48 15 [w0, .int p, .int x] st t I L R Q = WP V 48 16 [w0, .int p, .int (x + (nI 1))] st t I L R Q := wp_go rfl
theorem i48_16  : WP V 48 16 ls st t I L R Q = WP V 48 4 ls st t I L R Q := wp_go rfl
theorem i48_17 {w0 w2 : Value} {x : Int32} : WP V 48 17 [w0, .int x, w2] st t I L R Q = WP V 48 18 [w0, .int x, w2] (.int x :: st) t I L R Q := wp_go rfl
theorem i48_18 {x : Int32} : WP V 48 18 ls [.int x] t I L R Q = Q (some (.int x)) t I L R := wp_rti rfl rfl
-- TransactionCells$House.isBegun()Z
theorem i49_0 {x : Nat} : WP V 49 0 [.ref x] st t I L R Q = WP V 49 1 [.ref x] (.ref x :: st) t I L R Q := wp_go rfl
theorem i49_1 {x0 : Nat}  (h1 : x0 < t) (h2 : m_ob x0 3 = true) : WP V 49 1 ls [.ref x0] t I L R Q = WPC V 48 [.ref x0] 49 2 ls [] t I L R Q := wp_cls (wp_icv rfl rfl h1 h2) (by decide) (Nat.le_of_ble_eq_true rfl) rfl rfl (Nat.le_of_ble_eq_true rfl) (Nat.le_of_ble_eq_true rfl)
theorem i49_2 {x : Int32} : WP V 49 2 ls (.int x :: st) t I L R Q = if x ≤ nI 0 then WP V 49 5 ls st t I L R Q else WP V 49 3 ls st t I L R Q := wp_br (c := m_cc .le x 0) rfl rfl
theorem i49_3  : WP V 49 3 ls st t I L R Q = WP V 49 4 ls (.int (nI 1) :: st) t I L R Q := wp_go rfl
theorem i49_4  : WP V 49 4 ls st t I L R Q = WP V 49 6 ls st t I L R Q := wp_go rfl
theorem i49_5  : WP V 49 5 ls st t I L R Q = WP V 49 6 ls (.int (nI 0) :: st) t I L R Q := wp_go rfl
theorem i49_6 {x : Int32} (h : m_01 x = true) : WP V 49 6 ls [.int x] t I L R Q = Q (some (.int x)) t I L R := wp_rtz rfl rfl h
-- TransactionCells$House.canStep(I)Z
theorem i50_0 {w1 w2 : Value} {x : Nat} : WP V 50 0 [.ref x, w1, w2] st t I L R Q = WP V 50 1 [.ref x, w1, w2] (.ref x :: st) t I L R Q := wp_go rfl
theorem i50_1 {k : Nat} (h1 : k < t) (h2 : m_ob k 3 = true) : WP V 50 1 ls (.ref k :: st) t I L R Q = WP V 50 2 ls (m_rv (R k 0) :: st) t I L R Q := wp_getR rfl (by decide) h1 h2
theorem i50_2  : WP V 50 2 ls st t I L R Q = WP V 50 3 ls (.int (nI 3) :: st) t I L R Q := wp_go rfl
theorem i50_3 {w0 w2 : Value} {x : Int32} : WP V 50 3 [w0, .int x, w2] st t I L R Q = WP V 50 4 [w0, .int x, w2] (.int x :: st) t I L R Q := wp_go rfl
theorem i50_4 {x y : Int32} : WP V 50 4 ls (.int y :: .int x :: st) t I L R Q = WP V 50 5 ls (.int (x + y) :: st) t I L R Q := wp_go rfl
theorem i50_5 {k j : Nat} (h2 : m_ar k 2 581 = true) (h1 : k < t) (h3 : j < 581) : WP V 50 5 ls (.int (nI j) :: .ref k :: st) t I L R Q = WP V 50 6 ls (.int (I k j) :: st) t I L R Q := wp_iaload rfl (by decide) h1 h2 h3
theorem i50_6 {p : Int32} {w0 w2 : Value} {x : Int32} : WP V 50 6 [w0, .int p, w2] (.int x :: st) t I L R Q = WP V 50 7 [w0, .int p, .int x] st t I L R Q := wp_go rfl
theorem i50_7 {w0 w1 : Value} {x : Int32} : WP V 50 7 [w0, w1, .int x] st t I L R Q = WP V 50 8 [w0, w1, .int x] (.int x :: st) t I L R Q := wp_go rfl
theorem i50_8  : WP V 50 8 ls st t I L R Q = WP V 50 9 ls (.int (nI 1) :: st) t I L R Q := wp_go rfl
theorem i50_9 {x y : Int32} : WP V 50 9 ls (.int y :: .int x :: st) t I L R Q = if x = y then WP V 50 13 ls st t I L R Q else WP V 50 10 ls st t I L R Q := wp_br (c := m_cc .eq x y) rfl rfl
theorem i50_10 {w0 w1 : Value} {x : Int32} : WP V 50 10 [w0, w1, .int x] st t I L R Q = WP V 50 11 [w0, w1, .int x] (.int x :: st) t I L R Q := wp_go rfl
theorem i50_11  : WP V 50 11 ls st t I L R Q = WP V 50 12 ls (.int (nI 4) :: st) t I L R Q := wp_go rfl
theorem i50_12 {x y : Int32} : WP V 50 12 ls (.int y :: .int x :: st) t I L R Q = if x = y then WP V 50 13 ls st t I L R Q else WP V 50 15 ls st t I L R Q := wp_brn (c := m_cc .ne x y) rfl rfl
theorem i50_13  : WP V 50 13 ls st t I L R Q = WP V 50 14 ls (.int (nI 1) :: st) t I L R Q := wp_go rfl
theorem i50_14  : WP V 50 14 ls st t I L R Q = WP V 50 16 ls st t I L R Q := wp_go rfl
theorem i50_15  : WP V 50 15 ls st t I L R Q = WP V 50 16 ls (.int (nI 0) :: st) t I L R Q := wp_go rfl
theorem i50_16 {x : Int32} (h : m_01 x = true) : WP V 50 16 ls [.int x] t I L R Q = Q (some (.int x)) t I L R := wp_rtz rfl rfl h
-- TransactionCells$House.clearWork(I)V
theorem i51_0  : WP V 51 0 ls st t I L R Q = WP V 51 1 ls (.int (nI 152) :: st) t I L R Q := wp_go rfl
theorem i51_1  : WP V 51 1 ls st t I L R Q = WP V 51 2 ls (.int (nI 47) :: st) t I L R Q := wp_go rfl
theorem i51_2 {w0 w2 w3 w4 : Value} {x : Int32} : WP V 51 2 [w0, .int x, w2, w3, w4] st t I L R Q = WP V 51 3 [w0, .int x, w2, w3, w4] (.int x :: st) t I L R Q := wp_go rfl
theorem i51_3 {x y : Int32} : WP V 51 3 ls (.int y :: .int x :: st) t I L R Q = WP V 51 4 ls (.int (x * y) :: st) t I L R Q := wp_go rfl
theorem i51_4 {x y : Int32} : WP V 51 4 ls (.int y :: .int x :: st) t I L R Q = WP V 51 5 ls (.int (x + y) :: st) t I L R Q := wp_go rfl
theorem i51_5 {p : Int32} {w0 w2 w3 w4 : Value} {x : Int32} : WP V 51 5 [w0, .int p, w2, w3, w4] (.int x :: st) t I L R Q = WP V 51 6 [w0, .int p, .int x, w3, w4] st t I L R Q := wp_go rfl
theorem i51_6  : WP V 51 6 ls st t I L R Q = WP V 51 7 ls (.int (nI 160) :: st) t I L R Q := wp_go rfl
theorem i51_7  : WP V 51 7 ls st t I L R Q = WP V 51 8 ls (.int (nI 47) :: st) t I L R Q := wp_go rfl
theorem i51_8 {w0 w2 w3 w4 : Value} {x : Int32} : WP V 51 8 [w0, .int x, w2, w3, w4] st t I L R Q = WP V 51 9 [w0, .int x, w2, w3, w4] (.int x :: st) t I L R Q := wp_go rfl
theorem i51_9 {x y : Int32} : WP V 51 9 ls (.int y :: .int x :: st) t I L R Q = WP V 51 10 ls (.int (x * y) :: st) t I L R Q := wp_go rfl
theorem i51_10 {x y : Int32} : WP V 51 10 ls (.int y :: .int x :: st) t I L R Q = WP V 51 11 ls (.int (x + y) :: st) t I L R Q := wp_go rfl
theorem i51_11 {p : Int32} {w0 w1 w3 w4 : Value} {x : Int32} : WP V 51 11 [w0, w1, .int p, w3, w4] (.int x :: st) t I L R Q = WP V 51 12 [w0, w1, .int p, .int x, w4] st t I L R Q := wp_go rfl
theorem i51_12  : WP V 51 12 ls st t I L R Q = WP V 51 13 ls (.int (nI 176) :: st) t I L R Q := wp_go rfl
theorem i51_13  : WP V 51 13 ls st t I L R Q = WP V 51 14 ls (.int (nI 47) :: st) t I L R Q := wp_go rfl
theorem i51_14 {w0 w2 w3 w4 : Value} {x : Int32} : WP V 51 14 [w0, .int x, w2, w3, w4] st t I L R Q = WP V 51 15 [w0, .int x, w2, w3, w4] (.int x :: st) t I L R Q := wp_go rfl
theorem i51_15 {x y : Int32} : WP V 51 15 ls (.int y :: .int x :: st) t I L R Q = WP V 51 16 ls (.int (x * y) :: st) t I L R Q := wp_go rfl
theorem i51_16 {x y : Int32} : WP V 51 16 ls (.int y :: .int x :: st) t I L R Q = WP V 51 17 ls (.int (x + y) :: st) t I L R Q := wp_go rfl
theorem i51_17 {p : Int32} {w0 w1 w2 w4 : Value} {x : Int32} : WP V 51 17 [w0, w1, w2, .int p, w4] (.int x :: st) t I L R Q = WP V 51 18 [w0, w1, w2, .int p, .int x] st t I L R Q := wp_go rfl
theorem i51_18 {w1 w2 w3 w4 : Value} {x : Nat} : WP V 51 18 [.ref x, w1, w2, w3, w4] st t I L R Q = WP V 51 19 [.ref x, w1, w2, w3, w4] (.ref x :: st) t I L R Q := wp_go rfl
theorem i51_19 {k : Nat} (h1 : k < t) (h2 : m_ob k 3 = true) : WP V 51 19 ls (.ref k :: st) t I L R Q = WP V 51 20 ls (m_rv (R k 0) :: st) t I L R Q := wp_getR rfl (by decide) h1 h2
theorem i51_20 {w0 w1 w3 w4 : Value} {x : Int32} : WP V 51 20 [w0, w1, .int x, w3, w4] st t I L R Q = WP V 51 21 [w0, w1, .int x, w3, w4] (.int x :: st) t I L R Q := wp_go rfl
theorem i51_21 {w0 w1 w3 w4 : Value} {x : Int32} : WP V 51 21 [w0, w1, .int x, w3, w4] st t I L R Q = WP V 51 22 [w0, w1, .int x, w3, w4] (.int x :: st) t I L R Q := wp_go rfl
theorem i51_22  : WP V 51 22 ls st t I L R Q = WP V 51 23 ls (.int (nI 8) :: st) t I L R Q := wp_go rfl
theorem i51_23 {x y : Int32} : WP V 51 23 ls (.int y :: .int x :: st) t I L R Q = WP V 51 24 ls (.int (x + y) :: st) t I L R Q := wp_go rfl
theorem i51_24  : WP V 51 24 ls st t I L R Q = WP V 51 25 ls (.int (-1) :: st) t I L R Q := wp_go rfl
theorem i51_25 {x0 : Int32} {x1 : Int32} {x2 : Int32} {x3 : Nat}  : WP V 51 25 ls [.int x0, .int x1, .int x2, .ref x3] t I L R Q = WPC V 197 [.ref x3, .int x2, .int x1, .int x0] 51 26 ls [] t I L R Q := wp_cls (wp_ics rfl (by decide)) (by decide) (Nat.le_of_ble_eq_true rfl) rfl rfl (Nat.le_of_ble_eq_true rfl) (Nat.le_of_ble_eq_true rfl)
theorem i51_26 {w1 w2 w3 w4 : Value} {x : Nat} : WP V 51 26 [.ref x, w1, w2, w3, w4] st t I L R Q = WP V 51 27 [.ref x, w1, w2, w3, w4] (.ref x :: st) t I L R Q := wp_go rfl
theorem i51_27 {k : Nat} (h1 : k < t) (h2 : m_ob k 3 = true) : WP V 51 27 ls (.ref k :: st) t I L R Q = WP V 51 28 ls (m_rv (R k 0) :: st) t I L R Q := wp_getR rfl (by decide) h1 h2
theorem i51_28 {w0 w1 w2 w4 : Value} {x : Int32} : WP V 51 28 [w0, w1, w2, .int x, w4] st t I L R Q = WP V 51 29 [w0, w1, w2, .int x, w4] (.int x :: st) t I L R Q := wp_go rfl
theorem i51_29 {w0 w1 w2 w4 : Value} {x : Int32} : WP V 51 29 [w0, w1, w2, .int x, w4] st t I L R Q = WP V 51 30 [w0, w1, w2, .int x, w4] (.int x :: st) t I L R Q := wp_go rfl
theorem i51_30  : WP V 51 30 ls st t I L R Q = WP V 51 31 ls (.int (nI 8) :: st) t I L R Q := wp_go rfl
theorem i51_31 {x y : Int32} : WP V 51 31 ls (.int y :: .int x :: st) t I L R Q = WP V 51 32 ls (.int (x + y) :: st) t I L R Q := wp_go rfl
theorem i51_32  : WP V 51 32 ls st t I L R Q = WP V 51 33 ls (.int (-1) :: st) t I L R Q := wp_go rfl
theorem i51_33 {x0 : Int32} {x1 : Int32} {x2 : Int32} {x3 : Nat}  : WP V 51 33 ls [.int x0, .int x1, .int x2, .ref x3] t I L R Q = WPC V 197 [.ref x3, .int x2, .int x1, .int x0] 51 34 ls [] t I L R Q := wp_cls (wp_ics rfl (by decide)) (by decide) (Nat.le_of_ble_eq_true rfl) rfl rfl (Nat.le_of_ble_eq_true rfl) (Nat.le_of_ble_eq_true rfl)
theorem i51_34 {w1 w2 w3 w4 : Value} {x : Nat} : WP V 51 34 [.ref x, w1, w2, w3, w4] st t I L R Q = WP V 51 35 [.ref x, w1, w2, w3, w4] (.ref x :: st) t I L R Q := wp_go rfl
theorem i51_35 {k : Nat} (h1 : k < t) (h2 : m_ob k 3 = true) : WP V 51 35 ls (.ref k :: st) t I L R Q = WP V 51 36 ls (m_rv (R k 0) :: st) t I L R Q := wp_getR rfl (by decide) h1 h2
theorem i51_36 {w0 w1 w2 w4 : Value} {x : Int32} : WP V 51 36 [w0, w1, w2, .int x, w4] st t I L R Q = WP V 51 37 [w0, w1, w2, .int x, w4] (.int x :: st) t I L R Q := wp_go rfl
theorem i51_37  : WP V 51 37 ls st t I L R Q = WP V 51 38 ls (.int (nI 8) :: st) t I L R Q := wp_go rfl
theorem i51_38 {x y : Int32} : WP V 51 38 ls (.int y :: .int x :: st) t I L R Q = WP V 51 39 ls (.int (x + y) :: st) t I L R Q := wp_go rfl
theorem i51_39 {w0 w1 w2 w4 : Value} {x : Int32} : WP V 51 39 [w0, w1, w2, .int x, w4] st t I L R Q = WP V 51 40 [w0, w1, w2, .int x, w4] (.int x :: st) t I L R Q := wp_go rfl
theorem i51_40  : WP V 51 40 ls st t I L R Q = WP V 51 41 ls (.int (nI 16) :: st) t I L R Q := wp_go rfl
theorem i51_41 {x y : Int32} : WP V 51 41 ls (.int y :: .int x :: st) t I L R Q = WP V 51 42 ls (.int (x + y) :: st) t I L R Q := wp_go rfl
theorem i51_42  : WP V 51 42 ls st t I L R Q = WP V 51 43 ls (.int (nI 0) :: st) t I L R Q := wp_go rfl
theorem i51_43 {x0 : Int32} {x1 : Int32} {x2 : Int32} {x3 : Nat}  : WP V 51 43 ls [.int x0, .int x1, .int x2, .ref x3] t I L R Q = WPC V 197 [.ref x3, .int x2, .int x1, .int x0] 51 44 ls [] t I L R Q := wp_cls (wp_ics rfl (by decide)) (by decide) (Nat.le_of_ble_eq_true rfl) rfl rfl (Nat.le_of_ble_eq_true rfl) (Nat.le_of_ble_eq_true rfl)
theorem i51_44 {w1 w2 w3 w4 : Value} {x : Nat} : WP V 51 44 [.ref x, w1, w2, w3, w4] st t I L R Q = WP V 51 45 [.ref x, w1, w2, w3, w4] (.ref x :: st) t I L R Q := wp_go rfl
theorem i51_45 {k : Nat} (h1 : k < t) (h2 : m_ob k 3 = true) : WP V 51 45 ls (.ref k :: st) t I L R Q = WP V 51 46 ls (m_rv (R k 0) :: st) t I L R Q := wp_getR rfl (by decide) h1 h2
theorem i51_46 {w0 w1 w2 w3 : Value} {x : Int32} : WP V 51 46 [w0, w1, w2, w3, .int x] st t I L R Q = WP V 51 47 [w0, w1, w2, w3, .int x] (.int x :: st) t I L R Q := wp_go rfl
theorem i51_47 {w0 w1 w2 w3 : Value} {x : Int32} : WP V 51 47 [w0, w1, w2, w3, .int x] st t I L R Q = WP V 51 48 [w0, w1, w2, w3, .int x] (.int x :: st) t I L R Q := wp_go rfl
theorem i51_48  : WP V 51 48 ls st t I L R Q = WP V 51 49 ls (.int (nI 8) :: st) t I L R Q := wp_go rfl
theorem i51_49 {x y : Int32} : WP V 51 49 ls (.int y :: .int x :: st) t I L R Q = WP V 51 50 ls (.int (x + y) :: st) t I L R Q := wp_go rfl
theorem i51_50  : WP V 51 50 ls st t I L R Q = WP V 51 51 ls (.int (-1) :: st) t I L R Q := wp_go rfl
theorem i51_51 {x0 : Int32} {x1 : Int32} {x2 : Int32} {x3 : Nat}  : WP V 51 51 ls [.int x0, .int x1, .int x2, .ref x3] t I L R Q = WPC V 197 [.ref x3, .int x2, .int x1, .int x0] 51 52 ls [] t I L R Q := wp_cls (wp_ics rfl (by decide)) (by decide) (Nat.le_of_ble_eq_true rfl) rfl rfl (Nat.le_of_ble_eq_true rfl) (Nat.le_of_ble_eq_true rfl)
theorem i51_52 {w1 w2 w3 w4 : Value} {x : Nat} : WP V 51 52 [.ref x, w1, w2, w3, w4] st t I L R Q = WP V 51 53 [.ref x, w1, w2, w3, w4] (.ref x :: st) t I L R Q := wp_go rfl
theorem i51_53 {k : Nat} (h1 : k < t) (h2 : m_ob k 3 = true) : WP V 51 53 ls (.ref k :: st) t I L R Q = WP V 51 54 ls (m_rv (R k 0) :: st) t I L R Q := wp_getR rfl (by decide) h1 h2
theorem i51_54 {w0 w1 w2 w3 : Value} {x : Int32} : WP V 51 54 [w0, w1, w2, w3, .int x] st t I L R Q = WP V 51 55 [w0, w1, w2, w3, .int x] (.int x :: st) t I L R Q := wp_go rfl
theorem i51_55  : WP V 51 55 ls st t I L R Q = WP V 51 56 ls (.int (nI 8) :: st) t I L R Q := wp_go rfl
theorem i51_56 {x y : Int32} : WP V 51 56 ls (.int y :: .int x :: st) t I L R Q = WP V 51 57 ls (.int (x + y) :: st) t I L R Q := wp_go rfl
theorem i51_57 {w0 w1 w2 w3 : Value} {x : Int32} : WP V 51 57 [w0, w1, w2, w3, .int x] st t I L R Q = WP V 51 58 [w0, w1, w2, w3, .int x] (.int x :: st) t I L R Q := wp_go rfl
theorem i51_58  : WP V 51 58 ls st t I L R Q = WP V 51 59 ls (.int (nI 16) :: st) t I L R Q := wp_go rfl
theorem i51_59 {x y : Int32} : WP V 51 59 ls (.int y :: .int x :: st) t I L R Q = WP V 51 60 ls (.int (x + y) :: st) t I L R Q := wp_go rfl
theorem i51_60  : WP V 51 60 ls st t I L R Q = WP V 51 61 ls (.int (nI 0) :: st) t I L R Q := wp_go rfl
theorem i51_61 {x0 : Int32} {x1 : Int32} {x2 : Int32} {x3 : Nat}  : WP V 51 61 ls [.int x0, .int x1, .int x2, .ref x3] t I L R Q = WPC V 197 [.ref x3, .int x2, .int x1, .int x0] 51 62 ls [] t I L R Q := wp_cls (wp_ics rfl (by decide)) (by decide) (Nat.le_of_ble_eq_true rfl) rfl rfl (Nat.le_of_ble_eq_true rfl) (Nat.le_of_ble_eq_true rfl)
theorem i51_62  : WP V 51 62 ls [] t I L R Q = Q none t I L R := wp_rtv rfl rfl
-- TransactionCells$House.change(III)V
theorem i52_0  : WP V 52 0 ls st t I L R Q = WP V 52 1 ls (.int (nI 121) :: st) t I L R Q := wp_go rfl
theorem i52_1 {w0 w2 w3 w4 w5 : Value} {x : Int32} : WP V 52 1 [w0, .int x, w2, w3, w4, w5] st t I L R Q = WP V 52 2 [w0, .int x, w2, w3, w4, w5] (.int x :: st) t I L R Q := wp_go rfl
theorem i52_2 {x y : Int32} : WP V 52 2 ls (.int y :: .int x :: st) t I L R Q = WP V 52 3 ls (.int (x + y) :: st) t I L R Q := wp_go rfl
theorem i52_3 {p : Int32} {w0 w1 w2 w4 w5 : Value} {x : Int32} : WP V 52 3 [w0, w1, w2, .int p, w4, w5] (.int x :: st) t I L R Q = WP V 52 4 [w0, w1, w2, .int p, .int x, w5] st t I L R Q := wp_go rfl
theorem i52_4 {w0 w1 w2 w3 w5 : Value} {x : Int32} : WP V 52 4 [w0, w1, w2, w3, .int x, w5] st t I L R Q = WP V 52 5 [w0, w1, w2, w3, .int x, w5] (.int x :: st) t I L R Q := wp_go rfl
theorem i52_5  : WP V 52 5 ls st t I L R Q = WP V 52 6 ls (.int (nI 73) :: st) t I L R Q := wp_go rfl
theorem i52_6 {x y : Int32} : WP V 52 6 ls (.int y :: .int x :: st) t I L R Q = if x < y then WP V 52 30 ls st t I L R Q else WP V 52 7 ls st t I L R Q := wp_br (c := m_cc .lt x y) rfl rfl
theorem i52_7  : WP V 52 7 ls st t I L R Q = WP V 52 8 ls (.int (nI 0) :: st) t I L R Q := wp_go rfl
theorem i52_8 {p : Int32} {w0 w1 w2 w3 w5 : Value} {x : Int32} : WP V 52 8 [w0, w1, w2, w3, .int p, w5] (.int x :: st) t I L R Q = WP V 52 9 [w0, w1, w2, w3, .int p, .int x] st t I L R Q := wp_go rfl
theorem i52_9 {w0 w1 w2 w3 w4 : Value} {x : Int32} : WP V 52 9 [w0, w1, w2, w3, w4, .int x] st t I L R Q = WP V 52 10 [w0, w1, w2, w3, w4, .int x] (.int x :: st) t I L R Q := wp_go rfl
theorem i52_10  : WP V 52 10 ls st t I L R Q = WP V 52 11 ls (.int (nI 24) :: st) t I L R Q := wp_go rfl
theorem i52_11 {x y : Int32} : WP V 52 11 ls (.int y :: .int x :: st) t I L R Q = if y ≤ x then WP V 52 28 ls st t I L R Q else WP V 52 12 ls st t I L R Q := wp_br (c := m_cc .ge x y) rfl rfl
theorem i52_12 {w1 w2 w3 w4 w5 : Value} {x : Nat} : WP V 52 12 [.ref x, w1, w2, w3, w4, w5] st t I L R Q = WP V 52 13 [.ref x, w1, w2, w3, w4, w5] (.ref x :: st) t I L R Q := wp_go rfl
theorem i52_13 {k : Nat} (h1 : k < t) (h2 : m_ob k 3 = true) : WP V 52 13 ls (.ref k :: st) t I L R Q = WP V 52 14 ls (m_rv (R k 0) :: st) t I L R Q := wp_getR rfl (by decide) h1 h2
theorem i52_14 {w0 w1 w2 w3 w5 : Value} {x : Int32} : WP V 52 14 [w0, w1, w2, w3, .int x, w5] st t I L R Q = WP V 52 15 [w0, w1, w2, w3, .int x, w5] (.int x :: st) t I L R Q := wp_go rfl
theorem i52_15 {w0 w1 w2 w3 w4 : Value} {x : Int32} : WP V 52 15 [w0, w1, w2, w3, w4, .int x] st t I L R Q = WP V 52 16 [w0, w1, w2, w3, w4, .int x] (.int x :: st) t I L R Q := wp_go rfl
theorem i52_16 {x y : Int32} : WP V 52 16 ls (.int y :: .int x :: st) t I L R Q = WP V 52 17 ls (.int (x + y) :: st) t I L R Q := wp_go rfl
theorem i52_17 {w1 w2 w3 w4 w5 : Value} {x : Nat} : WP V 52 17 [.ref x, w1, w2, w3, w4, w5] st t I L R Q = WP V 52 18 [.ref x, w1, w2, w3, w4, w5] (.ref x :: st) t I L R Q := wp_go rfl
theorem i52_18 {k : Nat} (h1 : k < t) (h2 : m_ob k 3 = true) : WP V 52 18 ls (.ref k :: st) t I L R Q = WP V 52 19 ls (m_rv (R k 0) :: st) t I L R Q := wp_getR rfl (by decide) h1 h2
theorem i52_19 {w0 w1 w2 w3 w5 : Value} {x : Int32} : WP V 52 19 [w0, w1, w2, w3, .int x, w5] st t I L R Q = WP V 52 20 [w0, w1, w2, w3, .int x, w5] (.int x :: st) t I L R Q := wp_go rfl
theorem i52_20  : WP V 52 20 ls st t I L R Q = WP V 52 21 ls (.int (nI 24) :: st) t I L R Q := wp_go rfl
theorem i52_21 {x y : Int32} : WP V 52 21 ls (.int y :: .int x :: st) t I L R Q = WP V 52 22 ls (.int (x - y) :: st) t I L R Q := wp_go rfl
theorem i52_22 {w0 w1 w2 w3 w4 : Value} {x : Int32} : WP V 52 22 [w0, w1, w2, w3, w4, .int x] st t I L R Q = WP V 52 23 [w0, w1, w2, w3, w4, .int x] (.int x :: st) t I L R Q := wp_go rfl
theorem i52_23 {x y : Int32} : WP V 52 23 ls (.int y :: .int x :: st) t I L R Q = WP V 52 24 ls (.int (x + y) :: st) t I L R Q := wp_go rfl
theorem i52_24 {k j : Nat} (h2 : m_ar k 2 581 = true) (h1 : k < t) (h3 : j < 581) : WP V 52 24 ls (.int (nI j) :: .ref k :: st) t I L R Q = WP V 52 25 ls (.int (I k j) :: st) t I L R Q := wp_iaload rfl (by decide) h1 h2 h3
theorem i52_25 {k j : Nat} {x : Int32} (h2 : m_ar k 2 581 = true) (h1 : k < t) (h3 : j < 581) : WP V 52 25 ls (.int x :: .int (nI j) :: .ref k :: st) t I L R Q = WP V 52 26 ls st t (m_sc I k (m_sc (I k) j x)) L R Q := wp_iastore rfl (by decide) h1 h2 h3
theorem i52_26 {p : Int32} {w0 w1 w2 w3 : Value} {x : Int32} : WP V 52 26 [w0, w1, w2, w3, .int p, .int x] st t I L R Q = WP V 52 27 [w0, w1, w2, w3, .int p, .int (x + (nI 8))] st t I L R Q := wp_go rfl
theorem i52_27  : WP V 52 27 ls st t I L R Q = WP V 52 9 ls st t I L R Q := wp_go rfl
theorem i52_28 {p : Int32} {w0 w1 w2 w5 : Value} {x : Int32} : WP V 52 28 [w0, w1, w2, .int p, .int x, w5] st t I L R Q = WP V 52 29 [w0, w1, w2, .int p, .int (x + (-24)), w5] st t I L R Q := wp_go rfl
theorem i52_29  : WP V 52 29 ls st t I L R Q = WP V 52 4 ls st t I L R Q := wp_go rfl
theorem i52_30 {w1 w2 w3 w4 w5 : Value} {x : Nat} : WP V 52 30 [.ref x, w1, w2, w3, w4, w5] st t I L R Q = WP V 52 31 [.ref x, w1, w2, w3, w4, w5] (.ref x :: st) t I L R Q := wp_go rfl
theorem i52_31 {k : Nat} (h1 : k < t) (h2 : m_ob k 3 = true) : WP V 52 31 ls (.ref k :: st) t I L R Q = WP V 52 32 ls (m_rv (R k 0) :: st) t I L R Q := wp_getR rfl (by decide) h1 h2
theorem i52_32  : WP V 52 32 ls st t I L R Q = WP V 52 33 ls (.int (nI 49) :: st) t I L R Q := wp_go rfl
theorem i52_33 {w0 w2 w3 w4 w5 : Value} {x : Int32} : WP V 52 33 [w0, .int x, w2, w3, w4, w5] st t I L R Q = WP V 52 34 [w0, .int x, w2, w3, w4, w5] (.int x :: st) t I L R Q := wp_go rfl
theorem i52_34 {x y : Int32} : WP V 52 34 ls (.int y :: .int x :: st) t I L R Q = WP V 52 35 ls (.int (x + y) :: st) t I L R Q := wp_go rfl
theorem i52_35 {w0 w1 w3 w4 w5 : Value} {x : Int32} : WP V 52 35 [w0, w1, .int x, w3, w4, w5] st t I L R Q = WP V 52 36 [w0, w1, .int x, w3, w4, w5] (.int x :: st) t I L R Q := wp_go rfl
theorem i52_36 {k j : Nat} {x : Int32} (h2 : m_ar k 2 581 = true) (h1 : k < t) (h3 : j < 581) : WP V 52 36 ls (.int x :: .int (nI j) :: .ref k :: st) t I L R Q = WP V 52 37 ls st t (m_sc I k (m_sc (I k) j x)) L R Q := wp_iastore rfl (by decide) h1 h2 h3
theorem i52_37 {w1 w2 w3 w4 w5 : Value} {x : Nat} : WP V 52 37 [.ref x, w1, w2, w3, w4, w5] st t I L R Q = WP V 52 38 [.ref x, w1, w2, w3, w4, w5] (.ref x :: st) t I L R Q := wp_go rfl
theorem i52_38 {k : Nat} (h1 : k < t) (h2 : m_ob k 3 = true) : WP V 52 38 ls (.ref k :: st) t I L R Q = WP V 52 39 ls (m_rv (R k 0) :: st) t I L R Q := wp_getR rfl (by decide) h1 h2
theorem i52_39  : WP V 52 39 ls st t I L R Q = WP V 52 40 ls (.int (nI 57) :: st) t I L R Q := wp_go rfl
theorem i52_40 {w0 w2 w3 w4 w5 : Value} {x : Int32} : WP V 52 40 [w0, .int x, w2, w3, w4, w5] st t I L R Q = WP V 52 41 [w0, .int x, w2, w3, w4, w5] (.int x :: st) t I L R Q := wp_go rfl
theorem i52_41 {x y : Int32} : WP V 52 41 ls (.int y :: .int x :: st) t I L R Q = WP V 52 42 ls (.int (x + y) :: st) t I L R Q := wp_go rfl
theorem i52_42 {w0 w1 w2 w4 w5 : Value} {x : Int32} : WP V 52 42 [w0, w1, w2, .int x, w4, w5] st t I L R Q = WP V 52 43 [w0, w1, w2, .int x, w4, w5] (.int x :: st) t I L R Q := wp_go rfl
theorem i52_43 {k j : Nat} {x : Int32} (h2 : m_ar k 2 581 = true) (h1 : k < t) (h3 : j < 581) : WP V 52 43 ls (.int x :: .int (nI j) :: .ref k :: st) t I L R Q = WP V 52 44 ls st t (m_sc I k (m_sc (I k) j x)) L R Q := wp_iastore rfl (by decide) h1 h2 h3
theorem i52_44 {w1 w2 w3 w4 w5 : Value} {x : Nat} : WP V 52 44 [.ref x, w1, w2, w3, w4, w5] st t I L R Q = WP V 52 45 [.ref x, w1, w2, w3, w4, w5] (.ref x :: st) t I L R Q := wp_go rfl
theorem i52_45 {k : Nat} (h1 : k < t) (h2 : m_ob k 3 = true) : WP V 52 45 ls (.ref k :: st) t I L R Q = WP V 52 46 ls (m_rv (R k 0) :: st) t I L R Q := wp_getR rfl (by decide) h1 h2
theorem i52_46  : WP V 52 46 ls st t I L R Q = WP V 52 47 ls (.int (nI 65) :: st) t I L R Q := wp_go rfl
theorem i52_47 {w0 w2 w3 w4 w5 : Value} {x : Int32} : WP V 52 47 [w0, .int x, w2, w3, w4, w5] st t I L R Q = WP V 52 48 [w0, .int x, w2, w3, w4, w5] (.int x :: st) t I L R Q := wp_go rfl
theorem i52_48 {x y : Int32} : WP V 52 48 ls (.int y :: .int x :: st) t I L R Q = WP V 52 49 ls (.int (x + y) :: st) t I L R Q := wp_go rfl
theorem i52_49 {w1 w2 w3 w4 w5 : Value} {x : Nat} : WP V 52 49 [.ref x, w1, w2, w3, w4, w5] st t I L R Q = WP V 52 50 [.ref x, w1, w2, w3, w4, w5] (.ref x :: st) t I L R Q := wp_go rfl
theorem i52_50 {k : Nat} (h1 : k < t) (h2 : m_ob k 3 = true) : WP V 52 50 ls (.ref k :: st) t I L R Q = WP V 52 51 ls (m_rv (R k 0) :: st) t I L R Q := wp_getR rfl (by decide) h1 h2
theorem i52_51  : WP V 52 51 ls st t I L R Q = WP V 52 52 ls (.int (nI 0) :: st) t I L R Q := wp_go rfl
theorem i52_52 {k j : Nat} (h2 : m_ar k 2 581 = true) (h1 : k < t) (h3 : j < 581) : WP V 52 52 ls (.int (nI j) :: .ref k :: st) t I L R Q = WP V 52 53 ls (.int (I k j) :: st) t I L R Q := wp_iaload rfl (by decide) h1 h2 h3
theorem i52_53 {k j : Nat} {x : Int32} (h2 : m_ar k 2 581 = true) (h1 : k < t) (h3 : j < 581) : WP V 52 53 ls (.int x :: .int (nI j) :: .ref k :: st) t I L R Q = WP V 52 54 ls st t (m_sc I k (m_sc (I k) j x)) L R Q := wp_iastore rfl (by decide) h1 h2 h3
theorem i52_54  : WP V 52 54 ls [] t I L R Q = Q none t I L R := wp_rtv rfl rfl
-- TransactionCells$Notes.<init>()V
theorem i53_0 {x : Nat} : WP V 53 0 [.ref x] st t I L R Q = WP V 53 1 [.ref x] (.ref x :: st) t I L R Q := wp_go rfl
theorem i53_1 {k : Nat}  : WP V 53 1 ls [.ref k] t I L R Q = WP V 53 2 ls [] t I L R Q := wp_objI rfl (Nat.le_of_ble_eq_true rfl)
theorem i53_2 {x : Nat} : WP V 53 2 [.ref x] st t I L R Q = WP V 53 3 [.ref x] (.ref x :: st) t I L R Q := wp_go rfl
theorem i53_3  : WP V 53 3 ls st t I L R Q = WP V 53 4 ls (.int (nI 2100) :: st) t I L R Q := wp_go rfl
theorem i53_4 {N : Nat} (h : m_ar t 2 N = true) : WP V 53 4 ls (.int (nI N) :: st) t I L R Q = WP V 53 5 ls (.ref t :: st) (t + 1) (m_sc I t (fun _ => 0)) (m_sc L t (fun _ => 0)) R Q := wp_newi rfl h
theorem i53_5 {k x : Nat} (h1 : k < t) (h2 : m_ob k 4 = true) : WP V 53 5 ls (.ref x :: .ref k :: st) t I L R Q = WP V 53 6 ls st t I L (m_sc R k (m_sc (R k) 0 (some x))) Q := wp_putR rfl (by decide) h1 h2
theorem i53_5n {k : Nat} (h1 : k < t) (h2 : m_ob k 4 = true) : WP V 53 5 ls (.null :: .ref k :: st) t I L R Q = WP V 53 6 ls st t I L (m_sc R k (m_sc (R k) 0 none)) Q := wp_putN rfl (by decide) h1 h2
theorem i53_6 {x : Nat} : WP V 53 6 [.ref x] st t I L R Q = WP V 53 7 [.ref x] (.ref x :: st) t I L R Q := wp_go rfl
theorem i53_7  : WP V 53 7 ls st t I L R Q = WP V 53 8 ls (.int (nI 16) :: st) t I L R Q := wp_go rfl
theorem i53_8 {N : Nat} (h : m_ar t 2 N = true) : WP V 53 8 ls (.int (nI N) :: st) t I L R Q = WP V 53 9 ls (.ref t :: st) (t + 1) (m_sc I t (fun _ => 0)) (m_sc L t (fun _ => 0)) R Q := wp_newi rfl h
theorem i53_9 {k x : Nat} (h1 : k < t) (h2 : m_ob k 4 = true) : WP V 53 9 ls (.ref x :: .ref k :: st) t I L R Q = WP V 53 10 ls st t I L (m_sc R k (m_sc (R k) 1 (some x))) Q := wp_putR rfl (by decide) h1 h2
theorem i53_9n {k : Nat} (h1 : k < t) (h2 : m_ob k 4 = true) : WP V 53 9 ls (.null :: .ref k :: st) t I L R Q = WP V 53 10 ls st t I L (m_sc R k (m_sc (R k) 1 none)) Q := wp_putN rfl (by decide) h1 h2
theorem i53_10 {x : Nat} : WP V 53 10 [.ref x] st t I L R Q = WP V 53 11 [.ref x] (.ref x :: st) t I L R Q := wp_go rfl
theorem i53_11  : WP V 53 11 ls st t I L R Q = WP V 53 12 ls (.int (nI 0) :: st) t I L R Q := wp_go rfl
theorem i53_12 {k : Nat} {x : Int32} (h1 : k < t) (h2 : m_ob k 4 = true) : WP V 53 12 ls (.int x :: .ref k :: st) t I L R Q = WP V 53 13 ls st t (m_sc I k (m_sc (I k) 2 x)) L R Q := wp_putI rfl (by decide) h1 h2
theorem i53_13 {x : Nat} : WP V 53 13 [.ref x] st t I L R Q = WP V 53 14 [.ref x] (.ref x :: st) t I L R Q := wp_go rfl
theorem i53_14  : WP V 53 14 ls st t I L R Q = WP V 53 15 ls (.int (nI 0) :: st) t I L R Q := wp_go rfl
theorem i53_15 {k : Nat} {x : Int32} (h1 : k < t) (h2 : m_ob k 4 = true) (h3 : m_01 x = true) : WP V 53 15 ls (.int x :: .ref k :: st) t I L R Q = WP V 53 16 ls st t (m_sc I k (m_sc (I k) 3 x)) L R Q := wp_putZ rfl (by decide) h1 h2 h3
theorem i53_16  : WP V 53 16 ls [] t I L R Q = Q none t I L R := wp_rtv rfl rfl
-- TransactionCells$Notes.noted()I
theorem i54_0 {x : Nat} : WP V 54 0 [.ref x] st t I L R Q = WP V 54 1 [.ref x] (.ref x :: st) t I L R Q := wp_go rfl
theorem i54_1 {k : Nat} (h1 : k < t) (h2 : m_ob k 4 = true) : WP V 54 1 ls (.ref k :: st) t I L R Q = WP V 54 2 ls (.int (I k 2) :: st) t I L R Q := wp_getI rfl (by decide) h1 h2
theorem i54_2  : WP V 54 2 ls st t I L R Q = WP V 54 3 ls (.int (nI 60) :: st) t I L R Q := wp_go rfl
theorem i54_3 {x y : Int32} : WP V 54 3 ls [.int y, .int x] t I L R Q = WP V 54 4 ls [.int (if y < x then y else x)] t I L R Q := wp_go rfl
theorem i54_4 {x : Int32} : WP V 54 4 ls [.int x] t I L R Q = Q (some (.int x)) t I L R := wp_rti rfl rfl
-- TransactionCells$Notes.isSortPlace(I)Z
theorem i55_0 {x : Int32} : WP V 55 0 [.int x] st t I L R Q = WP V 55 1 [.int x] (.int x :: st) t I L R Q := wp_go rfl
theorem i55_1  : WP V 55 1 ls st t I L R Q = WP V 55 2 ls (.int (nI 2) :: st) t I L R Q := wp_go rfl
theorem i55_2 {x y : Int32} : WP V 55 2 ls (.int y :: .int x :: st) t I L R Q = if x < y then WP V 55 6 ls st t I L R Q else WP V 55 3 ls st t I L R Q := wp_br (c := m_cc .lt x y) rfl rfl
theorem i55_3 {x : Int32} : WP V 55 3 [.int x] st t I L R Q = WP V 55 4 [.int x] (.int x :: st) t I L R Q := wp_go rfl
theorem i55_4  : WP V 55 4 ls st t I L R Q = WP V 55 5 ls (.int (nI 10) :: st) t I L R Q := wp_go rfl
theorem i55_5 {x y : Int32} : WP V 55 5 ls (.int y :: .int x :: st) t I L R Q = if x < y then WP V 55 12 ls st t I L R Q else WP V 55 6 ls st t I L R Q := wp_br (c := m_cc .lt x y) rfl rfl
theorem i55_6 {x : Int32} : WP V 55 6 [.int x] st t I L R Q = WP V 55 7 [.int x] (.int x :: st) t I L R Q := wp_go rfl
theorem i55_7  : WP V 55 7 ls st t I L R Q = WP V 55 8 ls (.int (nI 18) :: st) t I L R Q := wp_go rfl
theorem i55_8 {x y : Int32} : WP V 55 8 ls (.int y :: .int x :: st) t I L R Q = if x < y then WP V 55 14 ls st t I L R Q else WP V 55 9 ls st t I L R Q := wp_br (c := m_cc .lt x y) rfl rfl
theorem i55_9 {x : Int32} : WP V 55 9 [.int x] st t I L R Q = WP V 55 10 [.int x] (.int x :: st) t I L R Q := wp_go rfl
theorem i55_10  : WP V 55 10 ls st t I L R Q = WP V 55 11 ls (.int (nI 26) :: st) t I L R Q := wp_go rfl
theorem i55_11 {x y : Int32} : WP V 55 11 ls (.int y :: .int x :: st) t I L R Q = if y ≤ x then WP V 55 14 ls st t I L R Q else WP V 55 12 ls st t I L R Q := wp_br (c := m_cc .ge x y) rfl rfl
theorem i55_12  : WP V 55 12 ls st t I L R Q = WP V 55 13 ls (.int (nI 1) :: st) t I L R Q := wp_go rfl
theorem i55_13  : WP V 55 13 ls st t I L R Q = WP V 55 15 ls st t I L R Q := wp_go rfl
theorem i55_14  : WP V 55 14 ls st t I L R Q = WP V 55 15 ls (.int (nI 0) :: st) t I L R Q := wp_go rfl
theorem i55_15 {x : Int32} (h : m_01 x = true) : WP V 55 15 ls [.int x] t I L R Q = Q (some (.int x)) t I L R := wp_rtz rfl rfl h
-- TransactionCells$Notes.note([III)V
theorem i56_0 {w1 w2 w3 w4 w5 w6 : Value} {x : Nat} : WP V 56 0 [.ref x, w1, w2, w3, w4, w5, w6] st t I L R Q = WP V 56 1 [.ref x, w1, w2, w3, w4, w5, w6] (.ref x :: st) t I L R Q := wp_go rfl
theorem i56_1 {k : Nat} (h1 : k < t) (h2 : m_ob k 4 = true) : WP V 56 1 ls (.ref k :: st) t I L R Q = WP V 56 2 ls (.int (I k 3) :: st) t I L R Q := wp_getI rfl (by decide) h1 h2
theorem i56_2 {x : Int32} : WP V 56 2 ls (.int x :: st) t I L R Q = if x = nI 0 then WP V 56 4 ls st t I L R Q else WP V 56 3 ls st t I L R Q := wp_br (c := m_cc .eq x 0) rfl rfl
theorem i56_3  : WP V 56 3 ls [] t I L R Q = Q none t I L R := wp_rtv rfl rfl
theorem i56_4 {w1 w2 w3 w4 w5 w6 : Value} {x : Nat} : WP V 56 4 [.ref x, w1, w2, w3, w4, w5, w6] st t I L R Q = WP V 56 5 [.ref x, w1, w2, w3, w4, w5, w6] (.ref x :: st) t I L R Q := wp_go rfl
theorem i56_5 {v0 : Nat} : WP V 56 5 ls (.ref v0 :: st) t I L R Q = WP V 56 6 ls (.ref v0 :: .ref v0 :: st) t I L R Q := wp_go rfl
theorem i56_6 {k : Nat} (h1 : k < t) (h2 : m_ob k 4 = true) : WP V 56 6 ls (.ref k :: st) t I L R Q = WP V 56 7 ls (.int (I k 2) :: st) t I L R Q := wp_getI rfl (by decide) h1 h2
theorem i56_7  : WP V 56 7 ls st t I L R Q = WP V 56 8 ls (.int (nI 1) :: st) t I L R Q := wp_go rfl
theorem i56_8 {x y : Int32} : WP V 56 8 ls (.int y :: .int x :: st) t I L R Q = WP V 56 9 ls (.int (x + y) :: st) t I L R Q := wp_go rfl
theorem i56_9 {k : Nat} {x : Int32} (h1 : k < t) (h2 : m_ob k 4 = true) : WP V 56 9 ls (.int x :: .ref k :: st) t I L R Q = WP V 56 10 ls st t (m_sc I k (m_sc (I k) 2 x)) L R Q := wp_putI rfl (by decide) h1 h2
theorem i56_10 {w1 w2 w3 w4 w5 w6 : Value} {x : Nat} : WP V 56 10 [.ref x, w1, w2, w3, w4, w5, w6] st t I L R Q = WP V 56 11 [.ref x, w1, w2, w3, w4, w5, w6] (.ref x :: st) t I L R Q := wp_go rfl
theorem i56_11 {k : Nat} (h1 : k < t) (h2 : m_ob k 4 = true) : WP V 56 11 ls (.ref k :: st) t I L R Q = WP V 56 12 ls (.int (I k 2) :: st) t I L R Q := wp_getI rfl (by decide) h1 h2
theorem i56_12  : WP V 56 12 ls st t I L R Q = WP V 56 13 ls (.int (nI 60) :: st) t I L R Q := wp_go rfl
theorem i56_13 {x y : Int32} : WP V 56 13 ls (.int y :: .int x :: st) t I L R Q = if x ≤ y then WP V 56 15 ls st t I L R Q else WP V 56 14 ls st t I L R Q := wp_br (c := m_cc .le x y) rfl rfl
theorem i56_14  : WP V 56 14 ls [] t I L R Q = Q none t I L R := wp_rtv rfl rfl
theorem i56_15 {w0 w2 w3 w4 w5 w6 : Value} {x : Nat} : WP V 56 15 [w0, .ref x, w2, w3, w4, w5, w6] st t I L R Q = WP V 56 16 [w0, .ref x, w2, w3, w4, w5, w6] (.ref x :: st) t I L R Q := wp_go rfl
theorem i56_16  : WP V 56 16 ls st t I L R Q = WP V 56 17 ls (.int (nI 564) :: st) t I L R Q := wp_go rfl
theorem i56_17 {k j : Nat} {N : Nat} (h2 : m_ar k 2 N = true) (hN : N < 2 ^ 31) (h1 : k < t) (h3 : j < N) : WP V 56 17 ls (.int (nI j) :: .ref k :: st) t I L R Q = WP V 56 18 ls (.int (I k j) :: st) t I L R Q := wp_iaload rfl hN h1 h2 h3
theorem i56_18  : WP V 56 18 ls st t I L R Q = WP V 56 19 ls (.int (nI 2) :: st) t I L R Q := wp_go rfl
theorem i56_19 {x y : Int32} : WP V 56 19 ls (.int y :: .int x :: st) t I L R Q = if x = y then WP V 56 20 ls st t I L R Q else WP V 56 29 ls st t I L R Q := wp_brn (c := m_cc .ne x y) rfl rfl
theorem i56_20 {w0 w2 w3 w4 w5 w6 : Value} {x : Nat} : WP V 56 20 [w0, .ref x, w2, w3, w4, w5, w6] st t I L R Q = WP V 56 21 [w0, .ref x, w2, w3, w4, w5, w6] (.ref x :: st) t I L R Q := wp_go rfl
theorem i56_21  : WP V 56 21 ls st t I L R Q = WP V 56 22 ls (.int (nI 15) :: st) t I L R Q := wp_go rfl
theorem i56_22 {w0 w1 w3 w4 w5 w6 : Value} {x : Int32} : WP V 56 22 [w0, w1, .int x, w3, w4, w5, w6] st t I L R Q = WP V 56 23 [w0, w1, .int x, w3, w4, w5, w6] (.int x :: st) t I L R Q := wp_go rfl
theorem i56_23 {x y : Int32} : WP V 56 23 ls (.int y :: .int x :: st) t I L R Q = WP V 56 24 ls (.int (x + y) :: st) t I L R Q := wp_go rfl
theorem i56_24 {k j : Nat} {N : Nat} (h2 : m_ar k 2 N = true) (hN : N < 2 ^ 31) (h1 : k < t) (h3 : j < N) : WP V 56 24 ls (.int (nI j) :: .ref k :: st) t I L R Q = WP V 56 25 ls (.int (I k j) :: st) t I L R Q := wp_iaload rfl hN h1 h2 h3
theorem i56_25  : WP V 56 25 ls st t I L R Q = WP V 56 26 ls (.int (nI 1) :: st) t I L R Q := wp_go rfl
theorem i56_26 {x y : Int32} : WP V 56 26 ls (.int y :: .int x :: st) t I L R Q = if x = y then WP V 56 27 ls st t I L R Q else WP V 56 29 ls st t I L R Q := wp_brn (c := m_cc .ne x y) rfl rfl
theorem i56_27  : WP V 56 27 ls st t I L R Q = WP V 56 28 ls (.int (nI 1) :: st) t I L R Q := wp_go rfl
theorem i56_28  : WP V 56 28 ls st t I L R Q = WP V 56 30 ls st t I L R Q := wp_go rfl
theorem i56_29  : WP V 56 29 ls st t I L R Q = WP V 56 30 ls (.int (nI 0) :: st) t I L R Q := wp_go rfl
theorem i56_30 {p : Int32} {w0 w1 w2 w4 w5 w6 : Value} {x : Int32} : WP V 56 30 [w0, w1, w2, .int p, w4, w5, w6] (.int x :: st) t I L R Q = WP V 56 31 [w0, w1, w2, .int p, .int x, w5, w6] st t I L R Q := wp_go rfl
theorem i56_31 {w0 w1 w2 w3 w5 w6 : Value} {x : Int32} : WP V 56 31 [w0, w1, w2, w3, .int x, w5, w6] st t I L R Q = WP V 56 32 [w0, w1, w2, w3, .int x, w5, w6] (.int x :: st) t I L R Q := wp_go rfl
theorem i56_32 {x : Int32} : WP V 56 32 ls (.int x :: st) t I L R Q = if x = nI 0 then WP V 56 43 ls st t I L R Q else WP V 56 33 ls st t I L R Q := wp_br (c := m_cc .eq x 0) rfl rfl
theorem i56_33 {w1 w2 w3 w4 w5 w6 : Value} {x : Nat} : WP V 56 33 [.ref x, w1, w2, w3, w4, w5, w6] st t I L R Q = WP V 56 34 [.ref x, w1, w2, w3, w4, w5, w6] (.ref x :: st) t I L R Q := wp_go rfl
theorem i56_34 {w0 w2 w3 w4 w5 w6 : Value} {x : Nat} : WP V 56 34 [w0, .ref x, w2, w3, w4, w5, w6] st t I L R Q = WP V 56 35 [w0, .ref x, w2, w3, w4, w5, w6] (.ref x :: st) t I L R Q := wp_go rfl
theorem i56_35  : WP V 56 35 ls st t I L R Q = WP V 56 36 ls (.int (nI 145) :: st) t I L R Q := wp_go rfl
theorem i56_36  : WP V 56 36 ls st t I L R Q = WP V 56 37 ls (.int (nI 47) :: st) t I L R Q := wp_go rfl
theorem i56_37 {w0 w1 w3 w4 w5 w6 : Value} {x : Int32} : WP V 56 37 [w0, w1, .int x, w3, w4, w5, w6] st t I L R Q = WP V 56 38 [w0, w1, .int x, w3, w4, w5, w6] (.int x :: st) t I L R Q := wp_go rfl
theorem i56_38 {x y : Int32} : WP V 56 38 ls (.int y :: .int x :: st) t I L R Q = WP V 56 39 ls (.int (x * y) :: st) t I L R Q := wp_go rfl
theorem i56_39 {x y : Int32} : WP V 56 39 ls (.int y :: .int x :: st) t I L R Q = WP V 56 40 ls (.int (x + y) :: st) t I L R Q := wp_go rfl
theorem i56_40 {k j : Nat} {N : Nat} (h2 : m_ar k 2 N = true) (hN : N < 2 ^ 31) (h1 : k < t) (h3 : j < N) : WP V 56 40 ls (.int (nI j) :: .ref k :: st) t I L R Q = WP V 56 41 ls (.int (I k j) :: st) t I L R Q := wp_iaload rfl hN h1 h2 h3
theorem i56_41 {x0 : Int32} {x1 : Nat}  (h1 : x1 < t) (h2 : m_ob x1 4 = true) : WP V 56 41 ls [.int x0, .ref x1] t I L R Q = WPC V 58 [.ref x1, .int x0] 56 42 ls [] t I L R Q := wp_cls (wp_icv rfl rfl h1 h2) (by decide) (Nat.le_of_ble_eq_true rfl) rfl rfl (Nat.le_of_ble_eq_true rfl) (Nat.le_of_ble_eq_true rfl)
theorem i56_42  : WP V 56 42 ls st t I L R Q = WP V 56 47 ls st t I L R Q := wp_go rfl
theorem i56_43 {w1 w2 w3 w4 w5 w6 : Value} {x : Nat} : WP V 56 43 [.ref x, w1, w2, w3, w4, w5, w6] st t I L R Q = WP V 56 44 [.ref x, w1, w2, w3, w4, w5, w6] (.ref x :: st) t I L R Q := wp_go rfl
theorem i56_44 {k : Nat} (h1 : k < t) (h2 : m_ob k 4 = true) : WP V 56 44 ls (.ref k :: st) t I L R Q = WP V 56 45 ls (.int (I k 2) :: st) t I L R Q := wp_getI rfl (by decide) h1 h2
theorem i56_45  : WP V 56 45 ls st t I L R Q = WP V 56 46 ls (.int (nI 1) :: st) t I L R Q := wp_go rfl
theorem i56_46 {x y : Int32} : WP V 56 46 ls (.int y :: .int x :: st) t I L R Q = WP V 56 47 ls (.int (x - y) :: st) t I L R Q := wp_go rfl
theorem i56_47 {p : Int32} {w0 w1 w2 w3 w5 w6 : Value} {x : Int32} : WP V 56 47 [w0, w1, w2, w3, .int p, w5, w6] (.int x :: st) t I L R Q = WP V 56 48 [w0, w1, w2, w3, .int p, .int x, w6] st t I L R Q := wp_go rfl
theorem i56_48 {w0 w1 w2 w3 w4 w6 : Value} {x : Int32} : WP V 56 48 [w0, w1, w2, w3, w4, .int x, w6] st t I L R Q = WP V 56 49 [w0, w1, w2, w3, w4, .int x, w6] (.int x :: st) t I L R Q := wp_go rfl
theorem i56_49  : WP V 56 49 ls st t I L R Q = WP V 56 50 ls (.int (nI 35) :: st) t I L R Q := wp_go rfl
theorem i56_50 {x y : Int32} : WP V 56 50 ls (.int y :: .int x :: st) t I L R Q = WP V 56 51 ls (.int (x * y) :: st) t I L R Q := wp_go rfl
theorem i56_51 {p : Int32} {w0 w1 w2 w3 w4 w6 : Value} {x : Int32} : WP V 56 51 [w0, w1, w2, w3, w4, .int p, w6] (.int x :: st) t I L R Q = WP V 56 52 [w0, w1, w2, w3, w4, .int p, .int x] st t I L R Q := wp_go rfl
theorem i56_52 {w1 w2 w3 w4 w5 w6 : Value} {x : Nat} : WP V 56 52 [.ref x, w1, w2, w3, w4, w5, w6] st t I L R Q = WP V 56 53 [.ref x, w1, w2, w3, w4, w5, w6] (.ref x :: st) t I L R Q := wp_go rfl
theorem i56_53 {k : Nat} (h1 : k < t) (h2 : m_ob k 4 = true) : WP V 56 53 ls (.ref k :: st) t I L R Q = WP V 56 54 ls (m_rv (R k 0) :: st) t I L R Q := wp_getR rfl (by decide) h1 h2
theorem i56_54 {w0 w1 w2 w3 w4 w5 : Value} {x : Int32} : WP V 56 54 [w0, w1, w2, w3, w4, w5, .int x] st t I L R Q = WP V 56 55 [w0, w1, w2, w3, w4, w5, .int x] (.int x :: st) t I L R Q := wp_go rfl
theorem i56_55 {w1 w2 w3 w4 w5 w6 : Value} {x : Nat} : WP V 56 55 [.ref x, w1, w2, w3, w4, w5, w6] st t I L R Q = WP V 56 56 [.ref x, w1, w2, w3, w4, w5, w6] (.ref x :: st) t I L R Q := wp_go rfl
theorem i56_56 {k : Nat} (h1 : k < t) (h2 : m_ob k 4 = true) : WP V 56 56 ls (.ref k :: st) t I L R Q = WP V 56 57 ls (m_rv (R k 0) :: st) t I L R Q := wp_getR rfl (by decide) h1 h2
theorem i56_57 {w0 w1 w2 w3 w4 w5 : Value} {x : Int32} : WP V 56 57 [w0, w1, w2, w3, w4, w5, .int x] st t I L R Q = WP V 56 58 [w0, w1, w2, w3, w4, w5, .int x] (.int x :: st) t I L R Q := wp_go rfl
theorem i56_58  : WP V 56 58 ls st t I L R Q = WP V 56 59 ls (.int (nI 35) :: st) t I L R Q := wp_go rfl
theorem i56_59 {x y : Int32} : WP V 56 59 ls (.int y :: .int x :: st) t I L R Q = WP V 56 60 ls (.int (x + y) :: st) t I L R Q := wp_go rfl
theorem i56_60 {w1 w2 w3 w4 w5 w6 : Value} {x : Nat} : WP V 56 60 [.ref x, w1, w2, w3, w4, w5, w6] st t I L R Q = WP V 56 61 [.ref x, w1, w2, w3, w4, w5, w6] (.ref x :: st) t I L R Q := wp_go rfl
theorem i56_61 {k : Nat} (h1 : k < t) (h2 : m_ob k 4 = true) : WP V 56 61 ls (.ref k :: st) t I L R Q = WP V 56 62 ls (.int (I k 2) :: st) t I L R Q := wp_getI rfl (by decide) h1 h2
theorem i56_62  : WP V 56 62 ls st t I L R Q = WP V 56 63 ls (.int (nI 1) :: st) t I L R Q := wp_go rfl
theorem i56_63 {x y : Int32} : WP V 56 63 ls (.int y :: .int x :: st) t I L R Q = WP V 56 64 ls (.int (x - y) :: st) t I L R Q := wp_go rfl
theorem i56_64 {w0 w1 w2 w3 w4 w6 : Value} {x : Int32} : WP V 56 64 [w0, w1, w2, w3, w4, .int x, w6] st t I L R Q = WP V 56 65 [w0, w1, w2, w3, w4, .int x, w6] (.int x :: st) t I L R Q := wp_go rfl
theorem i56_65 {x y : Int32} : WP V 56 65 ls (.int y :: .int x :: st) t I L R Q = WP V 56 66 ls (.int (x - y) :: st) t I L R Q := wp_go rfl
theorem i56_66  : WP V 56 66 ls st t I L R Q = WP V 56 67 ls (.int (nI 35) :: st) t I L R Q := wp_go rfl
theorem i56_67 {x y : Int32} : WP V 56 67 ls (.int y :: .int x :: st) t I L R Q = WP V 56 68 ls (.int (x * y) :: st) t I L R Q := wp_go rfl
theorem i56_68 {s d sp dp cnt : Nat} (h3 : m_ar s 2 2100 = true) (h4 : m_ar d 2 2100 = true) (h1 : s < t) (h2 : d < t) (h5 : sp + cnt ≤ 2100) (h6 : dp + cnt ≤ 2100) : WP V 56 68 ls [.int (nI cnt), .int (nI dp), .ref d, .int (nI sp), .ref s] t I L R Q = WP V 56 69 ls [] t (m_sc I d (va_cpy (I s) (I d) sp dp cnt)) L R Q := wp_copyi rfl (by decide) (by decide) h1 h2 h3 h4 h5 h6 (by decide)
theorem i56_69 {w1 w2 w3 w4 w5 w6 : Value} {x : Nat} : WP V 56 69 [.ref x, w1, w2, w3, w4, w5, w6] st t I L R Q = WP V 56 70 [.ref x, w1, w2, w3, w4, w5, w6] (.ref x :: st) t I L R Q := wp_go rfl
theorem i56_70 {k : Nat} (h1 : k < t) (h2 : m_ob k 4 = true) : WP V 56 70 ls (.ref k :: st) t I L R Q = WP V 56 71 ls (m_rv (R k 0) :: st) t I L R Q := wp_getR rfl (by decide) h1 h2
theorem i56_71 {w0 w1 w2 w3 w4 w5 : Value} {x : Int32} : WP V 56 71 [w0, w1, w2, w3, w4, w5, .int x] st t I L R Q = WP V 56 72 [w0, w1, w2, w3, w4, w5, .int x] (.int x :: st) t I L R Q := wp_go rfl
theorem i56_72  : WP V 56 72 ls st t I L R Q = WP V 56 73 ls (.int (nI 0) :: st) t I L R Q := wp_go rfl
theorem i56_73 {x y : Int32} : WP V 56 73 ls (.int y :: .int x :: st) t I L R Q = WP V 56 74 ls (.int (x + y) :: st) t I L R Q := wp_go rfl
theorem i56_74 {w0 w1 w3 w4 w5 w6 : Value} {x : Int32} : WP V 56 74 [w0, w1, .int x, w3, w4, w5, w6] st t I L R Q = WP V 56 75 [w0, w1, .int x, w3, w4, w5, w6] (.int x :: st) t I L R Q := wp_go rfl
theorem i56_75 {k j : Nat} {x : Int32} (h2 : m_ar k 2 2100 = true) (h1 : k < t) (h3 : j < 2100) : WP V 56 75 ls (.int x :: .int (nI j) :: .ref k :: st) t I L R Q = WP V 56 76 ls st t (m_sc I k (m_sc (I k) j x)) L R Q := wp_iastore rfl (by decide) h1 h2 h3
theorem i56_76 {w1 w2 w3 w4 w5 w6 : Value} {x : Nat} : WP V 56 76 [.ref x, w1, w2, w3, w4, w5, w6] st t I L R Q = WP V 56 77 [.ref x, w1, w2, w3, w4, w5, w6] (.ref x :: st) t I L R Q := wp_go rfl
theorem i56_77 {k : Nat} (h1 : k < t) (h2 : m_ob k 4 = true) : WP V 56 77 ls (.ref k :: st) t I L R Q = WP V 56 78 ls (m_rv (R k 0) :: st) t I L R Q := wp_getR rfl (by decide) h1 h2
theorem i56_78 {w0 w1 w2 w3 w4 w5 : Value} {x : Int32} : WP V 56 78 [w0, w1, w2, w3, w4, w5, .int x] st t I L R Q = WP V 56 79 [w0, w1, w2, w3, w4, w5, .int x] (.int x :: st) t I L R Q := wp_go rfl
theorem i56_79  : WP V 56 79 ls st t I L R Q = WP V 56 80 ls (.int (nI 1) :: st) t I L R Q := wp_go rfl
theorem i56_80 {x y : Int32} : WP V 56 80 ls (.int y :: .int x :: st) t I L R Q = WP V 56 81 ls (.int (x + y) :: st) t I L R Q := wp_go rfl
theorem i56_81 {w0 w2 w3 w4 w5 w6 : Value} {x : Nat} : WP V 56 81 [w0, .ref x, w2, w3, w4, w5, w6] st t I L R Q = WP V 56 82 [w0, .ref x, w2, w3, w4, w5, w6] (.ref x :: st) t I L R Q := wp_go rfl
theorem i56_82  : WP V 56 82 ls st t I L R Q = WP V 56 83 ls (.int (nI 15) :: st) t I L R Q := wp_go rfl
theorem i56_83 {w0 w1 w3 w4 w5 w6 : Value} {x : Int32} : WP V 56 83 [w0, w1, .int x, w3, w4, w5, w6] st t I L R Q = WP V 56 84 [w0, w1, .int x, w3, w4, w5, w6] (.int x :: st) t I L R Q := wp_go rfl
theorem i56_84 {x y : Int32} : WP V 56 84 ls (.int y :: .int x :: st) t I L R Q = WP V 56 85 ls (.int (x + y) :: st) t I L R Q := wp_go rfl
theorem i56_85 {k j : Nat} {N : Nat} (h2 : m_ar k 2 N = true) (hN : N < 2 ^ 31) (h1 : k < t) (h3 : j < N) : WP V 56 85 ls (.int (nI j) :: .ref k :: st) t I L R Q = WP V 56 86 ls (.int (I k j) :: st) t I L R Q := wp_iaload rfl hN h1 h2 h3
theorem i56_86 {k j : Nat} {x : Int32} (h2 : m_ar k 2 2100 = true) (h1 : k < t) (h3 : j < 2100) : WP V 56 86 ls (.int x :: .int (nI j) :: .ref k :: st) t I L R Q = WP V 56 87 ls st t (m_sc I k (m_sc (I k) j x)) L R Q := wp_iastore rfl (by decide) h1 h2 h3
theorem i56_87 {w0 w2 w3 w4 w5 w6 : Value} {x : Nat} : WP V 56 87 [w0, .ref x, w2, w3, w4, w5, w6] st t I L R Q = WP V 56 88 [w0, .ref x, w2, w3, w4, w5, w6] (.ref x :: st) t I L R Q := wp_go rfl
theorem i56_88  : WP V 56 88 ls st t I L R Q = WP V 56 89 ls (.int (nI 160) :: st) t I L R Q := wp_go rfl
theorem i56_89  : WP V 56 89 ls st t I L R Q = WP V 56 90 ls (.int (nI 47) :: st) t I L R Q := wp_go rfl
theorem i56_90 {w0 w1 w3 w4 w5 w6 : Value} {x : Int32} : WP V 56 90 [w0, w1, .int x, w3, w4, w5, w6] st t I L R Q = WP V 56 91 [w0, w1, .int x, w3, w4, w5, w6] (.int x :: st) t I L R Q := wp_go rfl
theorem i56_91 {x y : Int32} : WP V 56 91 ls (.int y :: .int x :: st) t I L R Q = WP V 56 92 ls (.int (x * y) :: st) t I L R Q := wp_go rfl
theorem i56_92 {x y : Int32} : WP V 56 92 ls (.int y :: .int x :: st) t I L R Q = WP V 56 93 ls (.int (x + y) :: st) t I L R Q := wp_go rfl
theorem i56_93 {w1 w2 w3 w4 w5 w6 : Value} {x : Nat} : WP V 56 93 [.ref x, w1, w2, w3, w4, w5, w6] st t I L R Q = WP V 56 94 [.ref x, w1, w2, w3, w4, w5, w6] (.ref x :: st) t I L R Q := wp_go rfl
theorem i56_94 {k : Nat} (h1 : k < t) (h2 : m_ob k 4 = true) : WP V 56 94 ls (.ref k :: st) t I L R Q = WP V 56 95 ls (m_rv (R k 0) :: st) t I L R Q := wp_getR rfl (by decide) h1 h2
theorem i56_95 {w0 w1 w2 w3 w4 w5 : Value} {x : Int32} : WP V 56 95 [w0, w1, w2, w3, w4, w5, .int x] st t I L R Q = WP V 56 96 [w0, w1, w2, w3, w4, w5, .int x] (.int x :: st) t I L R Q := wp_go rfl
theorem i56_96  : WP V 56 96 ls st t I L R Q = WP V 56 97 ls (.int (nI 2) :: st) t I L R Q := wp_go rfl
theorem i56_97 {x y : Int32} : WP V 56 97 ls (.int y :: .int x :: st) t I L R Q = WP V 56 98 ls (.int (x + y) :: st) t I L R Q := wp_go rfl
theorem i56_98  : WP V 56 98 ls st t I L R Q = WP V 56 99 ls (.int (nI 16) :: st) t I L R Q := wp_go rfl
theorem i56_99 {s d sp dp cnt : Nat} {Ns : Nat} (h3 : m_ar s 2 Ns = true) (h4 : m_ar d 2 2100 = true) (hNs : Ns < 2 ^ 31) (h1 : s < t) (h2 : d < t) (h5 : sp + cnt ≤ Ns) (h6 : dp + cnt ≤ 2100) : WP V 56 99 ls [.int (nI cnt), .int (nI dp), .ref d, .int (nI sp), .ref s] t I L R Q = WP V 56 100 ls [] t (m_sc I d (va_cpy (I s) (I d) sp dp cnt)) L R Q := wp_copyi rfl hNs (by decide) h1 h2 h3 h4 h5 h6 (by decide)
theorem i56_100 {w0 w2 w3 w4 w5 w6 : Value} {x : Nat} : WP V 56 100 [w0, .ref x, w2, w3, w4, w5, w6] st t I L R Q = WP V 56 101 [w0, .ref x, w2, w3, w4, w5, w6] (.ref x :: st) t I L R Q := wp_go rfl
theorem i56_101  : WP V 56 101 ls st t I L R Q = WP V 56 102 ls (.int (nI 176) :: st) t I L R Q := wp_go rfl
theorem i56_102  : WP V 56 102 ls st t I L R Q = WP V 56 103 ls (.int (nI 47) :: st) t I L R Q := wp_go rfl
theorem i56_103 {w0 w1 w3 w4 w5 w6 : Value} {x : Int32} : WP V 56 103 [w0, w1, .int x, w3, w4, w5, w6] st t I L R Q = WP V 56 104 [w0, w1, .int x, w3, w4, w5, w6] (.int x :: st) t I L R Q := wp_go rfl
theorem i56_104 {x y : Int32} : WP V 56 104 ls (.int y :: .int x :: st) t I L R Q = WP V 56 105 ls (.int (x * y) :: st) t I L R Q := wp_go rfl
theorem i56_105 {x y : Int32} : WP V 56 105 ls (.int y :: .int x :: st) t I L R Q = WP V 56 106 ls (.int (x + y) :: st) t I L R Q := wp_go rfl
theorem i56_106 {w1 w2 w3 w4 w5 w6 : Value} {x : Nat} : WP V 56 106 [.ref x, w1, w2, w3, w4, w5, w6] st t I L R Q = WP V 56 107 [.ref x, w1, w2, w3, w4, w5, w6] (.ref x :: st) t I L R Q := wp_go rfl
theorem i56_107 {k : Nat} (h1 : k < t) (h2 : m_ob k 4 = true) : WP V 56 107 ls (.ref k :: st) t I L R Q = WP V 56 108 ls (m_rv (R k 0) :: st) t I L R Q := wp_getR rfl (by decide) h1 h2
theorem i56_108 {w0 w1 w2 w3 w4 w5 : Value} {x : Int32} : WP V 56 108 [w0, w1, w2, w3, w4, w5, .int x] st t I L R Q = WP V 56 109 [w0, w1, w2, w3, w4, w5, .int x] (.int x :: st) t I L R Q := wp_go rfl
theorem i56_109  : WP V 56 109 ls st t I L R Q = WP V 56 110 ls (.int (nI 18) :: st) t I L R Q := wp_go rfl
theorem i56_110 {x y : Int32} : WP V 56 110 ls (.int y :: .int x :: st) t I L R Q = WP V 56 111 ls (.int (x + y) :: st) t I L R Q := wp_go rfl
theorem i56_111  : WP V 56 111 ls st t I L R Q = WP V 56 112 ls (.int (nI 16) :: st) t I L R Q := wp_go rfl
theorem i56_112 {s d sp dp cnt : Nat} {Ns : Nat} (h3 : m_ar s 2 Ns = true) (h4 : m_ar d 2 2100 = true) (hNs : Ns < 2 ^ 31) (h1 : s < t) (h2 : d < t) (h5 : sp + cnt ≤ Ns) (h6 : dp + cnt ≤ 2100) : WP V 56 112 ls [.int (nI cnt), .int (nI dp), .ref d, .int (nI sp), .ref s] t I L R Q = WP V 56 113 ls [] t (m_sc I d (va_cpy (I s) (I d) sp dp cnt)) L R Q := wp_copyi rfl hNs (by decide) h1 h2 h3 h4 h5 h6 (by decide)
theorem i56_113 {w1 w2 w3 w4 w5 w6 : Value} {x : Nat} : WP V 56 113 [.ref x, w1, w2, w3, w4, w5, w6] st t I L R Q = WP V 56 114 [.ref x, w1, w2, w3, w4, w5, w6] (.ref x :: st) t I L R Q := wp_go rfl
theorem i56_114 {k : Nat} (h1 : k < t) (h2 : m_ob k 4 = true) : WP V 56 114 ls (.ref k :: st) t I L R Q = WP V 56 115 ls (m_rv (R k 0) :: st) t I L R Q := wp_getR rfl (by decide) h1 h2
theorem i56_115 {w0 w1 w2 w3 w4 w5 : Value} {x : Int32} : WP V 56 115 [w0, w1, w2, w3, w4, w5, .int x] st t I L R Q = WP V 56 116 [w0, w1, w2, w3, w4, w5, .int x] (.int x :: st) t I L R Q := wp_go rfl
theorem i56_116  : WP V 56 116 ls st t I L R Q = WP V 56 117 ls (.int (nI 34) :: st) t I L R Q := wp_go rfl
theorem i56_117 {x y : Int32} : WP V 56 117 ls (.int y :: .int x :: st) t I L R Q = WP V 56 118 ls (.int (x + y) :: st) t I L R Q := wp_go rfl
theorem i56_118 {w0 w1 w2 w4 w5 w6 : Value} {x : Int32} : WP V 56 118 [w0, w1, w2, .int x, w4, w5, w6] st t I L R Q = WP V 56 119 [w0, w1, w2, .int x, w4, w5, w6] (.int x :: st) t I L R Q := wp_go rfl
theorem i56_119 {k j : Nat} {x : Int32} (h2 : m_ar k 2 2100 = true) (h1 : k < t) (h3 : j < 2100) : WP V 56 119 ls (.int x :: .int (nI j) :: .ref k :: st) t I L R Q = WP V 56 120 ls st t (m_sc I k (m_sc (I k) j x)) L R Q := wp_iastore rfl (by decide) h1 h2 h3
theorem i56_120  : WP V 56 120 ls [] t I L R Q = Q none t I L R := wp_rtv rfl rfl
-- TransactionCells$Notes.noteWriting([III)V
theorem i57_0 {w1 w2 w3 w4 : Value} {x : Nat} : WP V 57 0 [.ref x, w1, w2, w3, w4] st t I L R Q = WP V 57 1 [.ref x, w1, w2, w3, w4] (.ref x :: st) t I L R Q := wp_go rfl
theorem i57_1 {k : Nat} (h1 : k < t) (h2 : m_ob k 4 = true) : WP V 57 1 ls (.ref k :: st) t I L R Q = WP V 57 2 ls (.int (I k 3) :: st) t I L R Q := wp_getI rfl (by decide) h1 h2
theorem i57_2 {x : Int32} : WP V 57 2 ls (.int x :: st) t I L R Q = if x = nI 0 then WP V 57 4 ls st t I L R Q else WP V 57 3 ls st t I L R Q := wp_br (c := m_cc .eq x 0) rfl rfl
theorem i57_3  : WP V 57 3 ls [] t I L R Q = Q none t I L R := wp_rtv rfl rfl
theorem i57_4 {w1 w2 w3 w4 : Value} {x : Nat} : WP V 57 4 [.ref x, w1, w2, w3, w4] st t I L R Q = WP V 57 5 [.ref x, w1, w2, w3, w4] (.ref x :: st) t I L R Q := wp_go rfl
theorem i57_5 {v0 : Nat} : WP V 57 5 ls (.ref v0 :: st) t I L R Q = WP V 57 6 ls (.ref v0 :: .ref v0 :: st) t I L R Q := wp_go rfl
theorem i57_6 {k : Nat} (h1 : k < t) (h2 : m_ob k 4 = true) : WP V 57 6 ls (.ref k :: st) t I L R Q = WP V 57 7 ls (.int (I k 2) :: st) t I L R Q := wp_getI rfl (by decide) h1 h2
theorem i57_7  : WP V 57 7 ls st t I L R Q = WP V 57 8 ls (.int (nI 1) :: st) t I L R Q := wp_go rfl
theorem i57_8 {x y : Int32} : WP V 57 8 ls (.int y :: .int x :: st) t I L R Q = WP V 57 9 ls (.int (x + y) :: st) t I L R Q := wp_go rfl
theorem i57_9 {k : Nat} {x : Int32} (h1 : k < t) (h2 : m_ob k 4 = true) : WP V 57 9 ls (.int x :: .ref k :: st) t I L R Q = WP V 57 10 ls st t (m_sc I k (m_sc (I k) 2 x)) L R Q := wp_putI rfl (by decide) h1 h2
theorem i57_10 {w1 w2 w3 w4 : Value} {x : Nat} : WP V 57 10 [.ref x, w1, w2, w3, w4] st t I L R Q = WP V 57 11 [.ref x, w1, w2, w3, w4] (.ref x :: st) t I L R Q := wp_go rfl
theorem i57_11 {k : Nat} (h1 : k < t) (h2 : m_ob k 4 = true) : WP V 57 11 ls (.ref k :: st) t I L R Q = WP V 57 12 ls (.int (I k 2) :: st) t I L R Q := wp_getI rfl (by decide) h1 h2
theorem i57_12  : WP V 57 12 ls st t I L R Q = WP V 57 13 ls (.int (nI 60) :: st) t I L R Q := wp_go rfl
theorem i57_13 {x y : Int32} : WP V 57 13 ls (.int y :: .int x :: st) t I L R Q = if x ≤ y then WP V 57 15 ls st t I L R Q else WP V 57 14 ls st t I L R Q := wp_br (c := m_cc .le x y) rfl rfl
theorem i57_14  : WP V 57 14 ls [] t I L R Q = Q none t I L R := wp_rtv rfl rfl
theorem i57_15 {w1 w2 w3 w4 : Value} {x : Nat} : WP V 57 15 [.ref x, w1, w2, w3, w4] st t I L R Q = WP V 57 16 [.ref x, w1, w2, w3, w4] (.ref x :: st) t I L R Q := wp_go rfl
theorem i57_16 {k : Nat} (h1 : k < t) (h2 : m_ob k 4 = true) : WP V 57 16 ls (.ref k :: st) t I L R Q = WP V 57 17 ls (.int (I k 2) :: st) t I L R Q := wp_getI rfl (by decide) h1 h2
theorem i57_17  : WP V 57 17 ls st t I L R Q = WP V 57 18 ls (.int (nI 1) :: st) t I L R Q := wp_go rfl
theorem i57_18 {x y : Int32} : WP V 57 18 ls (.int y :: .int x :: st) t I L R Q = WP V 57 19 ls (.int (x - y) :: st) t I L R Q := wp_go rfl
theorem i57_19  : WP V 57 19 ls st t I L R Q = WP V 57 20 ls (.int (nI 35) :: st) t I L R Q := wp_go rfl
theorem i57_20 {x y : Int32} : WP V 57 20 ls (.int y :: .int x :: st) t I L R Q = WP V 57 21 ls (.int (x * y) :: st) t I L R Q := wp_go rfl
theorem i57_21 {p : Int32} {w0 w1 w2 w4 : Value} {x : Int32} : WP V 57 21 [w0, w1, w2, .int p, w4] (.int x :: st) t I L R Q = WP V 57 22 [w0, w1, w2, .int p, .int x] st t I L R Q := wp_go rfl
theorem i57_22 {w1 w2 w3 w4 : Value} {x : Nat} : WP V 57 22 [.ref x, w1, w2, w3, w4] st t I L R Q = WP V 57 23 [.ref x, w1, w2, w3, w4] (.ref x :: st) t I L R Q := wp_go rfl
theorem i57_23 {k : Nat} (h1 : k < t) (h2 : m_ob k 4 = true) : WP V 57 23 ls (.ref k :: st) t I L R Q = WP V 57 24 ls (m_rv (R k 0) :: st) t I L R Q := wp_getR rfl (by decide) h1 h2
theorem i57_24 {w0 w1 w2 w3 : Value} {x : Int32} : WP V 57 24 [w0, w1, w2, w3, .int x] st t I L R Q = WP V 57 25 [w0, w1, w2, w3, .int x] (.int x :: st) t I L R Q := wp_go rfl
theorem i57_25  : WP V 57 25 ls st t I L R Q = WP V 57 26 ls (.int (nI 0) :: st) t I L R Q := wp_go rfl
theorem i57_26 {x y : Int32} : WP V 57 26 ls (.int y :: .int x :: st) t I L R Q = WP V 57 27 ls (.int (x + y) :: st) t I L R Q := wp_go rfl
theorem i57_27 {w0 w1 w3 w4 : Value} {x : Int32} : WP V 57 27 [w0, w1, .int x, w3, w4] st t I L R Q = WP V 57 28 [w0, w1, .int x, w3, w4] (.int x :: st) t I L R Q := wp_go rfl
theorem i57_28 {k j : Nat} {x : Int32} (h2 : m_ar k 2 2100 = true) (h1 : k < t) (h3 : j < 2100) : WP V 57 28 ls (.int x :: .int (nI j) :: .ref k :: st) t I L R Q = WP V 57 29 ls st t (m_sc I k (m_sc (I k) j x)) L R Q := wp_iastore rfl (by decide) h1 h2 h3
theorem i57_29 {w1 w2 w3 w4 : Value} {x : Nat} : WP V 57 29 [.ref x, w1, w2, w3, w4] st t I L R Q = WP V 57 30 [.ref x, w1, w2, w3, w4] (.ref x :: st) t I L R Q := wp_go rfl
theorem i57_30 {k : Nat} (h1 : k < t) (h2 : m_ob k 4 = true) : WP V 57 30 ls (.ref k :: st) t I L R Q = WP V 57 31 ls (m_rv (R k 0) :: st) t I L R Q := wp_getR rfl (by decide) h1 h2
theorem i57_31 {w0 w1 w2 w3 : Value} {x : Int32} : WP V 57 31 [w0, w1, w2, w3, .int x] st t I L R Q = WP V 57 32 [w0, w1, w2, w3, .int x] (.int x :: st) t I L R Q := wp_go rfl
theorem i57_32  : WP V 57 32 ls st t I L R Q = WP V 57 33 ls (.int (nI 1) :: st) t I L R Q := wp_go rfl
theorem i57_33 {x y : Int32} : WP V 57 33 ls (.int y :: .int x :: st) t I L R Q = WP V 57 34 ls (.int (x + y) :: st) t I L R Q := wp_go rfl
theorem i57_34  : WP V 57 34 ls st t I L R Q = WP V 57 35 ls (.int (nI 0) :: st) t I L R Q := wp_go rfl
theorem i57_35 {k j : Nat} {x : Int32} (h2 : m_ar k 2 2100 = true) (h1 : k < t) (h3 : j < 2100) : WP V 57 35 ls (.int x :: .int (nI j) :: .ref k :: st) t I L R Q = WP V 57 36 ls st t (m_sc I k (m_sc (I k) j x)) L R Q := wp_iastore rfl (by decide) h1 h2 h3
theorem i57_36 {w1 w2 w3 w4 : Value} {x : Nat} : WP V 57 36 [.ref x, w1, w2, w3, w4] st t I L R Q = WP V 57 37 [.ref x, w1, w2, w3, w4] (.ref x :: st) t I L R Q := wp_go rfl
theorem i57_37 {k : Nat} (h1 : k < t) (h2 : m_ob k 4 = true) : WP V 57 37 ls (.ref k :: st) t I L R Q = WP V 57 38 ls (m_rv (R k 0) :: st) t I L R Q := wp_getR rfl (by decide) h1 h2
theorem i57_38 {w0 w1 w2 w3 : Value} {x : Int32} : WP V 57 38 [w0, w1, w2, w3, .int x] st t I L R Q = WP V 57 39 [w0, w1, w2, w3, .int x] (.int x :: st) t I L R Q := wp_go rfl
theorem i57_39  : WP V 57 39 ls st t I L R Q = WP V 57 40 ls (.int (nI 2) :: st) t I L R Q := wp_go rfl
theorem i57_40 {x y : Int32} : WP V 57 40 ls (.int y :: .int x :: st) t I L R Q = WP V 57 41 ls (.int (x + y) :: st) t I L R Q := wp_go rfl
theorem i57_41 {w0 w1 w2 w3 : Value} {x : Int32} : WP V 57 41 [w0, w1, w2, w3, .int x] st t I L R Q = WP V 57 42 [w0, w1, w2, w3, .int x] (.int x :: st) t I L R Q := wp_go rfl
theorem i57_42  : WP V 57 42 ls st t I L R Q = WP V 57 43 ls (.int (nI 2) :: st) t I L R Q := wp_go rfl
theorem i57_43 {x y : Int32} : WP V 57 43 ls (.int y :: .int x :: st) t I L R Q = WP V 57 44 ls (.int (x + y) :: st) t I L R Q := wp_go rfl
theorem i57_44  : WP V 57 44 ls st t I L R Q = WP V 57 45 ls (.int (nI 8) :: st) t I L R Q := wp_go rfl
theorem i57_45 {x y : Int32} : WP V 57 45 ls (.int y :: .int x :: st) t I L R Q = WP V 57 46 ls (.int (x + y) :: st) t I L R Q := wp_go rfl
theorem i57_46  : WP V 57 46 ls st t I L R Q = WP V 57 47 ls (.int (-1) :: st) t I L R Q := wp_go rfl
theorem i57_47 {x0 : Int32} {x1 : Int32} {x2 : Int32} {x3 : Nat}  : WP V 57 47 ls [.int x0, .int x1, .int x2, .ref x3] t I L R Q = WPC V 197 [.ref x3, .int x2, .int x1, .int x0] 57 48 ls [] t I L R Q := wp_cls (wp_ics rfl (by decide)) (by decide) (Nat.le_of_ble_eq_true rfl) rfl rfl (Nat.le_of_ble_eq_true rfl) (Nat.le_of_ble_eq_true rfl)
theorem i57_48 {w1 w2 w3 w4 : Value} {x : Nat} : WP V 57 48 [.ref x, w1, w2, w3, w4] st t I L R Q = WP V 57 49 [.ref x, w1, w2, w3, w4] (.ref x :: st) t I L R Q := wp_go rfl
theorem i57_49 {k : Nat} (h1 : k < t) (h2 : m_ob k 4 = true) : WP V 57 49 ls (.ref k :: st) t I L R Q = WP V 57 50 ls (m_rv (R k 0) :: st) t I L R Q := wp_getR rfl (by decide) h1 h2
theorem i57_50 {w0 w1 w2 w3 : Value} {x : Int32} : WP V 57 50 [w0, w1, w2, w3, .int x] st t I L R Q = WP V 57 51 [w0, w1, w2, w3, .int x] (.int x :: st) t I L R Q := wp_go rfl
theorem i57_51  : WP V 57 51 ls st t I L R Q = WP V 57 52 ls (.int (nI 2) :: st) t I L R Q := wp_go rfl
theorem i57_52 {x y : Int32} : WP V 57 52 ls (.int y :: .int x :: st) t I L R Q = WP V 57 53 ls (.int (x + y) :: st) t I L R Q := wp_go rfl
theorem i57_53  : WP V 57 53 ls st t I L R Q = WP V 57 54 ls (.int (nI 8) :: st) t I L R Q := wp_go rfl
theorem i57_54 {x y : Int32} : WP V 57 54 ls (.int y :: .int x :: st) t I L R Q = WP V 57 55 ls (.int (x + y) :: st) t I L R Q := wp_go rfl
theorem i57_55 {w0 w1 w2 w3 : Value} {x : Int32} : WP V 57 55 [w0, w1, w2, w3, .int x] st t I L R Q = WP V 57 56 [w0, w1, w2, w3, .int x] (.int x :: st) t I L R Q := wp_go rfl
theorem i57_56  : WP V 57 56 ls st t I L R Q = WP V 57 57 ls (.int (nI 18) :: st) t I L R Q := wp_go rfl
theorem i57_57 {x y : Int32} : WP V 57 57 ls (.int y :: .int x :: st) t I L R Q = WP V 57 58 ls (.int (x + y) :: st) t I L R Q := wp_go rfl
theorem i57_58  : WP V 57 58 ls st t I L R Q = WP V 57 59 ls (.int (nI 0) :: st) t I L R Q := wp_go rfl
theorem i57_59 {x0 : Int32} {x1 : Int32} {x2 : Int32} {x3 : Nat}  : WP V 57 59 ls [.int x0, .int x1, .int x2, .ref x3] t I L R Q = WPC V 197 [.ref x3, .int x2, .int x1, .int x0] 57 60 ls [] t I L R Q := wp_cls (wp_ics rfl (by decide)) (by decide) (Nat.le_of_ble_eq_true rfl) rfl rfl (Nat.le_of_ble_eq_true rfl) (Nat.le_of_ble_eq_true rfl)
theorem i57_60 {w1 w2 w3 w4 : Value} {x : Nat} : WP V 57 60 [.ref x, w1, w2, w3, w4] st t I L R Q = WP V 57 61 [.ref x, w1, w2, w3, w4] (.ref x :: st) t I L R Q := wp_go rfl
theorem i57_61 {k : Nat} (h1 : k < t) (h2 : m_ob k 4 = true) : WP V 57 61 ls (.ref k :: st) t I L R Q = WP V 57 62 ls (m_rv (R k 0) :: st) t I L R Q := wp_getR rfl (by decide) h1 h2
theorem i57_62 {w0 w1 w2 w3 : Value} {x : Int32} : WP V 57 62 [w0, w1, w2, w3, .int x] st t I L R Q = WP V 57 63 [w0, w1, w2, w3, .int x] (.int x :: st) t I L R Q := wp_go rfl
theorem i57_63  : WP V 57 63 ls st t I L R Q = WP V 57 64 ls (.int (nI 18) :: st) t I L R Q := wp_go rfl
theorem i57_64 {x y : Int32} : WP V 57 64 ls (.int y :: .int x :: st) t I L R Q = WP V 57 65 ls (.int (x + y) :: st) t I L R Q := wp_go rfl
theorem i57_65 {w0 w1 w2 w3 : Value} {x : Int32} : WP V 57 65 [w0, w1, w2, w3, .int x] st t I L R Q = WP V 57 66 [w0, w1, w2, w3, .int x] (.int x :: st) t I L R Q := wp_go rfl
theorem i57_66  : WP V 57 66 ls st t I L R Q = WP V 57 67 ls (.int (nI 18) :: st) t I L R Q := wp_go rfl
theorem i57_67 {x y : Int32} : WP V 57 67 ls (.int y :: .int x :: st) t I L R Q = WP V 57 68 ls (.int (x + y) :: st) t I L R Q := wp_go rfl
theorem i57_68  : WP V 57 68 ls st t I L R Q = WP V 57 69 ls (.int (nI 8) :: st) t I L R Q := wp_go rfl
theorem i57_69 {x y : Int32} : WP V 57 69 ls (.int y :: .int x :: st) t I L R Q = WP V 57 70 ls (.int (x + y) :: st) t I L R Q := wp_go rfl
theorem i57_70  : WP V 57 70 ls st t I L R Q = WP V 57 71 ls (.int (-1) :: st) t I L R Q := wp_go rfl
theorem i57_71 {x0 : Int32} {x1 : Int32} {x2 : Int32} {x3 : Nat}  : WP V 57 71 ls [.int x0, .int x1, .int x2, .ref x3] t I L R Q = WPC V 197 [.ref x3, .int x2, .int x1, .int x0] 57 72 ls [] t I L R Q := wp_cls (wp_ics rfl (by decide)) (by decide) (Nat.le_of_ble_eq_true rfl) rfl rfl (Nat.le_of_ble_eq_true rfl) (Nat.le_of_ble_eq_true rfl)
theorem i57_72 {w1 w2 w3 w4 : Value} {x : Nat} : WP V 57 72 [.ref x, w1, w2, w3, w4] st t I L R Q = WP V 57 73 [.ref x, w1, w2, w3, w4] (.ref x :: st) t I L R Q := wp_go rfl
theorem i57_73 {k : Nat} (h1 : k < t) (h2 : m_ob k 4 = true) : WP V 57 73 ls (.ref k :: st) t I L R Q = WP V 57 74 ls (m_rv (R k 0) :: st) t I L R Q := wp_getR rfl (by decide) h1 h2
theorem i57_74 {w0 w1 w2 w3 : Value} {x : Int32} : WP V 57 74 [w0, w1, w2, w3, .int x] st t I L R Q = WP V 57 75 [w0, w1, w2, w3, .int x] (.int x :: st) t I L R Q := wp_go rfl
theorem i57_75  : WP V 57 75 ls st t I L R Q = WP V 57 76 ls (.int (nI 18) :: st) t I L R Q := wp_go rfl
theorem i57_76 {x y : Int32} : WP V 57 76 ls (.int y :: .int x :: st) t I L R Q = WP V 57 77 ls (.int (x + y) :: st) t I L R Q := wp_go rfl
theorem i57_77  : WP V 57 77 ls st t I L R Q = WP V 57 78 ls (.int (nI 8) :: st) t I L R Q := wp_go rfl
theorem i57_78 {x y : Int32} : WP V 57 78 ls (.int y :: .int x :: st) t I L R Q = WP V 57 79 ls (.int (x + y) :: st) t I L R Q := wp_go rfl
theorem i57_79 {w0 w1 w2 w3 : Value} {x : Int32} : WP V 57 79 [w0, w1, w2, w3, .int x] st t I L R Q = WP V 57 80 [w0, w1, w2, w3, .int x] (.int x :: st) t I L R Q := wp_go rfl
theorem i57_80  : WP V 57 80 ls st t I L R Q = WP V 57 81 ls (.int (nI 34) :: st) t I L R Q := wp_go rfl
theorem i57_81 {x y : Int32} : WP V 57 81 ls (.int y :: .int x :: st) t I L R Q = WP V 57 82 ls (.int (x + y) :: st) t I L R Q := wp_go rfl
theorem i57_82  : WP V 57 82 ls st t I L R Q = WP V 57 83 ls (.int (nI 0) :: st) t I L R Q := wp_go rfl
theorem i57_83 {x0 : Int32} {x1 : Int32} {x2 : Int32} {x3 : Nat}  : WP V 57 83 ls [.int x0, .int x1, .int x2, .ref x3] t I L R Q = WPC V 197 [.ref x3, .int x2, .int x1, .int x0] 57 84 ls [] t I L R Q := wp_cls (wp_ics rfl (by decide)) (by decide) (Nat.le_of_ble_eq_true rfl) rfl rfl (Nat.le_of_ble_eq_true rfl) (Nat.le_of_ble_eq_true rfl)
theorem i57_84 {w1 w2 w3 w4 : Value} {x : Nat} : WP V 57 84 [.ref x, w1, w2, w3, w4] st t I L R Q = WP V 57 85 [.ref x, w1, w2, w3, w4] (.ref x :: st) t I L R Q := wp_go rfl
theorem i57_85 {k : Nat} (h1 : k < t) (h2 : m_ob k 4 = true) : WP V 57 85 ls (.ref k :: st) t I L R Q = WP V 57 86 ls (m_rv (R k 0) :: st) t I L R Q := wp_getR rfl (by decide) h1 h2
theorem i57_86 {w0 w1 w2 w3 : Value} {x : Int32} : WP V 57 86 [w0, w1, w2, w3, .int x] st t I L R Q = WP V 57 87 [w0, w1, w2, w3, .int x] (.int x :: st) t I L R Q := wp_go rfl
theorem i57_87  : WP V 57 87 ls st t I L R Q = WP V 57 88 ls (.int (nI 18) :: st) t I L R Q := wp_go rfl
theorem i57_88 {x y : Int32} : WP V 57 88 ls (.int y :: .int x :: st) t I L R Q = WP V 57 89 ls (.int (x + y) :: st) t I L R Q := wp_go rfl
theorem i57_89 {w0 w1 w2 w4 : Value} {x : Int32} : WP V 57 89 [w0, w1, w2, .int x, w4] st t I L R Q = WP V 57 90 [w0, w1, w2, .int x, w4] (.int x :: st) t I L R Q := wp_go rfl
theorem i57_90 {x y : Int32} : WP V 57 90 ls (.int y :: .int x :: st) t I L R Q = WP V 57 91 ls (.int (x + y) :: st) t I L R Q := wp_go rfl
theorem i57_91 {w0 w2 w3 w4 : Value} {x : Nat} : WP V 57 91 [w0, .ref x, w2, w3, w4] st t I L R Q = WP V 57 92 [w0, .ref x, w2, w3, w4] (.ref x :: st) t I L R Q := wp_go rfl
theorem i57_92  : WP V 57 92 ls st t I L R Q = WP V 57 93 ls (.int (nI 49) :: st) t I L R Q := wp_go rfl
theorem i57_93 {w0 w1 w2 w4 : Value} {x : Int32} : WP V 57 93 [w0, w1, w2, .int x, w4] st t I L R Q = WP V 57 94 [w0, w1, w2, .int x, w4] (.int x :: st) t I L R Q := wp_go rfl
theorem i57_94 {x y : Int32} : WP V 57 94 ls (.int y :: .int x :: st) t I L R Q = WP V 57 95 ls (.int (x + y) :: st) t I L R Q := wp_go rfl
theorem i57_95 {k j : Nat} {N : Nat} (h2 : m_ar k 2 N = true) (hN : N < 2 ^ 31) (h1 : k < t) (h3 : j < N) : WP V 57 95 ls (.int (nI j) :: .ref k :: st) t I L R Q = WP V 57 96 ls (.int (I k j) :: st) t I L R Q := wp_iaload rfl hN h1 h2 h3
theorem i57_96 {k j : Nat} {x : Int32} (h2 : m_ar k 2 2100 = true) (h1 : k < t) (h3 : j < 2100) : WP V 57 96 ls (.int x :: .int (nI j) :: .ref k :: st) t I L R Q = WP V 57 97 ls st t (m_sc I k (m_sc (I k) j x)) L R Q := wp_iastore rfl (by decide) h1 h2 h3
theorem i57_97 {w1 w2 w3 w4 : Value} {x : Nat} : WP V 57 97 [.ref x, w1, w2, w3, w4] st t I L R Q = WP V 57 98 [.ref x, w1, w2, w3, w4] (.ref x :: st) t I L R Q := wp_go rfl
theorem i57_98 {k : Nat} (h1 : k < t) (h2 : m_ob k 4 = true) : WP V 57 98 ls (.ref k :: st) t I L R Q = WP V 57 99 ls (m_rv (R k 0) :: st) t I L R Q := wp_getR rfl (by decide) h1 h2
theorem i57_99 {w0 w1 w2 w3 : Value} {x : Int32} : WP V 57 99 [w0, w1, w2, w3, .int x] st t I L R Q = WP V 57 100 [w0, w1, w2, w3, .int x] (.int x :: st) t I L R Q := wp_go rfl
theorem i57_100  : WP V 57 100 ls st t I L R Q = WP V 57 101 ls (.int (nI 18) :: st) t I L R Q := wp_go rfl
theorem i57_101 {x y : Int32} : WP V 57 101 ls (.int y :: .int x :: st) t I L R Q = WP V 57 102 ls (.int (x + y) :: st) t I L R Q := wp_go rfl
theorem i57_102  : WP V 57 102 ls st t I L R Q = WP V 57 103 ls (.int (nI 8) :: st) t I L R Q := wp_go rfl
theorem i57_103 {x y : Int32} : WP V 57 103 ls (.int y :: .int x :: st) t I L R Q = WP V 57 104 ls (.int (x + y) :: st) t I L R Q := wp_go rfl
theorem i57_104 {w0 w1 w2 w4 : Value} {x : Int32} : WP V 57 104 [w0, w1, w2, .int x, w4] st t I L R Q = WP V 57 105 [w0, w1, w2, .int x, w4] (.int x :: st) t I L R Q := wp_go rfl
theorem i57_105 {x y : Int32} : WP V 57 105 ls (.int y :: .int x :: st) t I L R Q = WP V 57 106 ls (.int (x + y) :: st) t I L R Q := wp_go rfl
theorem i57_106 {w0 w2 w3 w4 : Value} {x : Nat} : WP V 57 106 [w0, .ref x, w2, w3, w4] st t I L R Q = WP V 57 107 [w0, .ref x, w2, w3, w4] (.ref x :: st) t I L R Q := wp_go rfl
theorem i57_107  : WP V 57 107 ls st t I L R Q = WP V 57 108 ls (.int (nI 57) :: st) t I L R Q := wp_go rfl
theorem i57_108 {w0 w1 w2 w4 : Value} {x : Int32} : WP V 57 108 [w0, w1, w2, .int x, w4] st t I L R Q = WP V 57 109 [w0, w1, w2, .int x, w4] (.int x :: st) t I L R Q := wp_go rfl
theorem i57_109 {x y : Int32} : WP V 57 109 ls (.int y :: .int x :: st) t I L R Q = WP V 57 110 ls (.int (x + y) :: st) t I L R Q := wp_go rfl
theorem i57_110 {k j : Nat} {N : Nat} (h2 : m_ar k 2 N = true) (hN : N < 2 ^ 31) (h1 : k < t) (h3 : j < N) : WP V 57 110 ls (.int (nI j) :: .ref k :: st) t I L R Q = WP V 57 111 ls (.int (I k j) :: st) t I L R Q := wp_iaload rfl hN h1 h2 h3
theorem i57_111 {k j : Nat} {x : Int32} (h2 : m_ar k 2 2100 = true) (h1 : k < t) (h3 : j < 2100) : WP V 57 111 ls (.int x :: .int (nI j) :: .ref k :: st) t I L R Q = WP V 57 112 ls st t (m_sc I k (m_sc (I k) j x)) L R Q := wp_iastore rfl (by decide) h1 h2 h3
theorem i57_112 {w1 w2 w3 w4 : Value} {x : Nat} : WP V 57 112 [.ref x, w1, w2, w3, w4] st t I L R Q = WP V 57 113 [.ref x, w1, w2, w3, w4] (.ref x :: st) t I L R Q := wp_go rfl
theorem i57_113 {k : Nat} (h1 : k < t) (h2 : m_ob k 4 = true) : WP V 57 113 ls (.ref k :: st) t I L R Q = WP V 57 114 ls (m_rv (R k 0) :: st) t I L R Q := wp_getR rfl (by decide) h1 h2
theorem i57_114 {w0 w1 w2 w3 : Value} {x : Int32} : WP V 57 114 [w0, w1, w2, w3, .int x] st t I L R Q = WP V 57 115 [w0, w1, w2, w3, .int x] (.int x :: st) t I L R Q := wp_go rfl
theorem i57_115  : WP V 57 115 ls st t I L R Q = WP V 57 116 ls (.int (nI 34) :: st) t I L R Q := wp_go rfl
theorem i57_116 {x y : Int32} : WP V 57 116 ls (.int y :: .int x :: st) t I L R Q = WP V 57 117 ls (.int (x + y) :: st) t I L R Q := wp_go rfl
theorem i57_117 {w0 w2 w3 w4 : Value} {x : Nat} : WP V 57 117 [w0, .ref x, w2, w3, w4] st t I L R Q = WP V 57 118 [w0, .ref x, w2, w3, w4] (.ref x :: st) t I L R Q := wp_go rfl
theorem i57_118  : WP V 57 118 ls st t I L R Q = WP V 57 119 ls (.int (nI 0) :: st) t I L R Q := wp_go rfl
theorem i57_119 {k j : Nat} {N : Nat} (h2 : m_ar k 2 N = true) (hN : N < 2 ^ 31) (h1 : k < t) (h3 : j < N) : WP V 57 119 ls (.int (nI j) :: .ref k :: st) t I L R Q = WP V 57 120 ls (.int (I k j) :: st) t I L R Q := wp_iaload rfl hN h1 h2 h3
theorem i57_120 {k j : Nat} {x : Int32} (h2 : m_ar k 2 2100 = true) (h1 : k < t) (h3 : j < 2100) : WP V 57 120 ls (.int x :: .int (nI j) :: .ref k :: st) t I L R Q = WP V 57 121 ls st t (m_sc I k (m_sc (I k) j x)) L R Q := wp_iastore rfl (by decide) h1 h2 h3
theorem i57_121  : WP V 57 121 ls [] t I L R Q = Q none t I L R := wp_rtv rfl rfl
-- TransactionCells$Notes.placeOf(I)I
theorem i58_0  : WP V 58 0 ls st t I L R Q = WP V 58 1 ls (.int (nI 0) :: st) t I L R Q := wp_go rfl
theorem i58_1 {p : Int32} {w0 w2 : Value} {x : Int32} : WP V 58 1 [w0, .int p, w2] (.int x :: st) t I L R Q = WP V 58 2 [w0, .int p, .int x] st t I L R Q := wp_go rfl
theorem i58_2 {w0 w1 : Value} {x : Int32} : WP V 58 2 [w0, w1, .int x] st t I L R Q = WP V 58 3 [w0, w1, .int x] (.int x :: st) t I L R Q := wp_go rfl
theorem i58_3 {w1 w2 : Value} {x : Nat} : WP V 58 3 [.ref x, w1, w2] st t I L R Q = WP V 58 4 [.ref x, w1, w2] (.ref x :: st) t I L R Q := wp_go rfl
theorem i58_4 {k : Nat} (h1 : k < t) (h2 : m_ob k 4 = true) : WP V 58 4 ls (.ref k :: st) t I L R Q = WP V 58 5 ls (.int (I k 2) :: st) t I L R Q := wp_getI rfl (by decide) h1 h2
theorem i58_5  : WP V 58 5 ls st t I L R Q = WP V 58 6 ls (.int (nI 1) :: st) t I L R Q := wp_go rfl
theorem i58_6 {x y : Int32} : WP V 58 6 ls (.int y :: .int x :: st) t I L R Q = WP V 58 7 ls (.int (x - y) :: st) t I L R Q := wp_go rfl
theorem i58_7 {x y : Int32} : WP V 58 7 ls (.int y :: .int x :: st) t I L R Q = if y ≤ x then WP V 58 22 ls st t I L R Q else WP V 58 8 ls st t I L R Q := wp_br (c := m_cc .ge x y) rfl rfl
theorem i58_8 {w1 w2 : Value} {x : Nat} : WP V 58 8 [.ref x, w1, w2] st t I L R Q = WP V 58 9 [.ref x, w1, w2] (.ref x :: st) t I L R Q := wp_go rfl
theorem i58_9 {k : Nat} (h1 : k < t) (h2 : m_ob k 4 = true) : WP V 58 9 ls (.ref k :: st) t I L R Q = WP V 58 10 ls (m_rv (R k 0) :: st) t I L R Q := wp_getR rfl (by decide) h1 h2
theorem i58_10 {w0 w1 : Value} {x : Int32} : WP V 58 10 [w0, w1, .int x] st t I L R Q = WP V 58 11 [w0, w1, .int x] (.int x :: st) t I L R Q := wp_go rfl
theorem i58_11  : WP V 58 11 ls st t I L R Q = WP V 58 12 ls (.int (nI 35) :: st) t I L R Q := wp_go rfl
theorem i58_12 {x y : Int32} : WP V 58 12 ls (.int y :: .int x :: st) t I L R Q = WP V 58 13 ls (.int (x * y) :: st) t I L R Q := wp_go rfl
theorem i58_13  : WP V 58 13 ls st t I L R Q = WP V 58 14 ls (.int (nI 34) :: st) t I L R Q := wp_go rfl
theorem i58_14 {x y : Int32} : WP V 58 14 ls (.int y :: .int x :: st) t I L R Q = WP V 58 15 ls (.int (x + y) :: st) t I L R Q := wp_go rfl
theorem i58_15 {k j : Nat} (h2 : m_ar k 2 2100 = true) (h1 : k < t) (h3 : j < 2100) : WP V 58 15 ls (.int (nI j) :: .ref k :: st) t I L R Q = WP V 58 16 ls (.int (I k j) :: st) t I L R Q := wp_iaload rfl (by decide) h1 h2 h3
theorem i58_16 {w0 w2 : Value} {x : Int32} : WP V 58 16 [w0, .int x, w2] st t I L R Q = WP V 58 17 [w0, .int x, w2] (.int x :: st) t I L R Q := wp_go rfl
theorem i58_17 {x y : Int32} : WP V 58 17 ls (.int y :: .int x :: st) t I L R Q = if x ≤ y then WP V 58 20 ls st t I L R Q else WP V 58 18 ls st t I L R Q := wp_br (c := m_cc .le x y) rfl rfl
theorem i58_18 {w0 w1 : Value} {x : Int32} : WP V 58 18 [w0, w1, .int x] st t I L R Q = WP V 58 19 [w0, w1, .int x] (.int x :: st) t I L R Q := wp_go rfl
theorem i58_19 {x : Int32} : WP V 58 19 ls [.int x] t I L R Q = Q (some (.int x)) t I L R := wp_rti rfl rfl
theorem i58_20 {p : Int32} {w0 : Value} {x : Int32} : WP V 58 20 [w0, .int p, .int x] st t I L R Q = WP V 58 21 [w0, .int p, .int (x + (nI 1))] st t I L R Q := wp_go rfl
theorem i58_21  : WP V 58 21 ls st t I L R Q = WP V 58 2 ls st t I L R Q := wp_go rfl
theorem i58_22 {w1 w2 : Value} {x : Nat} : WP V 58 22 [.ref x, w1, w2] st t I L R Q = WP V 58 23 [.ref x, w1, w2] (.ref x :: st) t I L R Q := wp_go rfl
theorem i58_23 {k : Nat} (h1 : k < t) (h2 : m_ob k 4 = true) : WP V 58 23 ls (.ref k :: st) t I L R Q = WP V 58 24 ls (.int (I k 2) :: st) t I L R Q := wp_getI rfl (by decide) h1 h2
theorem i58_24  : WP V 58 24 ls st t I L R Q = WP V 58 25 ls (.int (nI 1) :: st) t I L R Q := wp_go rfl
theorem i58_25 {x y : Int32} : WP V 58 25 ls (.int y :: .int x :: st) t I L R Q = WP V 58 26 ls (.int (x - y) :: st) t I L R Q := wp_go rfl
theorem i58_26 {x : Int32} : WP V 58 26 ls [.int x] t I L R Q = Q (some (.int x)) t I L R := wp_rti rfl rfl
-- TransactionCells$Notes.firstWrong([I)I
theorem i59_0 {w0 w2 w3 : Value} {x : Nat} : WP V 59 0 [w0, .ref x, w2, w3] st t I L R Q = WP V 59 1 [w0, .ref x, w2, w3] (.ref x :: st) t I L R Q := wp_go rfl
theorem i59_1  : WP V 59 1 ls st t I L R Q = WP V 59 2 ls (.int (nI 565) :: st) t I L R Q := wp_go rfl
theorem i59_2 {w1 w2 w3 : Value} {x : Nat} : WP V 59 2 [.ref x, w1, w2, w3] st t I L R Q = WP V 59 3 [.ref x, w1, w2, w3] (.ref x :: st) t I L R Q := wp_go rfl
theorem i59_3 {k : Nat} (h1 : k < t) (h2 : m_ob k 4 = true) : WP V 59 3 ls (.ref k :: st) t I L R Q = WP V 59 4 ls (m_rv (R k 1) :: st) t I L R Q := wp_getR rfl (by decide) h1 h2
theorem i59_4  : WP V 59 4 ls st t I L R Q = WP V 59 5 ls (.int (nI 0) :: st) t I L R Q := wp_go rfl
theorem i59_5  : WP V 59 5 ls st t I L R Q = WP V 59 6 ls (.int (nI 16) :: st) t I L R Q := wp_go rfl
theorem i59_6 {s d sp dp cnt : Nat} {Ns : Nat} (h3 : m_ar s 2 Ns = true) (h4 : m_ar d 2 16 = true) (hNs : Ns < 2 ^ 31) (h1 : s < t) (h2 : d < t) (h5 : sp + cnt ≤ Ns) (h6 : dp + cnt ≤ 16) : WP V 59 6 ls [.int (nI cnt), .int (nI dp), .ref d, .int (nI sp), .ref s] t I L R Q = WP V 59 7 ls [] t (m_sc I d (va_cpy (I s) (I d) sp dp cnt)) L R Q := wp_copyi rfl hNs (by decide) h1 h2 h3 h4 h5 h6 (by decide)
theorem i59_7  : WP V 59 7 ls st t I L R Q = WP V 59 8 ls (.int (nI 0) :: st) t I L R Q := wp_go rfl
theorem i59_8 {p : Nat} {w0 w2 w3 : Value} {x : Int32} : WP V 59 8 [w0, .ref p, w2, w3] (.int x :: st) t I L R Q = WP V 59 9 [w0, .ref p, .int x, w3] st t I L R Q := wp_go rfl
theorem i59_9 {w0 w1 w3 : Value} {x : Int32} : WP V 59 9 [w0, w1, .int x, w3] st t I L R Q = WP V 59 10 [w0, w1, .int x, w3] (.int x :: st) t I L R Q := wp_go rfl
theorem i59_10 {w1 w2 w3 : Value} {x : Nat} : WP V 59 10 [.ref x, w1, w2, w3] st t I L R Q = WP V 59 11 [.ref x, w1, w2, w3] (.ref x :: st) t I L R Q := wp_go rfl
theorem i59_11 {x0 : Nat} {r0 : Int32} (h1 : x0 < t) (h2 : m_ob x0 4 = true) : WP V 59 11 ls [.ref x0, .int r0] t I L R Q = WPC V 54 [.ref x0] 59 12 ls [.int r0] t I L R Q := wp_cls (wp_icv rfl rfl h1 h2) (by decide) (Nat.le_of_ble_eq_true rfl) rfl rfl (Nat.le_of_ble_eq_true rfl) (Nat.le_of_ble_eq_true rfl)
theorem i59_12 {x y : Int32} : WP V 59 12 ls (.int y :: .int x :: st) t I L R Q = if y ≤ x then WP V 59 41 ls st t I L R Q else WP V 59 13 ls st t I L R Q := wp_br (c := m_cc .ge x y) rfl rfl
theorem i59_13 {w1 w2 w3 : Value} {x : Nat} : WP V 59 13 [.ref x, w1, w2, w3] st t I L R Q = WP V 59 14 [.ref x, w1, w2, w3] (.ref x :: st) t I L R Q := wp_go rfl
theorem i59_14 {w1 w2 w3 : Value} {x : Nat} : WP V 59 14 [.ref x, w1, w2, w3] st t I L R Q = WP V 59 15 [.ref x, w1, w2, w3] (.ref x :: st) t I L R Q := wp_go rfl
theorem i59_15 {k : Nat} (h1 : k < t) (h2 : m_ob k 4 = true) : WP V 59 15 ls (.ref k :: st) t I L R Q = WP V 59 16 ls (m_rv (R k 0) :: st) t I L R Q := wp_getR rfl (by decide) h1 h2
theorem i59_16 {w0 w1 w3 : Value} {x : Int32} : WP V 59 16 [w0, w1, .int x, w3] st t I L R Q = WP V 59 17 [w0, w1, .int x, w3] (.int x :: st) t I L R Q := wp_go rfl
theorem i59_17  : WP V 59 17 ls st t I L R Q = WP V 59 18 ls (.int (nI 35) :: st) t I L R Q := wp_go rfl
theorem i59_18 {x y : Int32} : WP V 59 18 ls (.int y :: .int x :: st) t I L R Q = WP V 59 19 ls (.int (x * y) :: st) t I L R Q := wp_go rfl
theorem i59_19  : WP V 59 19 ls st t I L R Q = WP V 59 20 ls (.int (nI 2) :: st) t I L R Q := wp_go rfl
theorem i59_20 {x y : Int32} : WP V 59 20 ls (.int y :: .int x :: st) t I L R Q = WP V 59 21 ls (.int (x + y) :: st) t I L R Q := wp_go rfl
theorem i59_21 {x0 : Int32} {x1 : Nat} {x2 : Nat}  (h1 : x2 < t) (h2 : m_ob x2 4 = true) : WP V 59 21 ls [.int x0, .ref x1, .ref x2] t I L R Q = WPC V 60 [.ref x2, .ref x1, .int x0] 59 22 ls [] t I L R Q := wp_cls (wp_icv rfl rfl h1 h2) (by decide) (Nat.le_of_ble_eq_true rfl) rfl rfl (Nat.le_of_ble_eq_true rfl) (Nat.le_of_ble_eq_true rfl)
theorem i59_22 {p : Int32} {w0 w1 w3 : Value} {x : Int32} : WP V 59 22 [w0, w1, .int p, w3] (.int x :: st) t I L R Q = WP V 59 23 [w0, w1, .int p, .int x] st t I L R Q := wp_go rfl
theorem i59_23 {w0 w1 w2 : Value} {x : Int32} : WP V 59 23 [w0, w1, w2, .int x] st t I L R Q = WP V 59 24 [w0, w1, w2, .int x] (.int x :: st) t I L R Q := wp_go rfl
theorem i59_24  : WP V 59 24 ls st t I L R Q = WP V 59 25 ls (.int (-1) :: st) t I L R Q := wp_go rfl
theorem i59_25 {x y : Int32} : WP V 59 25 ls (.int y :: .int x :: st) t I L R Q = if x = y then WP V 59 32 ls st t I L R Q else WP V 59 26 ls st t I L R Q := wp_br (c := m_cc .eq x y) rfl rfl
theorem i59_26  : WP V 59 26 ls st t I L R Q = WP V 59 27 ls (.int (nI 8) :: st) t I L R Q := wp_go rfl
theorem i59_27 {w0 w1 w3 : Value} {x : Int32} : WP V 59 27 [w0, w1, .int x, w3] st t I L R Q = WP V 59 28 [w0, w1, .int x, w3] (.int x :: st) t I L R Q := wp_go rfl
theorem i59_28 {x y : Int32} : WP V 59 28 ls (.int y :: .int x :: st) t I L R Q = WP V 59 29 ls (.int (x * y) :: st) t I L R Q := wp_go rfl
theorem i59_29 {w0 w1 w2 : Value} {x : Int32} : WP V 59 29 [w0, w1, w2, .int x] st t I L R Q = WP V 59 30 [w0, w1, w2, .int x] (.int x :: st) t I L R Q := wp_go rfl
theorem i59_30 {x y : Int32} : WP V 59 30 ls (.int y :: .int x :: st) t I L R Q = WP V 59 31 ls (.int (x + y) :: st) t I L R Q := wp_go rfl
theorem i59_31 {x : Int32} : WP V 59 31 ls [.int x] t I L R Q = Q (some (.int x)) t I L R := wp_rti rfl rfl
theorem i59_32 {w1 w2 w3 : Value} {x : Nat} : WP V 59 32 [.ref x, w1, w2, w3] st t I L R Q = WP V 59 33 [.ref x, w1, w2, w3] (.ref x :: st) t I L R Q := wp_go rfl
theorem i59_33 {w0 w1 w3 : Value} {x : Int32} : WP V 59 33 [w0, w1, .int x, w3] st t I L R Q = WP V 59 34 [w0, w1, .int x, w3] (.int x :: st) t I L R Q := wp_go rfl
theorem i59_34  : WP V 59 34 ls st t I L R Q = WP V 59 35 ls (.int (nI 35) :: st) t I L R Q := wp_go rfl
theorem i59_35 {x y : Int32} : WP V 59 35 ls (.int y :: .int x :: st) t I L R Q = WP V 59 36 ls (.int (x * y) :: st) t I L R Q := wp_go rfl
theorem i59_36  : WP V 59 36 ls st t I L R Q = WP V 59 37 ls (.int (nI 18) :: st) t I L R Q := wp_go rfl
theorem i59_37 {x y : Int32} : WP V 59 37 ls (.int y :: .int x :: st) t I L R Q = WP V 59 38 ls (.int (x + y) :: st) t I L R Q := wp_go rfl
theorem i59_38 {x0 : Int32} {x1 : Nat}  (h1 : x1 < t) (h2 : m_ob x1 4 = true) : WP V 59 38 ls [.int x0, .ref x1] t I L R Q = WPC V 61 [.ref x1, .int x0] 59 39 ls [] t I L R Q := wp_cls (wp_icv rfl rfl h1 h2) (by decide) (Nat.le_of_ble_eq_true rfl) rfl rfl (Nat.le_of_ble_eq_true rfl) (Nat.le_of_ble_eq_true rfl)
theorem i59_39 {p : Nat} {w0 w3 : Value} {x : Int32} : WP V 59 39 [w0, .ref p, .int x, w3] st t I L R Q = WP V 59 40 [w0, .ref p, .int (x + (nI 1)), w3] st t I L R Q := wp_go rfl
theorem i59_40  : WP V 59 40 ls st t I L R Q = WP V 59 9 ls st t I L R Q := wp_go rfl
theorem i59_41 {w1 w2 w3 : Value} {x : Nat} : WP V 59 41 [.ref x, w1, w2, w3] st t I L R Q = WP V 59 42 [.ref x, w1, w2, w3] (.ref x :: st) t I L R Q := wp_go rfl
theorem i59_42 {w0 w2 w3 : Value} {x : Nat} : WP V 59 42 [w0, .ref x, w2, w3] st t I L R Q = WP V 59 43 [w0, .ref x, w2, w3] (.ref x :: st) t I L R Q := wp_go rfl
theorem i59_43  : WP V 59 43 ls st t I L R Q = WP V 59 44 ls (.int (nI 49) :: st) t I L R Q := wp_go rfl
theorem i59_44 {x0 : Int32} {x1 : Nat} {x2 : Nat}  (h1 : x2 < t) (h2 : m_ob x2 4 = true) : WP V 59 44 ls [.int x0, .ref x1, .ref x2] t I L R Q = WPC V 60 [.ref x2, .ref x1, .int x0] 59 45 ls [] t I L R Q := wp_cls (wp_icv rfl rfl h1 h2) (by decide) (Nat.le_of_ble_eq_true rfl) rfl rfl (Nat.le_of_ble_eq_true rfl) (Nat.le_of_ble_eq_true rfl)
theorem i59_45 {p : Nat} {w0 w2 w3 : Value} {x : Int32} : WP V 59 45 [w0, .ref p, w2, w3] (.int x :: st) t I L R Q = WP V 59 46 [w0, .ref p, .int x, w3] st t I L R Q := wp_go rfl
theorem i59_46 {w0 w1 w3 : Value} {x : Int32} : WP V 59 46 [w0, w1, .int x, w3] st t I L R Q = WP V 59 47 [w0, w1, .int x, w3] (.int x :: st) t I L R Q := wp_go rfl
theorem i59_47  : WP V 59 47 ls st t I L R Q = WP V 59 48 ls (.int (-1) :: st) t I L R Q := wp_go rfl
theorem i59_48 {x y : Int32} : WP V 59 48 ls (.int y :: .int x :: st) t I L R Q = if x = y then WP V 59 49 ls st t I L R Q else WP V 59 51 ls st t I L R Q := wp_brn (c := m_cc .ne x y) rfl rfl
theorem i59_49  : WP V 59 49 ls st t I L R Q = WP V 59 50 ls (.int (-1) :: st) t I L R Q := wp_go rfl
theorem i59_50  : WP V 59 50 ls st t I L R Q = WP V 59 54 ls st t I L R Q := wp_go rfl
theorem i59_51  : WP V 59 51 ls st t I L R Q = WP V 59 52 ls (.int (nI 480) :: st) t I L R Q := wp_go rfl
theorem i59_52 {w0 w1 w3 : Value} {x : Int32} : WP V 59 52 [w0, w1, .int x, w3] st t I L R Q = WP V 59 53 [w0, w1, .int x, w3] (.int x :: st) t I L R Q := wp_go rfl
theorem i59_53 {x y : Int32} : WP V 59 53 ls (.int y :: .int x :: st) t I L R Q = WP V 59 54 ls (.int (x + y) :: st) t I L R Q := wp_go rfl
theorem i59_54 {x : Int32} : WP V 59 54 ls [.int x] t I L R Q = Q (some (.int x)) t I L R := wp_rti rfl rfl
-- TransactionCells$Notes.firstUnlike([II)I
theorem i60_0  : WP V 60 0 ls st t I L R Q = WP V 60 1 ls (.int (nI 0) :: st) t I L R Q := wp_go rfl
theorem i60_1 {p : Int32} {w0 w1 w3 : Value} {x : Int32} : WP V 60 1 [w0, w1, .int p, w3] (.int x :: st) t I L R Q = WP V 60 2 [w0, w1, .int p, .int x] st t I L R Q := wp_go rfl
theorem i60_2 {w0 w1 w2 : Value} {x : Int32} : WP V 60 2 [w0, w1, w2, .int x] st t I L R Q = WP V 60 3 [w0, w1, w2, .int x] (.int x :: st) t I L R Q := wp_go rfl
theorem i60_3  : WP V 60 3 ls st t I L R Q = WP V 60 4 ls (.int (nI 8) :: st) t I L R Q := wp_go rfl
theorem i60_4 {x y : Int32} : WP V 60 4 ls (.int y :: .int x :: st) t I L R Q = if y ≤ x then WP V 60 41 ls st t I L R Q else WP V 60 5 ls st t I L R Q := wp_br (c := m_cc .ge x y) rfl rfl
theorem i60_5 {w0 w2 w3 : Value} {x : Nat} : WP V 60 5 [w0, .ref x, w2, w3] st t I L R Q = WP V 60 6 [w0, .ref x, w2, w3] (.ref x :: st) t I L R Q := wp_go rfl
theorem i60_6 {w0 w1 w3 : Value} {x : Int32} : WP V 60 6 [w0, w1, .int x, w3] st t I L R Q = WP V 60 7 [w0, w1, .int x, w3] (.int x :: st) t I L R Q := wp_go rfl
theorem i60_7 {w0 w1 w2 : Value} {x : Int32} : WP V 60 7 [w0, w1, w2, .int x] st t I L R Q = WP V 60 8 [w0, w1, w2, .int x] (.int x :: st) t I L R Q := wp_go rfl
theorem i60_8 {x y : Int32} : WP V 60 8 ls (.int y :: .int x :: st) t I L R Q = WP V 60 9 ls (.int (x + y) :: st) t I L R Q := wp_go rfl
theorem i60_9 {k j : Nat} {N : Nat} (h2 : m_ar k 2 N = true) (hN : N < 2 ^ 31) (h1 : k < t) (h3 : j < N) : WP V 60 9 ls (.int (nI j) :: .ref k :: st) t I L R Q = WP V 60 10 ls (.int (I k j) :: st) t I L R Q := wp_iaload rfl hN h1 h2 h3
theorem i60_10  : WP V 60 10 ls st t I L R Q = WP V 60 11 ls (.int (-1) :: st) t I L R Q := wp_go rfl
theorem i60_11 {x y : Int32} : WP V 60 11 ls (.int y :: .int x :: st) t I L R Q = if x = y then WP V 60 12 ls st t I L R Q else WP V 60 13 ls st t I L R Q := wp_brn (c := m_cc .ne x y) rfl rfl
theorem i60_12  : WP V 60 12 ls st t I L R Q = WP V 60 39 ls st t I L R Q := wp_go rfl
theorem i60_13 {w0 w2 w3 : Value} {x : Nat} : WP V 60 13 [w0, .ref x, w2, w3] st t I L R Q = WP V 60 14 [w0, .ref x, w2, w3] (.ref x :: st) t I L R Q := wp_go rfl
theorem i60_14 {w0 w1 w3 : Value} {x : Int32} : WP V 60 14 [w0, w1, .int x, w3] st t I L R Q = WP V 60 15 [w0, w1, .int x, w3] (.int x :: st) t I L R Q := wp_go rfl
theorem i60_15 {w0 w1 w2 : Value} {x : Int32} : WP V 60 15 [w0, w1, w2, .int x] st t I L R Q = WP V 60 16 [w0, w1, w2, .int x] (.int x :: st) t I L R Q := wp_go rfl
theorem i60_16 {x y : Int32} : WP V 60 16 ls (.int y :: .int x :: st) t I L R Q = WP V 60 17 ls (.int (x + y) :: st) t I L R Q := wp_go rfl
theorem i60_17 {k j : Nat} {N : Nat} (h2 : m_ar k 2 N = true) (hN : N < 2 ^ 31) (h1 : k < t) (h3 : j < N) : WP V 60 17 ls (.int (nI j) :: .ref k :: st) t I L R Q = WP V 60 18 ls (.int (I k j) :: st) t I L R Q := wp_iaload rfl hN h1 h2 h3
theorem i60_18 {w1 w2 w3 : Value} {x : Nat} : WP V 60 18 [.ref x, w1, w2, w3] st t I L R Q = WP V 60 19 [.ref x, w1, w2, w3] (.ref x :: st) t I L R Q := wp_go rfl
theorem i60_19 {k : Nat} (h1 : k < t) (h2 : m_ob k 4 = true) : WP V 60 19 ls (.ref k :: st) t I L R Q = WP V 60 20 ls (m_rv (R k 1) :: st) t I L R Q := wp_getR rfl (by decide) h1 h2
theorem i60_20 {w0 w1 w2 : Value} {x : Int32} : WP V 60 20 [w0, w1, w2, .int x] st t I L R Q = WP V 60 21 [w0, w1, w2, .int x] (.int x :: st) t I L R Q := wp_go rfl
theorem i60_21 {k j : Nat} (h2 : m_ar k 2 16 = true) (h1 : k < t) (h3 : j < 16) : WP V 60 21 ls (.int (nI j) :: .ref k :: st) t I L R Q = WP V 60 22 ls (.int (I k j) :: st) t I L R Q := wp_iaload rfl (by decide) h1 h2 h3
theorem i60_22 {x y : Int32} : WP V 60 22 ls (.int y :: .int x :: st) t I L R Q = if x = y then WP V 60 23 ls st t I L R Q else WP V 60 37 ls st t I L R Q := wp_brn (c := m_cc .ne x y) rfl rfl
theorem i60_23 {w0 w2 w3 : Value} {x : Nat} : WP V 60 23 [w0, .ref x, w2, w3] st t I L R Q = WP V 60 24 [w0, .ref x, w2, w3] (.ref x :: st) t I L R Q := wp_go rfl
theorem i60_24 {w0 w1 w3 : Value} {x : Int32} : WP V 60 24 [w0, w1, .int x, w3] st t I L R Q = WP V 60 25 [w0, w1, .int x, w3] (.int x :: st) t I L R Q := wp_go rfl
theorem i60_25  : WP V 60 25 ls st t I L R Q = WP V 60 26 ls (.int (nI 8) :: st) t I L R Q := wp_go rfl
theorem i60_26 {x y : Int32} : WP V 60 26 ls (.int y :: .int x :: st) t I L R Q = WP V 60 27 ls (.int (x + y) :: st) t I L R Q := wp_go rfl
theorem i60_27 {w0 w1 w2 : Value} {x : Int32} : WP V 60 27 [w0, w1, w2, .int x] st t I L R Q = WP V 60 28 [w0, w1, w2, .int x] (.int x :: st) t I L R Q := wp_go rfl
theorem i60_28 {x y : Int32} : WP V 60 28 ls (.int y :: .int x :: st) t I L R Q = WP V 60 29 ls (.int (x + y) :: st) t I L R Q := wp_go rfl
theorem i60_29 {k j : Nat} {N : Nat} (h2 : m_ar k 2 N = true) (hN : N < 2 ^ 31) (h1 : k < t) (h3 : j < N) : WP V 60 29 ls (.int (nI j) :: .ref k :: st) t I L R Q = WP V 60 30 ls (.int (I k j) :: st) t I L R Q := wp_iaload rfl hN h1 h2 h3
theorem i60_30 {w1 w2 w3 : Value} {x : Nat} : WP V 60 30 [.ref x, w1, w2, w3] st t I L R Q = WP V 60 31 [.ref x, w1, w2, w3] (.ref x :: st) t I L R Q := wp_go rfl
theorem i60_31 {k : Nat} (h1 : k < t) (h2 : m_ob k 4 = true) : WP V 60 31 ls (.ref k :: st) t I L R Q = WP V 60 32 ls (m_rv (R k 1) :: st) t I L R Q := wp_getR rfl (by decide) h1 h2
theorem i60_32  : WP V 60 32 ls st t I L R Q = WP V 60 33 ls (.int (nI 8) :: st) t I L R Q := wp_go rfl
theorem i60_33 {w0 w1 w2 : Value} {x : Int32} : WP V 60 33 [w0, w1, w2, .int x] st t I L R Q = WP V 60 34 [w0, w1, w2, .int x] (.int x :: st) t I L R Q := wp_go rfl
theorem i60_34 {x y : Int32} : WP V 60 34 ls (.int y :: .int x :: st) t I L R Q = WP V 60 35 ls (.int (x + y) :: st) t I L R Q := wp_go rfl
theorem i60_35 {k j : Nat} (h2 : m_ar k 2 16 = true) (h1 : k < t) (h3 : j < 16) : WP V 60 35 ls (.int (nI j) :: .ref k :: st) t I L R Q = WP V 60 36 ls (.int (I k j) :: st) t I L R Q := wp_iaload rfl (by decide) h1 h2 h3
theorem i60_36 {x y : Int32} : WP V 60 36 ls (.int y :: .int x :: st) t I L R Q = if x = y then WP V 60 39 ls st t I L R Q else WP V 60 37 ls st t I L R Q := wp_br (c := m_cc .eq x y) rfl rfl
theorem i60_37 {w0 w1 w2 : Value} {x : Int32} : WP V 60 37 [w0, w1, w2, .int x] st t I L R Q = WP V 60 38 [w0, w1, w2, .int x] (.int x :: st) t I L R Q := wp_go rfl
theorem i60_38 {x : Int32} : WP V 60 38 ls [.int x] t I L R Q = Q (some (.int x)) t I L R := wp_rti rfl rfl
theorem i60_39 {p : Int32} {w0 w1 : Value} {x : Int32} : WP V 60 39 [w0, w1, .int p, .int x] st t I L R Q = WP V 60 40 [w0, w1, .int p, .int (x + (nI 1))] st t I L R Q := wp_go rfl
theorem i60_40  : WP V 60 40 ls st t I L R Q = WP V 60 2 ls st t I L R Q := wp_go rfl
theorem i60_41  : WP V 60 41 ls st t I L R Q = WP V 60 42 ls (.int (-1) :: st) t I L R Q := wp_go rfl
theorem i60_42 {x : Int32} : WP V 60 42 ls [.int x] t I L R Q = Q (some (.int x)) t I L R := wp_rti rfl rfl
-- TransactionCells$Notes.writeAll(I)V
theorem i61_0  : WP V 61 0 ls st t I L R Q = WP V 61 1 ls (.int (nI 0) :: st) t I L R Q := wp_go rfl
theorem i61_1 {p : Int32} {w0 w2 : Value} {x : Int32} : WP V 61 1 [w0, .int p, w2] (.int x :: st) t I L R Q = WP V 61 2 [w0, .int p, .int x] st t I L R Q := wp_go rfl
theorem i61_2 {w0 w1 : Value} {x : Int32} : WP V 61 2 [w0, w1, .int x] st t I L R Q = WP V 61 3 [w0, w1, .int x] (.int x :: st) t I L R Q := wp_go rfl
theorem i61_3  : WP V 61 3 ls st t I L R Q = WP V 61 4 ls (.int (nI 8) :: st) t I L R Q := wp_go rfl
theorem i61_4 {x y : Int32} : WP V 61 4 ls (.int y :: .int x :: st) t I L R Q = if y ≤ x then WP V 61 40 ls st t I L R Q else WP V 61 5 ls st t I L R Q := wp_br (c := m_cc .ge x y) rfl rfl
theorem i61_5 {w1 w2 : Value} {x : Nat} : WP V 61 5 [.ref x, w1, w2] st t I L R Q = WP V 61 6 [.ref x, w1, w2] (.ref x :: st) t I L R Q := wp_go rfl
theorem i61_6 {k : Nat} (h1 : k < t) (h2 : m_ob k 4 = true) : WP V 61 6 ls (.ref k :: st) t I L R Q = WP V 61 7 ls (m_rv (R k 0) :: st) t I L R Q := wp_getR rfl (by decide) h1 h2
theorem i61_7 {w0 w2 : Value} {x : Int32} : WP V 61 7 [w0, .int x, w2] st t I L R Q = WP V 61 8 [w0, .int x, w2] (.int x :: st) t I L R Q := wp_go rfl
theorem i61_8 {w0 w1 : Value} {x : Int32} : WP V 61 8 [w0, w1, .int x] st t I L R Q = WP V 61 9 [w0, w1, .int x] (.int x :: st) t I L R Q := wp_go rfl
theorem i61_9 {x y : Int32} : WP V 61 9 ls (.int y :: .int x :: st) t I L R Q = WP V 61 10 ls (.int (x + y) :: st) t I L R Q := wp_go rfl
theorem i61_10 {k j : Nat} (h2 : m_ar k 2 2100 = true) (h1 : k < t) (h3 : j < 2100) : WP V 61 10 ls (.int (nI j) :: .ref k :: st) t I L R Q = WP V 61 11 ls (.int (I k j) :: st) t I L R Q := wp_iaload rfl (by decide) h1 h2 h3
theorem i61_11  : WP V 61 11 ls st t I L R Q = WP V 61 12 ls (.int (-1) :: st) t I L R Q := wp_go rfl
theorem i61_12 {x y : Int32} : WP V 61 12 ls (.int y :: .int x :: st) t I L R Q = if x = y then WP V 61 13 ls st t I L R Q else WP V 61 14 ls st t I L R Q := wp_brn (c := m_cc .ne x y) rfl rfl
theorem i61_13  : WP V 61 13 ls st t I L R Q = WP V 61 38 ls st t I L R Q := wp_go rfl
theorem i61_14 {w1 w2 : Value} {x : Nat} : WP V 61 14 [.ref x, w1, w2] st t I L R Q = WP V 61 15 [.ref x, w1, w2] (.ref x :: st) t I L R Q := wp_go rfl
theorem i61_15 {k : Nat} (h1 : k < t) (h2 : m_ob k 4 = true) : WP V 61 15 ls (.ref k :: st) t I L R Q = WP V 61 16 ls (m_rv (R k 1) :: st) t I L R Q := wp_getR rfl (by decide) h1 h2
theorem i61_16 {w0 w1 : Value} {x : Int32} : WP V 61 16 [w0, w1, .int x] st t I L R Q = WP V 61 17 [w0, w1, .int x] (.int x :: st) t I L R Q := wp_go rfl
theorem i61_17 {w1 w2 : Value} {x : Nat} : WP V 61 17 [.ref x, w1, w2] st t I L R Q = WP V 61 18 [.ref x, w1, w2] (.ref x :: st) t I L R Q := wp_go rfl
theorem i61_18 {k : Nat} (h1 : k < t) (h2 : m_ob k 4 = true) : WP V 61 18 ls (.ref k :: st) t I L R Q = WP V 61 19 ls (m_rv (R k 0) :: st) t I L R Q := wp_getR rfl (by decide) h1 h2
theorem i61_19 {w0 w2 : Value} {x : Int32} : WP V 61 19 [w0, .int x, w2] st t I L R Q = WP V 61 20 [w0, .int x, w2] (.int x :: st) t I L R Q := wp_go rfl
theorem i61_20 {w0 w1 : Value} {x : Int32} : WP V 61 20 [w0, w1, .int x] st t I L R Q = WP V 61 21 [w0, w1, .int x] (.int x :: st) t I L R Q := wp_go rfl
theorem i61_21 {x y : Int32} : WP V 61 21 ls (.int y :: .int x :: st) t I L R Q = WP V 61 22 ls (.int (x + y) :: st) t I L R Q := wp_go rfl
theorem i61_22 {k j : Nat} (h2 : m_ar k 2 2100 = true) (h1 : k < t) (h3 : j < 2100) : WP V 61 22 ls (.int (nI j) :: .ref k :: st) t I L R Q = WP V 61 23 ls (.int (I k j) :: st) t I L R Q := wp_iaload rfl (by decide) h1 h2 h3
theorem i61_23 {k j : Nat} {x : Int32} (h2 : m_ar k 2 16 = true) (h1 : k < t) (h3 : j < 16) : WP V 61 23 ls (.int x :: .int (nI j) :: .ref k :: st) t I L R Q = WP V 61 24 ls st t (m_sc I k (m_sc (I k) j x)) L R Q := wp_iastore rfl (by decide) h1 h2 h3
theorem i61_24 {w1 w2 : Value} {x : Nat} : WP V 61 24 [.ref x, w1, w2] st t I L R Q = WP V 61 25 [.ref x, w1, w2] (.ref x :: st) t I L R Q := wp_go rfl
theorem i61_25 {k : Nat} (h1 : k < t) (h2 : m_ob k 4 = true) : WP V 61 25 ls (.ref k :: st) t I L R Q = WP V 61 26 ls (m_rv (R k 1) :: st) t I L R Q := wp_getR rfl (by decide) h1 h2
theorem i61_26  : WP V 61 26 ls st t I L R Q = WP V 61 27 ls (.int (nI 8) :: st) t I L R Q := wp_go rfl
theorem i61_27 {w0 w1 : Value} {x : Int32} : WP V 61 27 [w0, w1, .int x] st t I L R Q = WP V 61 28 [w0, w1, .int x] (.int x :: st) t I L R Q := wp_go rfl
theorem i61_28 {x y : Int32} : WP V 61 28 ls (.int y :: .int x :: st) t I L R Q = WP V 61 29 ls (.int (x + y) :: st) t I L R Q := wp_go rfl
theorem i61_29 {w1 w2 : Value} {x : Nat} : WP V 61 29 [.ref x, w1, w2] st t I L R Q = WP V 61 30 [.ref x, w1, w2] (.ref x :: st) t I L R Q := wp_go rfl
theorem i61_30 {k : Nat} (h1 : k < t) (h2 : m_ob k 4 = true) : WP V 61 30 ls (.ref k :: st) t I L R Q = WP V 61 31 ls (m_rv (R k 0) :: st) t I L R Q := wp_getR rfl (by decide) h1 h2
theorem i61_31 {w0 w2 : Value} {x : Int32} : WP V 61 31 [w0, .int x, w2] st t I L R Q = WP V 61 32 [w0, .int x, w2] (.int x :: st) t I L R Q := wp_go rfl
theorem i61_32  : WP V 61 32 ls st t I L R Q = WP V 61 33 ls (.int (nI 8) :: st) t I L R Q := wp_go rfl
theorem i61_33 {x y : Int32} : WP V 61 33 ls (.int y :: .int x :: st) t I L R Q = WP V 61 34 ls (.int (x + y) :: st) t I L R Q := wp_go rfl
theorem i61_34 {w0 w1 : Value} {x : Int32} : WP V 61 34 [w0, w1, .int x] st t I L R Q = WP V 61 35 [w0, w1, .int x] (.int x :: st) t I L R Q := wp_go rfl
theorem i61_35 {x y : Int32} : WP V 61 35 ls (.int y :: .int x :: st) t I L R Q = WP V 61 36 ls (.int (x + y) :: st) t I L R Q := wp_go rfl
theorem i61_36 {k j : Nat} (h2 : m_ar k 2 2100 = true) (h1 : k < t) (h3 : j < 2100) : WP V 61 36 ls (.int (nI j) :: .ref k :: st) t I L R Q = WP V 61 37 ls (.int (I k j) :: st) t I L R Q := wp_iaload rfl (by decide) h1 h2 h3
theorem i61_37 {k j : Nat} {x : Int32} (h2 : m_ar k 2 16 = true) (h1 : k < t) (h3 : j < 16) : WP V 61 37 ls (.int x :: .int (nI j) :: .ref k :: st) t I L R Q = WP V 61 38 ls st t (m_sc I k (m_sc (I k) j x)) L R Q := wp_iastore rfl (by decide) h1 h2 h3
theorem i61_38 {p : Int32} {w0 : Value} {x : Int32} : WP V 61 38 [w0, .int p, .int x] st t I L R Q = WP V 61 39 [w0, .int p, .int (x + (nI 1))] st t I L R Q := wp_go rfl
theorem i61_39  : WP V 61 39 ls st t I L R Q = WP V 61 2 ls st t I L R Q := wp_go rfl
theorem i61_40  : WP V 61 40 ls [] t I L R Q = Q none t I L R := wp_rtv rfl rfl
-- TransactionCells$Notes.copyFrom(LTransactionCells$Notes;)V
theorem i62_0 {w0 : Value} {x : Nat} : WP V 62 0 [w0, .ref x] st t I L R Q = WP V 62 1 [w0, .ref x] (.ref x :: st) t I L R Q := wp_go rfl
theorem i62_1 {k : Nat} (h1 : k < t) (h2 : m_ob k 4 = true) : WP V 62 1 ls (.ref k :: st) t I L R Q = WP V 62 2 ls (m_rv (R k 0) :: st) t I L R Q := wp_getR rfl (by decide) h1 h2
theorem i62_2  : WP V 62 2 ls st t I L R Q = WP V 62 3 ls (.int (nI 0) :: st) t I L R Q := wp_go rfl
theorem i62_3 {w1 : Value} {x : Nat} : WP V 62 3 [.ref x, w1] st t I L R Q = WP V 62 4 [.ref x, w1] (.ref x :: st) t I L R Q := wp_go rfl
theorem i62_4 {k : Nat} (h1 : k < t) (h2 : m_ob k 4 = true) : WP V 62 4 ls (.ref k :: st) t I L R Q = WP V 62 5 ls (m_rv (R k 0) :: st) t I L R Q := wp_getR rfl (by decide) h1 h2
theorem i62_5  : WP V 62 5 ls st t I L R Q = WP V 62 6 ls (.int (nI 0) :: st) t I L R Q := wp_go rfl
theorem i62_6 {w1 : Value} {x : Nat} : WP V 62 6 [.ref x, w1] st t I L R Q = WP V 62 7 [.ref x, w1] (.ref x :: st) t I L R Q := wp_go rfl
theorem i62_7 {k : Nat} (h1 : k < t) (h2 : m_ob k 4 = true) : WP V 62 7 ls (.ref k :: st) t I L R Q = WP V 62 8 ls (m_rv (R k 0) :: st) t I L R Q := wp_getR rfl (by decide) h1 h2
theorem i62_8 {k ty N : Nat} (h2 : m_ar k ty N = true) (h1 : k < t) (h3 : 2 ≤ ty) : WP V 62 8 ls (.ref k :: st) t I L R Q = WP V 62 9 ls (.int (nI N) :: st) t I L R Q := wp_alen rfl h1 h2 h3
theorem i62_9 {s d sp dp cnt : Nat} (h3 : m_ar s 2 2100 = true) (h4 : m_ar d 2 2100 = true) (h1 : s < t) (h2 : d < t) (h5 : sp + cnt ≤ 2100) (h6 : dp + cnt ≤ 2100) : WP V 62 9 ls [.int (nI cnt), .int (nI dp), .ref d, .int (nI sp), .ref s] t I L R Q = WP V 62 10 ls [] t (m_sc I d (va_cpy (I s) (I d) sp dp cnt)) L R Q := wp_copyi rfl (by decide) (by decide) h1 h2 h3 h4 h5 h6 (by decide)
theorem i62_10 {w1 : Value} {x : Nat} : WP V 62 10 [.ref x, w1] st t I L R Q = WP V 62 11 [.ref x, w1] (.ref x :: st) t I L R Q := wp_go rfl
theorem i62_11 {w0 : Value} {x : Nat} : WP V 62 11 [w0, .ref x] st t I L R Q = WP V 62 12 [w0, .ref x] (.ref x :: st) t I L R Q := wp_go rfl
theorem i62_12 {k : Nat} (h1 : k < t) (h2 : m_ob k 4 = true) : WP V 62 12 ls (.ref k :: st) t I L R Q = WP V 62 13 ls (.int (I k 2) :: st) t I L R Q := wp_getI rfl (by decide) h1 h2
theorem i62_13 {k : Nat} {x : Int32} (h1 : k < t) (h2 : m_ob k 4 = true) : WP V 62 13 ls (.int x :: .ref k :: st) t I L R Q = WP V 62 14 ls st t (m_sc I k (m_sc (I k) 2 x)) L R Q := wp_putI rfl (by decide) h1 h2
theorem i62_14  : WP V 62 14 ls [] t I L R Q = Q none t I L R := wp_rtv rfl rfl
-- TransactionCells$Rows.<init>()V
theorem i63_0 {x : Nat} : WP V 63 0 [.ref x] st t I L R Q = WP V 63 1 [.ref x] (.ref x :: st) t I L R Q := wp_go rfl
theorem i63_1 {k : Nat}  : WP V 63 1 ls [.ref k] t I L R Q = WP V 63 2 ls [] t I L R Q := wp_objI rfl (Nat.le_of_ble_eq_true rfl)
theorem i63_2 {x : Nat} : WP V 63 2 [.ref x] st t I L R Q = WP V 63 3 [.ref x] (.ref x :: st) t I L R Q := wp_go rfl
theorem i63_3  : WP V 63 3 ls st t I L R Q = WP V 63 4 ls (.int (nI 6) :: st) t I L R Q := wp_go rfl
theorem i63_4 {N : Nat} (h : m_ar t 2 N = true) : WP V 63 4 ls (.int (nI N) :: st) t I L R Q = WP V 63 5 ls (.ref t :: st) (t + 1) (m_sc I t (fun _ => 0)) (m_sc L t (fun _ => 0)) R Q := wp_newi rfl h
theorem i63_5 {k x : Nat} (h1 : k < t) (h2 : m_ob k 5 = true) : WP V 63 5 ls (.ref x :: .ref k :: st) t I L R Q = WP V 63 6 ls st t I L (m_sc R k (m_sc (R k) 0 (some x))) Q := wp_putR rfl (by decide) h1 h2
theorem i63_5n {k : Nat} (h1 : k < t) (h2 : m_ob k 5 = true) : WP V 63 5 ls (.null :: .ref k :: st) t I L R Q = WP V 63 6 ls st t I L (m_sc R k (m_sc (R k) 0 none)) Q := wp_putN rfl (by decide) h1 h2
theorem i63_6 {x : Nat} : WP V 63 6 [.ref x] st t I L R Q = WP V 63 7 [.ref x] (.ref x :: st) t I L R Q := wp_go rfl
theorem i63_7  : WP V 63 7 ls st t I L R Q = WP V 63 8 ls (.int (nI 6) :: st) t I L R Q := wp_go rfl
theorem i63_8 {N : Nat} (h : m_ar t 2 N = true) : WP V 63 8 ls (.int (nI N) :: st) t I L R Q = WP V 63 9 ls (.ref t :: st) (t + 1) (m_sc I t (fun _ => 0)) (m_sc L t (fun _ => 0)) R Q := wp_newi rfl h
theorem i63_9 {k x : Nat} (h1 : k < t) (h2 : m_ob k 5 = true) : WP V 63 9 ls (.ref x :: .ref k :: st) t I L R Q = WP V 63 10 ls st t I L (m_sc R k (m_sc (R k) 1 (some x))) Q := wp_putR rfl (by decide) h1 h2
theorem i63_9n {k : Nat} (h1 : k < t) (h2 : m_ob k 5 = true) : WP V 63 9 ls (.null :: .ref k :: st) t I L R Q = WP V 63 10 ls st t I L (m_sc R k (m_sc (R k) 1 none)) Q := wp_putN rfl (by decide) h1 h2
theorem i63_10 {x : Nat} : WP V 63 10 [.ref x] st t I L R Q = WP V 63 11 [.ref x] (.ref x :: st) t I L R Q := wp_go rfl
theorem i63_11  : WP V 63 11 ls st t I L R Q = WP V 63 12 ls (.int (nI 96) :: st) t I L R Q := wp_go rfl
theorem i63_12 {N : Nat} (h : m_ar t 4 N = true) : WP V 63 12 ls (.int (nI N) :: st) t I L R Q = WP V 63 13 ls (.ref t :: st) (t + 1) (m_sc I t (fun _ => 0)) (m_sc L t (fun _ => 0)) R Q := wp_newl rfl h
theorem i63_13 {k x : Nat} (h1 : k < t) (h2 : m_ob k 5 = true) : WP V 63 13 ls (.ref x :: .ref k :: st) t I L R Q = WP V 63 14 ls st t I L (m_sc R k (m_sc (R k) 2 (some x))) Q := wp_putR rfl (by decide) h1 h2
theorem i63_13n {k : Nat} (h1 : k < t) (h2 : m_ob k 5 = true) : WP V 63 13 ls (.null :: .ref k :: st) t I L R Q = WP V 63 14 ls st t I L (m_sc R k (m_sc (R k) 2 none)) Q := wp_putN rfl (by decide) h1 h2
theorem i63_14 {x : Nat} : WP V 63 14 [.ref x] st t I L R Q = WP V 63 15 [.ref x] (.ref x :: st) t I L R Q := wp_go rfl
theorem i63_15 {k : Nat} (h1 : k < t) (h2 : m_ob k 5 = true) : WP V 63 15 ls (.ref k :: st) t I L R Q = WP V 63 16 ls (m_rv (R k 0) :: st) t I L R Q := wp_getR rfl (by decide) h1 h2
theorem i63_16  : WP V 63 16 ls st t I L R Q = WP V 63 17 ls (.int (-1) :: st) t I L R Q := wp_go rfl
theorem i63_17 {x0 : Int32} {x1 : Nat}  : WP V 63 17 ls [.int x0, .ref x1] t I L R Q = WPC V 196 [.ref x1, .int x0] 63 18 ls [] t I L R Q := wp_cls (wp_ics rfl (by decide)) (by decide) (Nat.le_of_ble_eq_true rfl) rfl rfl (Nat.le_of_ble_eq_true rfl) (Nat.le_of_ble_eq_true rfl)
theorem i63_18  : WP V 63 18 ls [] t I L R Q = Q none t I L R := wp_rtv rfl rfl
-- TransactionCells$Rows.isMissing(I)Z
theorem i64_0 {w1 : Value} {x : Nat} : WP V 64 0 [.ref x, w1] st t I L R Q = WP V 64 1 [.ref x, w1] (.ref x :: st) t I L R Q := wp_go rfl
theorem i64_1 {k : Nat} (h1 : k < t) (h2 : m_ob k 5 = true) : WP V 64 1 ls (.ref k :: st) t I L R Q = WP V 64 2 ls (m_rv (R k 0) :: st) t I L R Q := wp_getR rfl (by decide) h1 h2
theorem i64_2 {w0 : Value} {x : Int32} : WP V 64 2 [w0, .int x] st t I L R Q = WP V 64 3 [w0, .int x] (.int x :: st) t I L R Q := wp_go rfl
theorem i64_3 {k j : Nat} (h2 : m_ar k 2 6 = true) (h1 : k < t) (h3 : j < 6) : WP V 64 3 ls (.int (nI j) :: .ref k :: st) t I L R Q = WP V 64 4 ls (.int (I k j) :: st) t I L R Q := wp_iaload rfl (by decide) h1 h2 h3
theorem i64_4  : WP V 64 4 ls st t I L R Q = WP V 64 5 ls (.int (-1) :: st) t I L R Q := wp_go rfl
theorem i64_5 {x y : Int32} : WP V 64 5 ls (.int y :: .int x :: st) t I L R Q = if x = y then WP V 64 6 ls st t I L R Q else WP V 64 8 ls st t I L R Q := wp_brn (c := m_cc .ne x y) rfl rfl
theorem i64_6  : WP V 64 6 ls st t I L R Q = WP V 64 7 ls (.int (nI 1) :: st) t I L R Q := wp_go rfl
theorem i64_7  : WP V 64 7 ls st t I L R Q = WP V 64 9 ls st t I L R Q := wp_go rfl
theorem i64_8  : WP V 64 8 ls st t I L R Q = WP V 64 9 ls (.int (nI 0) :: st) t I L R Q := wp_go rfl
theorem i64_9 {x : Int32} (h : m_01 x = true) : WP V 64 9 ls [.int x] t I L R Q = Q (some (.int x)) t I L R := wp_rtz rfl rfl h
-- TransactionCells$Rows.lay(III)V
theorem i65_0 {w1 w2 w3 : Value} {x : Nat} : WP V 65 0 [.ref x, w1, w2, w3] st t I L R Q = WP V 65 1 [.ref x, w1, w2, w3] (.ref x :: st) t I L R Q := wp_go rfl
theorem i65_1 {k : Nat} (h1 : k < t) (h2 : m_ob k 5 = true) : WP V 65 1 ls (.ref k :: st) t I L R Q = WP V 65 2 ls (m_rv (R k 0) :: st) t I L R Q := wp_getR rfl (by decide) h1 h2
theorem i65_2 {w0 w2 w3 : Value} {x : Int32} : WP V 65 2 [w0, .int x, w2, w3] st t I L R Q = WP V 65 3 [w0, .int x, w2, w3] (.int x :: st) t I L R Q := wp_go rfl
theorem i65_3 {w0 w1 w3 : Value} {x : Int32} : WP V 65 3 [w0, w1, .int x, w3] st t I L R Q = WP V 65 4 [w0, w1, .int x, w3] (.int x :: st) t I L R Q := wp_go rfl
theorem i65_4 {k j : Nat} {x : Int32} (h2 : m_ar k 2 6 = true) (h1 : k < t) (h3 : j < 6) : WP V 65 4 ls (.int x :: .int (nI j) :: .ref k :: st) t I L R Q = WP V 65 5 ls st t (m_sc I k (m_sc (I k) j x)) L R Q := wp_iastore rfl (by decide) h1 h2 h3
theorem i65_5 {w1 w2 w3 : Value} {x : Nat} : WP V 65 5 [.ref x, w1, w2, w3] st t I L R Q = WP V 65 6 [.ref x, w1, w2, w3] (.ref x :: st) t I L R Q := wp_go rfl
theorem i65_6 {k : Nat} (h1 : k < t) (h2 : m_ob k 5 = true) : WP V 65 6 ls (.ref k :: st) t I L R Q = WP V 65 7 ls (m_rv (R k 1) :: st) t I L R Q := wp_getR rfl (by decide) h1 h2
theorem i65_7 {w0 w2 w3 : Value} {x : Int32} : WP V 65 7 [w0, .int x, w2, w3] st t I L R Q = WP V 65 8 [w0, .int x, w2, w3] (.int x :: st) t I L R Q := wp_go rfl
theorem i65_8 {w0 w1 w2 : Value} {x : Int32} : WP V 65 8 [w0, w1, w2, .int x] st t I L R Q = WP V 65 9 [w0, w1, w2, .int x] (.int x :: st) t I L R Q := wp_go rfl
theorem i65_9 {k j : Nat} {x : Int32} (h2 : m_ar k 2 6 = true) (h1 : k < t) (h3 : j < 6) : WP V 65 9 ls (.int x :: .int (nI j) :: .ref k :: st) t I L R Q = WP V 65 10 ls st t (m_sc I k (m_sc (I k) j x)) L R Q := wp_iastore rfl (by decide) h1 h2 h3
theorem i65_10 {w1 w2 w3 : Value} {x : Nat} : WP V 65 10 [.ref x, w1, w2, w3] st t I L R Q = WP V 65 11 [.ref x, w1, w2, w3] (.ref x :: st) t I L R Q := wp_go rfl
theorem i65_11 {k : Nat} (h1 : k < t) (h2 : m_ob k 5 = true) : WP V 65 11 ls (.ref k :: st) t I L R Q = WP V 65 12 ls (m_rv (R k 2) :: st) t I L R Q := wp_getR rfl (by decide) h1 h2
theorem i65_12 {w0 w2 w3 : Value} {x : Int32} : WP V 65 12 [w0, .int x, w2, w3] st t I L R Q = WP V 65 13 [w0, .int x, w2, w3] (.int x :: st) t I L R Q := wp_go rfl
theorem i65_13  : WP V 65 13 ls st t I L R Q = WP V 65 14 ls (.int (nI 16) :: st) t I L R Q := wp_go rfl
theorem i65_14 {x y : Int32} : WP V 65 14 ls (.int y :: .int x :: st) t I L R Q = WP V 65 15 ls (.int (x * y) :: st) t I L R Q := wp_go rfl
theorem i65_15 {w0 w2 w3 : Value} {x : Int32} : WP V 65 15 [w0, .int x, w2, w3] st t I L R Q = WP V 65 16 [w0, .int x, w2, w3] (.int x :: st) t I L R Q := wp_go rfl
theorem i65_16  : WP V 65 16 ls st t I L R Q = WP V 65 17 ls (.int (nI 1) :: st) t I L R Q := wp_go rfl
theorem i65_17 {x y : Int32} : WP V 65 17 ls (.int y :: .int x :: st) t I L R Q = WP V 65 18 ls (.int (x + y) :: st) t I L R Q := wp_go rfl
theorem i65_18  : WP V 65 18 ls st t I L R Q = WP V 65 19 ls (.int (nI 16) :: st) t I L R Q := wp_go rfl
theorem i65_19 {x y : Int32} : WP V 65 19 ls (.int y :: .int x :: st) t I L R Q = WP V 65 20 ls (.int (x * y) :: st) t I L R Q := wp_go rfl
theorem i65_20  : WP V 65 20 ls st t I L R Q = WP V 65 21 ls (.long (lN 0) :: st) t I L R Q := wp_go rfl
theorem i65_21 {x0 : Int64} {x1 : Int32} {x2 : Int32} {x3 : Nat}  : WP V 65 21 ls [.long x0, .int x1, .int x2, .ref x3] t I L R Q = WPC V 195 [.ref x3, .int x2, .int x1, .long x0] 65 22 ls [] t I L R Q := wp_cls (wp_ics rfl (by decide)) (by decide) (Nat.le_of_ble_eq_true rfl) rfl rfl (Nat.le_of_ble_eq_true rfl) (Nat.le_of_ble_eq_true rfl)
theorem i65_22  : WP V 65 22 ls [] t I L R Q = Q none t I L R := wp_rtv rfl rfl
-- TransactionCells$Rows.put(IIJ)V
theorem i66_0 {w1 w2 w3 w4 : Value} {x : Nat} : WP V 66 0 [.ref x, w1, w2, w3, w4] st t I L R Q = WP V 66 1 [.ref x, w1, w2, w3, w4] (.ref x :: st) t I L R Q := wp_go rfl
theorem i66_1 {k : Nat} (h1 : k < t) (h2 : m_ob k 5 = true) : WP V 66 1 ls (.ref k :: st) t I L R Q = WP V 66 2 ls (m_rv (R k 2) :: st) t I L R Q := wp_getR rfl (by decide) h1 h2
theorem i66_2 {w0 w2 w3 w4 : Value} {x : Int32} : WP V 66 2 [w0, .int x, w2, w3, w4] st t I L R Q = WP V 66 3 [w0, .int x, w2, w3, w4] (.int x :: st) t I L R Q := wp_go rfl
theorem i66_3  : WP V 66 3 ls st t I L R Q = WP V 66 4 ls (.int (nI 16) :: st) t I L R Q := wp_go rfl
theorem i66_4 {x y : Int32} : WP V 66 4 ls (.int y :: .int x :: st) t I L R Q = WP V 66 5 ls (.int (x * y) :: st) t I L R Q := wp_go rfl
theorem i66_5 {w0 w1 w3 w4 : Value} {x : Int32} : WP V 66 5 [w0, w1, .int x, w3, w4] st t I L R Q = WP V 66 6 [w0, w1, .int x, w3, w4] (.int x :: st) t I L R Q := wp_go rfl
theorem i66_6 {x y : Int32} : WP V 66 6 ls (.int y :: .int x :: st) t I L R Q = WP V 66 7 ls (.int (x + y) :: st) t I L R Q := wp_go rfl
theorem i66_7 {w1 w2 w3 w4 : Value} {x : Nat} : WP V 66 7 [.ref x, w1, w2, w3, w4] st t I L R Q = WP V 66 8 [.ref x, w1, w2, w3, w4] (.ref x :: st) t I L R Q := wp_go rfl
theorem i66_8 {k : Nat} (h1 : k < t) (h2 : m_ob k 5 = true) : WP V 66 8 ls (.ref k :: st) t I L R Q = WP V 66 9 ls (m_rv (R k 0) :: st) t I L R Q := wp_getR rfl (by decide) h1 h2
theorem i66_9 {w0 w2 w3 w4 : Value} {x : Int32} : WP V 66 9 [w0, .int x, w2, w3, w4] st t I L R Q = WP V 66 10 [w0, .int x, w2, w3, w4] (.int x :: st) t I L R Q := wp_go rfl
theorem i66_10 {k j : Nat} (h2 : m_ar k 2 6 = true) (h1 : k < t) (h3 : j < 6) : WP V 66 10 ls (.int (nI j) :: .ref k :: st) t I L R Q = WP V 66 11 ls (.int (I k j) :: st) t I L R Q := wp_iaload rfl (by decide) h1 h2 h3
theorem i66_11 {w0 w1 w2 w4 : Value} {x : Int64} : WP V 66 11 [w0, w1, w2, .long x, w4] st t I L R Q = WP V 66 12 [w0, w1, w2, .long x, w4] (.long x :: st) t I L R Q := wp_go rfl
theorem i66_12 {x0 : Int64} {x1 : Int32} {r0 : Int32} {r1 : Nat} : WP V 66 12 ls [.long x0, .int x1, .int r0, .ref r1] t I L R Q = WPC V 67 [.int x1, .long x0] 66 13 ls [.int r0, .ref r1] t I L R Q := wp_cls (wp_ics rfl (by decide)) (by decide) (Nat.le_of_ble_eq_true rfl) rfl rfl (Nat.le_of_ble_eq_true rfl) (Nat.le_of_ble_eq_true rfl)
theorem i66_13 {k j : Nat} {x : Int64} (h2 : m_ar k 4 96 = true) (h1 : k < t) (h3 : j < 96) : WP V 66 13 ls (.long x :: .int (nI j) :: .ref k :: st) t I L R Q = WP V 66 14 ls st t I (m_sc L k (m_sc (L k) j x)) R Q := wp_lastore rfl (by decide) h1 h2 h3
theorem i66_14  : WP V 66 14 ls [] t I L R Q = Q none t I L R := wp_rtv rfl rfl
-- TransactionCells$Rows.cast(IJ)J
theorem i67_0 {w1 w2 : Value} {x : Int32} : WP V 67 0 [.int x, w1, w2] st t I L R Q = WP V 67 1 [.int x, w1, w2] (.int x :: st) t I L R Q := wp_go rfl
theorem i67_1s0  : WP V 67 1 ls (.int (nI 0) :: st) t I L R Q = WP V 67 2 ls st t I L R Q := wp_sw rfl (by decide) (by decide) (by decide) rfl
theorem i67_1s1  : WP V 67 1 ls (.int (nI 1) :: st) t I L R Q = WP V 67 6 ls st t I L R Q := wp_sw rfl (by decide) (by decide) (by decide) rfl
theorem i67_1s2  : WP V 67 1 ls (.int (nI 2) :: st) t I L R Q = WP V 67 11 ls st t I L R Q := wp_sw rfl (by decide) (by decide) (by decide) rfl
theorem i67_1s3  : WP V 67 1 ls (.int (nI 3) :: st) t I L R Q = WP V 67 16 ls st t I L R Q := wp_sw rfl (by decide) (by decide) (by decide) rfl
theorem i67_1sd {x : Int32} (h : x.toInt < 0 ∨ 3 < x.toInt) : WP V 67 1 ls (.int x :: st) t I L R Q = WP V 67 20 ls st t I L R Q := wp_swd rfl h
theorem i67_2 {w0 w2 : Value} {x : Int64} : WP V 67 2 [w0, .long x, w2] st t I L R Q = WP V 67 3 [w0, .long x, w2] (.long x :: st) t I L R Q := wp_go rfl
theorem i67_3  : WP V 67 3 ls st t I L R Q = WP V 67 4 ls (.long (lN 1) :: st) t I L R Q := wp_go rfl
theorem i67_4 {x y : Int64} : WP V 67 4 ls (.long y :: .long x :: st) t I L R Q = WP V 67 5 ls (.long (x &&& y) :: st) t I L R Q := wp_go rfl
theorem i67_5 {x : Int64} : WP V 67 5 ls [.long x] t I L R Q = Q (some (.long x)) t I L R := wp_rtl rfl rfl
theorem i67_6 {w0 w2 : Value} {x : Int64} : WP V 67 6 [w0, .long x, w2] st t I L R Q = WP V 67 7 [w0, .long x, w2] (.long x :: st) t I L R Q := wp_go rfl
theorem i67_7 {x : Int64} : WP V 67 7 ls (.long x :: st) t I L R Q = WP V 67 8 ls (.int x.toInt32 :: st) t I L R Q := wp_go rfl
theorem i67_8 {x : Int32} : WP V 67 8 ls (.int x :: st) t I L R Q = WP V 67 9 ls (.int x.toInt8.toInt32 :: st) t I L R Q := wp_go rfl
theorem i67_9 {x : Int32} : WP V 67 9 ls (.int x :: st) t I L R Q = WP V 67 10 ls (.long x.toInt64 :: st) t I L R Q := wp_go rfl
theorem i67_10 {x : Int64} : WP V 67 10 ls [.long x] t I L R Q = Q (some (.long x)) t I L R := wp_rtl rfl rfl
theorem i67_11 {w0 w2 : Value} {x : Int64} : WP V 67 11 [w0, .long x, w2] st t I L R Q = WP V 67 12 [w0, .long x, w2] (.long x :: st) t I L R Q := wp_go rfl
theorem i67_12 {x : Int64} : WP V 67 12 ls (.long x :: st) t I L R Q = WP V 67 13 ls (.int x.toInt32 :: st) t I L R Q := wp_go rfl
theorem i67_13 {x : Int32} : WP V 67 13 ls (.int x :: st) t I L R Q = WP V 67 14 ls (.int x.toInt16.toInt32 :: st) t I L R Q := wp_go rfl
theorem i67_14 {x : Int32} : WP V 67 14 ls (.int x :: st) t I L R Q = WP V 67 15 ls (.long x.toInt64 :: st) t I L R Q := wp_go rfl
theorem i67_15 {x : Int64} : WP V 67 15 ls [.long x] t I L R Q = Q (some (.long x)) t I L R := wp_rtl rfl rfl
theorem i67_16 {w0 w2 : Value} {x : Int64} : WP V 67 16 [w0, .long x, w2] st t I L R Q = WP V 67 17 [w0, .long x, w2] (.long x :: st) t I L R Q := wp_go rfl
theorem i67_17 {x : Int64} : WP V 67 17 ls (.long x :: st) t I L R Q = WP V 67 18 ls (.int x.toInt32 :: st) t I L R Q := wp_go rfl
theorem i67_18 {x : Int32} : WP V 67 18 ls (.int x :: st) t I L R Q = WP V 67 19 ls (.long x.toInt64 :: st) t I L R Q := wp_go rfl
theorem i67_19 {x : Int64} : WP V 67 19 ls [.long x] t I L R Q = Q (some (.long x)) t I L R := wp_rtl rfl rfl
theorem i67_20 {w0 w2 : Value} {x : Int64} : WP V 67 20 [w0, .long x, w2] st t I L R Q = WP V 67 21 [w0, .long x, w2] (.long x :: st) t I L R Q := wp_go rfl
theorem i67_21 {x : Int64} : WP V 67 21 ls [.long x] t I L R Q = Q (some (.long x)) t I L R := wp_rtl rfl rfl
-- TransactionCells$Rows.copyFrom(LTransactionCells$Rows;)V
theorem i68_0 {w0 : Value} {x : Nat} : WP V 68 0 [w0, .ref x] st t I L R Q = WP V 68 1 [w0, .ref x] (.ref x :: st) t I L R Q := wp_go rfl
theorem i68_1 {k : Nat} (h1 : k < t) (h2 : m_ob k 5 = true) : WP V 68 1 ls (.ref k :: st) t I L R Q = WP V 68 2 ls (m_rv (R k 0) :: st) t I L R Q := wp_getR rfl (by decide) h1 h2
theorem i68_2  : WP V 68 2 ls st t I L R Q = WP V 68 3 ls (.int (nI 0) :: st) t I L R Q := wp_go rfl
theorem i68_3 {w1 : Value} {x : Nat} : WP V 68 3 [.ref x, w1] st t I L R Q = WP V 68 4 [.ref x, w1] (.ref x :: st) t I L R Q := wp_go rfl
theorem i68_4 {k : Nat} (h1 : k < t) (h2 : m_ob k 5 = true) : WP V 68 4 ls (.ref k :: st) t I L R Q = WP V 68 5 ls (m_rv (R k 0) :: st) t I L R Q := wp_getR rfl (by decide) h1 h2
theorem i68_5  : WP V 68 5 ls st t I L R Q = WP V 68 6 ls (.int (nI 0) :: st) t I L R Q := wp_go rfl
theorem i68_6  : WP V 68 6 ls st t I L R Q = WP V 68 7 ls (.int (nI 6) :: st) t I L R Q := wp_go rfl
theorem i68_7 {s d sp dp cnt : Nat} (h3 : m_ar s 2 6 = true) (h4 : m_ar d 2 6 = true) (h1 : s < t) (h2 : d < t) (h5 : sp + cnt ≤ 6) (h6 : dp + cnt ≤ 6) : WP V 68 7 ls [.int (nI cnt), .int (nI dp), .ref d, .int (nI sp), .ref s] t I L R Q = WP V 68 8 ls [] t (m_sc I d (va_cpy (I s) (I d) sp dp cnt)) L R Q := wp_copyi rfl (by decide) (by decide) h1 h2 h3 h4 h5 h6 (by decide)
theorem i68_8 {w0 : Value} {x : Nat} : WP V 68 8 [w0, .ref x] st t I L R Q = WP V 68 9 [w0, .ref x] (.ref x :: st) t I L R Q := wp_go rfl
theorem i68_9 {k : Nat} (h1 : k < t) (h2 : m_ob k 5 = true) : WP V 68 9 ls (.ref k :: st) t I L R Q = WP V 68 10 ls (m_rv (R k 1) :: st) t I L R Q := wp_getR rfl (by decide) h1 h2
theorem i68_10  : WP V 68 10 ls st t I L R Q = WP V 68 11 ls (.int (nI 0) :: st) t I L R Q := wp_go rfl
theorem i68_11 {w1 : Value} {x : Nat} : WP V 68 11 [.ref x, w1] st t I L R Q = WP V 68 12 [.ref x, w1] (.ref x :: st) t I L R Q := wp_go rfl
theorem i68_12 {k : Nat} (h1 : k < t) (h2 : m_ob k 5 = true) : WP V 68 12 ls (.ref k :: st) t I L R Q = WP V 68 13 ls (m_rv (R k 1) :: st) t I L R Q := wp_getR rfl (by decide) h1 h2
theorem i68_13  : WP V 68 13 ls st t I L R Q = WP V 68 14 ls (.int (nI 0) :: st) t I L R Q := wp_go rfl
theorem i68_14  : WP V 68 14 ls st t I L R Q = WP V 68 15 ls (.int (nI 6) :: st) t I L R Q := wp_go rfl
theorem i68_15 {s d sp dp cnt : Nat} (h3 : m_ar s 2 6 = true) (h4 : m_ar d 2 6 = true) (h1 : s < t) (h2 : d < t) (h5 : sp + cnt ≤ 6) (h6 : dp + cnt ≤ 6) : WP V 68 15 ls [.int (nI cnt), .int (nI dp), .ref d, .int (nI sp), .ref s] t I L R Q = WP V 68 16 ls [] t (m_sc I d (va_cpy (I s) (I d) sp dp cnt)) L R Q := wp_copyi rfl (by decide) (by decide) h1 h2 h3 h4 h5 h6 (by decide)
theorem i68_16 {w0 : Value} {x : Nat} : WP V 68 16 [w0, .ref x] st t I L R Q = WP V 68 17 [w0, .ref x] (.ref x :: st) t I L R Q := wp_go rfl
theorem i68_17 {k : Nat} (h1 : k < t) (h2 : m_ob k 5 = true) : WP V 68 17 ls (.ref k :: st) t I L R Q = WP V 68 18 ls (m_rv (R k 2) :: st) t I L R Q := wp_getR rfl (by decide) h1 h2
theorem i68_18  : WP V 68 18 ls st t I L R Q = WP V 68 19 ls (.int (nI 0) :: st) t I L R Q := wp_go rfl
theorem i68_19 {w1 : Value} {x : Nat} : WP V 68 19 [.ref x, w1] st t I L R Q = WP V 68 20 [.ref x, w1] (.ref x :: st) t I L R Q := wp_go rfl
theorem i68_20 {k : Nat} (h1 : k < t) (h2 : m_ob k 5 = true) : WP V 68 20 ls (.ref k :: st) t I L R Q = WP V 68 21 ls (m_rv (R k 2) :: st) t I L R Q := wp_getR rfl (by decide) h1 h2
theorem i68_21  : WP V 68 21 ls st t I L R Q = WP V 68 22 ls (.int (nI 0) :: st) t I L R Q := wp_go rfl
theorem i68_22 {w1 : Value} {x : Nat} : WP V 68 22 [.ref x, w1] st t I L R Q = WP V 68 23 [.ref x, w1] (.ref x :: st) t I L R Q := wp_go rfl
theorem i68_23 {k : Nat} (h1 : k < t) (h2 : m_ob k 5 = true) : WP V 68 23 ls (.ref k :: st) t I L R Q = WP V 68 24 ls (m_rv (R k 2) :: st) t I L R Q := wp_getR rfl (by decide) h1 h2
theorem i68_24 {k ty N : Nat} (h2 : m_ar k ty N = true) (h1 : k < t) (h3 : 2 ≤ ty) : WP V 68 24 ls (.ref k :: st) t I L R Q = WP V 68 25 ls (.int (nI N) :: st) t I L R Q := wp_alen rfl h1 h2 h3
theorem i68_25 {s d sp dp cnt : Nat} (h3 : m_ar s 4 96 = true) (h4 : m_ar d 4 96 = true) (h1 : s < t) (h2 : d < t) (h5 : sp + cnt ≤ 96) (h6 : dp + cnt ≤ 96) : WP V 68 25 ls [.int (nI cnt), .int (nI dp), .ref d, .int (nI sp), .ref s] t I L R Q = WP V 68 26 ls [] t I (m_sc L d (va_cpy (L s) (L d) sp dp cnt)) R Q := wp_copyl rfl (by decide) (by decide) h1 h2 h3 h4 h5 h6 (by decide)
theorem i68_26  : WP V 68 26 ls [] t I L R Q = Q none t I L R := wp_rtv rfl rfl
-- TransactionCells$Steps.<init>(LTransactionCells$House;)V
theorem i69_0 {w1 : Value} {x : Nat} : WP V 69 0 [.ref x, w1] st t I L R Q = WP V 69 1 [.ref x, w1] (.ref x :: st) t I L R Q := wp_go rfl
theorem i69_1 {k : Nat}  : WP V 69 1 ls [.ref k] t I L R Q = WP V 69 2 ls [] t I L R Q := wp_objI rfl (Nat.le_of_ble_eq_true rfl)
theorem i69_2 {w1 : Value} {x : Nat} : WP V 69 2 [.ref x, w1] st t I L R Q = WP V 69 3 [.ref x, w1] (.ref x :: st) t I L R Q := wp_go rfl
theorem i69_3 {w0 : Value} {x : Nat} : WP V 69 3 [w0, .ref x] st t I L R Q = WP V 69 4 [w0, .ref x] (.ref x :: st) t I L R Q := wp_go rfl
theorem i69_4 {k x : Nat} (h1 : k < t) (h2 : m_ob k 6 = true) : WP V 69 4 ls (.ref x :: .ref k :: st) t I L R Q = WP V 69 5 ls st t I L (m_sc R k (m_sc (R k) 0 (some x))) Q := wp_putR rfl (by decide) h1 h2
theorem i69_4n {k : Nat} (h1 : k < t) (h2 : m_ob k 6 = true) : WP V 69 4 ls (.null :: .ref k :: st) t I L R Q = WP V 69 5 ls st t I L (m_sc R k (m_sc (R k) 0 none)) Q := wp_putN rfl (by decide) h1 h2
theorem i69_5 {w1 : Value} {x : Nat} : WP V 69 5 [.ref x, w1] st t I L R Q = WP V 69 6 [.ref x, w1] (.ref x :: st) t I L R Q := wp_go rfl
theorem i69_6 {w0 : Value} {x : Nat} : WP V 69 6 [w0, .ref x] st t I L R Q = WP V 69 7 [w0, .ref x] (.ref x :: st) t I L R Q := wp_go rfl
theorem i69_7 {k : Nat} (h1 : k < t) (h2 : m_ob k 3 = true) : WP V 69 7 ls (.ref k :: st) t I L R Q = WP V 69 8 ls (m_rv (R k 0) :: st) t I L R Q := wp_getR rfl (by decide) h1 h2
theorem i69_8 {k x : Nat} (h1 : k < t) (h2 : m_ob k 6 = true) : WP V 69 8 ls (.ref x :: .ref k :: st) t I L R Q = WP V 69 9 ls st t I L (m_sc R k (m_sc (R k) 1 (some x))) Q := wp_putR rfl (by decide) h1 h2
theorem i69_8n {k : Nat} (h1 : k < t) (h2 : m_ob k 6 = true) : WP V 69 8 ls (.null :: .ref k :: st) t I L R Q = WP V 69 9 ls st t I L (m_sc R k (m_sc (R k) 1 none)) Q := wp_putN rfl (by decide) h1 h2
theorem i69_9 {w1 : Value} {x : Nat} : WP V 69 9 [.ref x, w1] st t I L R Q = WP V 69 10 [.ref x, w1] (.ref x :: st) t I L R Q := wp_go rfl
theorem i69_10 (h : m_ob t 1 = true) : WP V 69 10 ls st t I L R Q = WP V 69 11 ls (.ref t :: st) (t + 1) (m_sc I t (fun _ => 0)) L (m_sc R t (fun _ => none)) Q := wp_new rfl h
theorem i69_11 {v0 : Nat} : WP V 69 11 ls (.ref v0 :: st) t I L R Q = WP V 69 12 ls (.ref v0 :: .ref v0 :: st) t I L R Q := wp_go rfl
theorem i69_12 {w0 : Value} {x : Nat} : WP V 69 12 [w0, .ref x] st t I L R Q = WP V 69 13 [w0, .ref x] (.ref x :: st) t I L R Q := wp_go rfl
theorem i69_13 {x0 : Nat} {x1 : Nat} {r0 : Nat} {r1 : Nat} (h1 : x1 < t) : WP V 69 13 ls [.ref x0, .ref x1, .ref r0, .ref r1] t I L R Q = WPC V 7 [.ref x1, .ref x0] 69 14 ls [.ref r0, .ref r1] t I L R Q := wp_cls (wp_icp rfl (by decide) rfl h1) (by decide) (Nat.le_of_ble_eq_true rfl) rfl rfl (Nat.le_of_ble_eq_true rfl) (Nat.le_of_ble_eq_true rfl)
theorem i69_14 {k x : Nat} (h1 : k < t) (h2 : m_ob k 6 = true) : WP V 69 14 ls (.ref x :: .ref k :: st) t I L R Q = WP V 69 15 ls st t I L (m_sc R k (m_sc (R k) 2 (some x))) Q := wp_putR rfl (by decide) h1 h2
theorem i69_14n {k : Nat} (h1 : k < t) (h2 : m_ob k 6 = true) : WP V 69 14 ls (.null :: .ref k :: st) t I L R Q = WP V 69 15 ls st t I L (m_sc R k (m_sc (R k) 2 none)) Q := wp_putN rfl (by decide) h1 h2
theorem i69_15  : WP V 69 15 ls [] t I L R Q = Q none t I L R := wp_rtv rfl rfl
-- TransactionCells$Steps.advance(I)I
theorem i70_0 {w1 w2 w3 : Value} {x : Nat} : WP V 70 0 [.ref x, w1, w2, w3] st t I L R Q = WP V 70 1 [.ref x, w1, w2, w3] (.ref x :: st) t I L R Q := wp_go rfl
theorem i70_1 {k : Nat} (h1 : k < t) (h2 : m_ob k 6 = true) : WP V 70 1 ls (.ref k :: st) t I L R Q = WP V 70 2 ls (m_rv (R k 0) :: st) t I L R Q := wp_getR rfl (by decide) h1 h2
theorem i70_2 {k : Nat} (h1 : k < t) (h2 : m_ob k 3 = true) : WP V 70 2 ls (.ref k :: st) t I L R Q = WP V 70 3 ls (m_rv (R k 1) :: st) t I L R Q := wp_getR rfl (by decide) h1 h2
theorem i70_3 {w1 w2 w3 : Value} {x : Nat} : WP V 70 3 [.ref x, w1, w2, w3] st t I L R Q = WP V 70 4 [.ref x, w1, w2, w3] (.ref x :: st) t I L R Q := wp_go rfl
theorem i70_4 {k : Nat} (h1 : k < t) (h2 : m_ob k 6 = true) : WP V 70 4 ls (.ref k :: st) t I L R Q = WP V 70 5 ls (m_rv (R k 1) :: st) t I L R Q := wp_getR rfl (by decide) h1 h2
theorem i70_5  : WP V 70 5 ls st t I L R Q = WP V 70 6 ls (.int (nI 561) :: st) t I L R Q := wp_go rfl
theorem i70_6 {w0 w2 w3 : Value} {x : Int32} : WP V 70 6 [w0, .int x, w2, w3] st t I L R Q = WP V 70 7 [w0, .int x, w2, w3] (.int x :: st) t I L R Q := wp_go rfl
theorem i70_7 {x y : Int32} : WP V 70 7 ls (.int y :: .int x :: st) t I L R Q = WP V 70 8 ls (.int (x + y) :: st) t I L R Q := wp_go rfl
theorem i70_8 {k j : Nat} (h2 : m_ar k 2 581 = true) (h1 : k < t) (h3 : j < 581) : WP V 70 8 ls (.int (nI j) :: .ref k :: st) t I L R Q = WP V 70 9 ls (.int (I k j) :: st) t I L R Q := wp_iaload rfl (by decide) h1 h2 h3
theorem i70_9 {w1 w2 w3 : Value} {x : Nat} : WP V 70 9 [.ref x, w1, w2, w3] st t I L R Q = WP V 70 10 [.ref x, w1, w2, w3] (.ref x :: st) t I L R Q := wp_go rfl
theorem i70_10 {k : Nat} (h1 : k < t) (h2 : m_ob k 6 = true) : WP V 70 10 ls (.ref k :: st) t I L R Q = WP V 70 11 ls (m_rv (R k 1) :: st) t I L R Q := wp_getR rfl (by decide) h1 h2
theorem i70_11  : WP V 70 11 ls st t I L R Q = WP V 70 12 ls (.int (nI 6) :: st) t I L R Q := wp_go rfl
theorem i70_12 {w0 w2 w3 : Value} {x : Int32} : WP V 70 12 [w0, .int x, w2, w3] st t I L R Q = WP V 70 13 [w0, .int x, w2, w3] (.int x :: st) t I L R Q := wp_go rfl
theorem i70_13 {x y : Int32} : WP V 70 13 ls (.int y :: .int x :: st) t I L R Q = WP V 70 14 ls (.int (x + y) :: st) t I L R Q := wp_go rfl
theorem i70_14 {k j : Nat} (h2 : m_ar k 2 581 = true) (h1 : k < t) (h3 : j < 581) : WP V 70 14 ls (.int (nI j) :: .ref k :: st) t I L R Q = WP V 70 15 ls (.int (I k j) :: st) t I L R Q := wp_iaload rfl (by decide) h1 h2 h3
theorem i70_15 {x0 : Int32} {x1 : Int32} {x2 : Nat}  (h1 : x2 < t) (h2 : m_ob x2 0 = true) : WP V 70 15 ls [.int x0, .int x1, .ref x2] t I L R Q = WPC V 3 [.ref x2, .int x1, .int x0] 70 16 ls [] t I L R Q := wp_cls (wp_icv rfl rfl h1 h2) (by decide) (Nat.le_of_ble_eq_true rfl) rfl rfl (Nat.le_of_ble_eq_true rfl) (Nat.le_of_ble_eq_true rfl)
theorem i70_16 {p : Int32} {w0 w2 w3 : Value} {x : Int32} : WP V 70 16 [w0, .int p, w2, w3] (.int x :: st) t I L R Q = WP V 70 17 [w0, .int p, .int x, w3] st t I L R Q := wp_go rfl
theorem i70_17 {w1 w2 w3 : Value} {x : Nat} : WP V 70 17 [.ref x, w1, w2, w3] st t I L R Q = WP V 70 18 [.ref x, w1, w2, w3] (.ref x :: st) t I L R Q := wp_go rfl
theorem i70_18 {k : Nat} (h1 : k < t) (h2 : m_ob k 6 = true) : WP V 70 18 ls (.ref k :: st) t I L R Q = WP V 70 19 ls (m_rv (R k 1) :: st) t I L R Q := wp_getR rfl (by decide) h1 h2
theorem i70_19  : WP V 70 19 ls st t I L R Q = WP V 70 20 ls (.int (nI 3) :: st) t I L R Q := wp_go rfl
theorem i70_20 {w0 w2 w3 : Value} {x : Int32} : WP V 70 20 [w0, .int x, w2, w3] st t I L R Q = WP V 70 21 [w0, .int x, w2, w3] (.int x :: st) t I L R Q := wp_go rfl
theorem i70_21 {x y : Int32} : WP V 70 21 ls (.int y :: .int x :: st) t I L R Q = WP V 70 22 ls (.int (x + y) :: st) t I L R Q := wp_go rfl
theorem i70_22 {k j : Nat} (h2 : m_ar k 2 581 = true) (h1 : k < t) (h3 : j < 581) : WP V 70 22 ls (.int (nI j) :: .ref k :: st) t I L R Q = WP V 70 23 ls (.int (I k j) :: st) t I L R Q := wp_iaload rfl (by decide) h1 h2 h3
theorem i70_23  : WP V 70 23 ls st t I L R Q = WP V 70 24 ls (.int (nI 4) :: st) t I L R Q := wp_go rfl
theorem i70_24 {x y : Int32} : WP V 70 24 ls (.int y :: .int x :: st) t I L R Q = if x = y then WP V 70 25 ls st t I L R Q else WP V 70 31 ls st t I L R Q := wp_brn (c := m_cc .ne x y) rfl rfl
theorem i70_25 {w1 w2 w3 : Value} {x : Nat} : WP V 70 25 [.ref x, w1, w2, w3] st t I L R Q = WP V 70 26 [.ref x, w1, w2, w3] (.ref x :: st) t I L R Q := wp_go rfl
theorem i70_26 {k : Nat} (h1 : k < t) (h2 : m_ob k 6 = true) : WP V 70 26 ls (.ref k :: st) t I L R Q = WP V 70 27 ls (m_rv (R k 2) :: st) t I L R Q := wp_getR rfl (by decide) h1 h2
theorem i70_27 {w0 w2 w3 : Value} {x : Int32} : WP V 70 27 [w0, .int x, w2, w3] st t I L R Q = WP V 70 28 [w0, .int x, w2, w3] (.int x :: st) t I L R Q := wp_go rfl
theorem i70_28 {x0 : Int32} {x1 : Nat}  (h1 : x1 < t) (h2 : m_ob x1 1 = true) : WP V 70 28 ls [.int x0, .ref x1] t I L R Q = WPC V 32 [.ref x1, .int x0] 70 29 ls [] t I L R Q := wp_cls (wp_icv rfl rfl h1 h2) (by decide) (Nat.le_of_ble_eq_true rfl) rfl rfl (Nat.le_of_ble_eq_true rfl) (Nat.le_of_ble_eq_true rfl)
theorem i70_29 {p : Int32} {w0 w1 w3 : Value} {x : Int32} : WP V 70 29 [w0, w1, .int p, w3] (.int x :: st) t I L R Q = WP V 70 30 [w0, w1, .int p, .int x] st t I L R Q := wp_go rfl
theorem i70_30  : WP V 70 30 ls st t I L R Q = WP V 70 58 ls st t I L R Q := wp_go rfl
theorem i70_31 {w0 w1 w3 : Value} {x : Int32} : WP V 70 31 [w0, w1, .int x, w3] st t I L R Q = WP V 70 32 [w0, w1, .int x, w3] (.int x :: st) t I L R Q := wp_go rfl
theorem i70_32  : WP V 70 32 ls st t I L R Q = WP V 70 33 ls (.int (-1) :: st) t I L R Q := wp_go rfl
theorem i70_33 {x y : Int32} : WP V 70 33 ls (.int y :: .int x :: st) t I L R Q = if x = y then WP V 70 34 ls st t I L R Q else WP V 70 39 ls st t I L R Q := wp_brn (c := m_cc .ne x y) rfl rfl
theorem i70_34 {w1 w2 w3 : Value} {x : Nat} : WP V 70 34 [.ref x, w1, w2, w3] st t I L R Q = WP V 70 35 [.ref x, w1, w2, w3] (.ref x :: st) t I L R Q := wp_go rfl
theorem i70_35 {w0 w2 w3 : Value} {x : Int32} : WP V 70 35 [w0, .int x, w2, w3] st t I L R Q = WP V 70 36 [w0, .int x, w2, w3] (.int x :: st) t I L R Q := wp_go rfl
theorem i70_36 {x0 : Int32} {x1 : Nat}  (h1 : x1 < t) (h2 : m_ob x1 6 = true) : WP V 70 36 ls [.int x0, .ref x1] t I L R Q = WPC V 71 [.ref x1, .int x0] 70 37 ls [] t I L R Q := wp_cls (wp_icv rfl rfl h1 h2) (by decide) (Nat.le_of_ble_eq_true rfl) rfl rfl (Nat.le_of_ble_eq_true rfl) (Nat.le_of_ble_eq_true rfl)
theorem i70_37 {p : Int32} {w0 w1 w3 : Value} {x : Int32} : WP V 70 37 [w0, w1, .int p, w3] (.int x :: st) t I L R Q = WP V 70 38 [w0, w1, .int p, .int x] st t I L R Q := wp_go rfl
theorem i70_38  : WP V 70 38 ls st t I L R Q = WP V 70 58 ls st t I L R Q := wp_go rfl
theorem i70_39 {w1 w2 w3 : Value} {x : Nat} : WP V 70 39 [.ref x, w1, w2, w3] st t I L R Q = WP V 70 40 [.ref x, w1, w2, w3] (.ref x :: st) t I L R Q := wp_go rfl
theorem i70_40 {k : Nat} (h1 : k < t) (h2 : m_ob k 6 = true) : WP V 70 40 ls (.ref k :: st) t I L R Q = WP V 70 41 ls (m_rv (R k 0) :: st) t I L R Q := wp_getR rfl (by decide) h1 h2
theorem i70_41 {k : Nat} (h1 : k < t) (h2 : m_ob k 3 = true) : WP V 70 41 ls (.ref k :: st) t I L R Q = WP V 70 42 ls (m_rv (R k 1) :: st) t I L R Q := wp_getR rfl (by decide) h1 h2
theorem i70_42 {k : Nat} (h1 : k < t) (h2 : m_ob k 0 = true) : WP V 70 42 ls (.ref k :: st) t I L R Q = WP V 70 43 ls (m_rv (R k 0) :: st) t I L R Q := wp_getR rfl (by decide) h1 h2
theorem i70_43 {w0 w1 w3 : Value} {x : Int32} : WP V 70 43 [w0, w1, .int x, w3] st t I L R Q = WP V 70 44 [w0, w1, .int x, w3] (.int x :: st) t I L R Q := wp_go rfl
theorem i70_44 {k j : Nat} (h2 : m_ar k 2 960 = true) (h1 : k < t) (h3 : j < 960) : WP V 70 44 ls (.int (nI j) :: .ref k :: st) t I L R Q = WP V 70 45 ls (.int (I k j) :: st) t I L R Q := wp_iaload rfl (by decide) h1 h2 h3
theorem i70_45  : WP V 70 45 ls st t I L R Q = WP V 70 46 ls (.int (nI 11) :: st) t I L R Q := wp_go rfl
theorem i70_46 {x y : Int32} : WP V 70 46 ls (.int y :: .int x :: st) t I L R Q = if y ≤ x then WP V 70 53 ls st t I L R Q else WP V 70 47 ls st t I L R Q := wp_br (c := m_cc .ge x y) rfl rfl
theorem i70_47 {w1 w2 w3 : Value} {x : Nat} : WP V 70 47 [.ref x, w1, w2, w3] st t I L R Q = WP V 70 48 [.ref x, w1, w2, w3] (.ref x :: st) t I L R Q := wp_go rfl
theorem i70_48 {w0 w2 w3 : Value} {x : Int32} : WP V 70 48 [w0, .int x, w2, w3] st t I L R Q = WP V 70 49 [w0, .int x, w2, w3] (.int x :: st) t I L R Q := wp_go rfl
theorem i70_49 {w0 w1 w3 : Value} {x : Int32} : WP V 70 49 [w0, w1, .int x, w3] st t I L R Q = WP V 70 50 [w0, w1, .int x, w3] (.int x :: st) t I L R Q := wp_go rfl
theorem i70_50 {x0 : Int32} {x1 : Int32} {x2 : Nat}  (h1 : x2 < t) (h2 : m_ob x2 6 = true) : WP V 70 50 ls [.int x0, .int x1, .ref x2] t I L R Q = WPC V 72 [.ref x2, .int x1, .int x0] 70 51 ls [] t I L R Q := wp_cls (wp_icv rfl rfl h1 h2) (by decide) (Nat.le_of_ble_eq_true rfl) rfl rfl (Nat.le_of_ble_eq_true rfl) (Nat.le_of_ble_eq_true rfl)
theorem i70_51 {p : Int32} {w0 w1 w3 : Value} {x : Int32} : WP V 70 51 [w0, w1, .int p, w3] (.int x :: st) t I L R Q = WP V 70 52 [w0, w1, .int p, .int x] st t I L R Q := wp_go rfl
theorem i70_52  : WP V 70 52 ls st t I L R Q = WP V 70 58 ls st t I L R Q := wp_go rfl
theorem i70_53 {w1 w2 w3 : Value} {x : Nat} : WP V 70 53 [.ref x, w1, w2, w3] st t I L R Q = WP V 70 54 [.ref x, w1, w2, w3] (.ref x :: st) t I L R Q := wp_go rfl
theorem i70_54 {w0 w2 w3 : Value} {x : Int32} : WP V 70 54 [w0, .int x, w2, w3] st t I L R Q = WP V 70 55 [w0, .int x, w2, w3] (.int x :: st) t I L R Q := wp_go rfl
theorem i70_55 {w0 w1 w3 : Value} {x : Int32} : WP V 70 55 [w0, w1, .int x, w3] st t I L R Q = WP V 70 56 [w0, w1, .int x, w3] (.int x :: st) t I L R Q := wp_go rfl
theorem i70_56 {x0 : Int32} {x1 : Int32} {x2 : Nat}  (h1 : x2 < t) (h2 : m_ob x2 6 = true) : WP V 70 56 ls [.int x0, .int x1, .ref x2] t I L R Q = WPC V 73 [.ref x2, .int x1, .int x0] 70 57 ls [] t I L R Q := wp_cls (wp_icv rfl rfl h1 h2) (by decide) (Nat.le_of_ble_eq_true rfl) rfl rfl (Nat.le_of_ble_eq_true rfl) (Nat.le_of_ble_eq_true rfl)
theorem i70_57 {p : Int32} {w0 w1 w3 : Value} {x : Int32} : WP V 70 57 [w0, w1, .int p, w3] (.int x :: st) t I L R Q = WP V 70 58 [w0, w1, .int p, .int x] st t I L R Q := wp_go rfl
theorem i70_58 {w0 w1 w2 : Value} {x : Int32} : WP V 70 58 [w0, w1, w2, .int x] st t I L R Q = WP V 70 59 [w0, w1, w2, .int x] (.int x :: st) t I L R Q := wp_go rfl
theorem i70_59  : WP V 70 59 ls st t I L R Q = WP V 70 60 ls (.int (nI 100) :: st) t I L R Q := wp_go rfl
theorem i70_60 {x y : Int32} : WP V 70 60 ls (.int y :: .int x :: st) t I L R Q = if x < y then WP V 70 68 ls st t I L R Q else WP V 70 61 ls st t I L R Q := wp_br (c := m_cc .lt x y) rfl rfl
theorem i70_61 {w1 w2 w3 : Value} {x : Nat} : WP V 70 61 [.ref x, w1, w2, w3] st t I L R Q = WP V 70 62 [.ref x, w1, w2, w3] (.ref x :: st) t I L R Q := wp_go rfl
theorem i70_62 {w0 w2 w3 : Value} {x : Int32} : WP V 70 62 [w0, .int x, w2, w3] st t I L R Q = WP V 70 63 [w0, .int x, w2, w3] (.int x :: st) t I L R Q := wp_go rfl
theorem i70_63 {w0 w1 w2 : Value} {x : Int32} : WP V 70 63 [w0, w1, w2, .int x] st t I L R Q = WP V 70 64 [w0, w1, w2, .int x] (.int x :: st) t I L R Q := wp_go rfl
theorem i70_64  : WP V 70 64 ls st t I L R Q = WP V 70 65 ls (.int (nI 100) :: st) t I L R Q := wp_go rfl
theorem i70_65 {x y : Int32} : WP V 70 65 ls (.int y :: .int x :: st) t I L R Q = WP V 70 66 ls (.int (x - y) :: st) t I L R Q := wp_go rfl
theorem i70_66 {x0 : Int32} {x1 : Int32} {x2 : Nat}  (h1 : x2 < t) (h2 : m_ob x2 6 = true) : WP V 70 66 ls [.int x0, .int x1, .ref x2] t I L R Q = WPC V 83 [.ref x2, .int x1, .int x0] 70 67 ls [] t I L R Q := wp_cls (wp_icv rfl rfl h1 h2) (by decide) (Nat.le_of_ble_eq_true rfl) rfl rfl (Nat.le_of_ble_eq_true rfl) (Nat.le_of_ble_eq_true rfl)
theorem i70_67 {p : Int32} {w0 w1 w3 : Value} {x : Int32} : WP V 70 67 [w0, w1, .int p, w3] (.int x :: st) t I L R Q = WP V 70 68 [w0, w1, .int p, .int x] st t I L R Q := wp_go rfl
theorem i70_68 {w0 w1 w2 : Value} {x : Int32} : WP V 70 68 [w0, w1, w2, .int x] st t I L R Q = WP V 70 69 [w0, w1, w2, .int x] (.int x :: st) t I L R Q := wp_go rfl
theorem i70_69  : WP V 70 69 ls st t I L R Q = WP V 70 70 ls (.int (nI 2) :: st) t I L R Q := wp_go rfl
theorem i70_70 {x y : Int32} : WP V 70 70 ls (.int y :: .int x :: st) t I L R Q = if x = y then WP V 70 71 ls st t I L R Q else WP V 70 75 ls st t I L R Q := wp_brn (c := m_cc .ne x y) rfl rfl
theorem i70_71 {w1 w2 w3 : Value} {x : Nat} : WP V 70 71 [.ref x, w1, w2, w3] st t I L R Q = WP V 70 72 [.ref x, w1, w2, w3] (.ref x :: st) t I L R Q := wp_go rfl
theorem i70_72 {k : Nat} (h1 : k < t) (h2 : m_ob k 6 = true) : WP V 70 72 ls (.ref k :: st) t I L R Q = WP V 70 73 ls (m_rv (R k 2) :: st) t I L R Q := wp_getR rfl (by decide) h1 h2
theorem i70_73 {w0 w2 w3 : Value} {x : Int32} : WP V 70 73 [w0, .int x, w2, w3] st t I L R Q = WP V 70 74 [w0, .int x, w2, w3] (.int x :: st) t I L R Q := wp_go rfl
theorem i70_74 {x0 : Int32} {x1 : Nat}  (h1 : x1 < t) (h2 : m_ob x1 1 = true) : WP V 70 74 ls [.int x0, .ref x1] t I L R Q = WPC V 30 [.ref x1, .int x0] 70 75 ls [] t I L R Q := wp_cls (wp_icv rfl rfl h1 h2) (by decide) (Nat.le_of_ble_eq_true rfl) rfl rfl (Nat.le_of_ble_eq_true rfl) (Nat.le_of_ble_eq_true rfl)
theorem i70_75 {w0 w1 w2 : Value} {x : Int32} : WP V 70 75 [w0, w1, w2, .int x] st t I L R Q = WP V 70 76 [w0, w1, w2, .int x] (.int x :: st) t I L R Q := wp_go rfl
theorem i70_76  : WP V 70 76 ls st t I L R Q = WP V 70 77 ls (.int (nI 6) :: st) t I L R Q := wp_go rfl
theorem i70_77 {x y : Int32} : WP V 70 77 ls (.int y :: .int x :: st) t I L R Q = if x = y then WP V 70 78 ls st t I L R Q else WP V 70 90 ls st t I L R Q := wp_brn (c := m_cc .ne x y) rfl rfl
theorem i70_78 {w1 w2 w3 : Value} {x : Nat} : WP V 70 78 [.ref x, w1, w2, w3] st t I L R Q = WP V 70 79 [.ref x, w1, w2, w3] (.ref x :: st) t I L R Q := wp_go rfl
theorem i70_79 {k : Nat} (h1 : k < t) (h2 : m_ob k 6 = true) : WP V 70 79 ls (.ref k :: st) t I L R Q = WP V 70 80 ls (m_rv (R k 1) :: st) t I L R Q := wp_getR rfl (by decide) h1 h2
theorem i70_80  : WP V 70 80 ls st t I L R Q = WP V 70 81 ls (.int (nI 6) :: st) t I L R Q := wp_go rfl
theorem i70_81 {w0 w2 w3 : Value} {x : Int32} : WP V 70 81 [w0, .int x, w2, w3] st t I L R Q = WP V 70 82 [w0, .int x, w2, w3] (.int x :: st) t I L R Q := wp_go rfl
theorem i70_82 {x y : Int32} : WP V 70 82 ls (.int y :: .int x :: st) t I L R Q = WP V 70 83 ls (.int (x + y) :: st) t I L R Q := wp_go rfl
theorem i70_83 {v0 : Int32} {v1 : Nat} : WP V 70 83 ls (.int v0 :: .ref v1 :: st) t I L R Q = WP V 70 84 ls (.int v0 :: .ref v1 :: .int v0 :: .ref v1 :: st) t I L R Q := wp_go rfl
theorem i70_84 {k j : Nat} (h2 : m_ar k 2 581 = true) (h1 : k < t) (h3 : j < 581) : WP V 70 84 ls (.int (nI j) :: .ref k :: st) t I L R Q = WP V 70 85 ls (.int (I k j) :: st) t I L R Q := wp_iaload rfl (by decide) h1 h2 h3
theorem i70_85  : WP V 70 85 ls st t I L R Q = WP V 70 86 ls (.int (nI 1) :: st) t I L R Q := wp_go rfl
theorem i70_86 {x y : Int32} : WP V 70 86 ls (.int y :: .int x :: st) t I L R Q = WP V 70 87 ls (.int (x + y) :: st) t I L R Q := wp_go rfl
theorem i70_87 {k j : Nat} {x : Int32} (h2 : m_ar k 2 581 = true) (h1 : k < t) (h3 : j < 581) : WP V 70 87 ls (.int x :: .int (nI j) :: .ref k :: st) t I L R Q = WP V 70 88 ls st t (m_sc I k (m_sc (I k) j x)) L R Q := wp_iastore rfl (by decide) h1 h2 h3
theorem i70_88  : WP V 70 88 ls st t I L R Q = WP V 70 89 ls (.int (nI 1) :: st) t I L R Q := wp_go rfl
theorem i70_89 {p : Int32} {w0 w1 w3 : Value} {x : Int32} : WP V 70 89 [w0, w1, .int p, w3] (.int x :: st) t I L R Q = WP V 70 90 [w0, w1, .int p, .int x] st t I L R Q := wp_go rfl
theorem i70_90 {w1 w2 w3 : Value} {x : Nat} : WP V 70 90 [.ref x, w1, w2, w3] st t I L R Q = WP V 70 91 [.ref x, w1, w2, w3] (.ref x :: st) t I L R Q := wp_go rfl
theorem i70_91 {k : Nat} (h1 : k < t) (h2 : m_ob k 6 = true) : WP V 70 91 ls (.ref k :: st) t I L R Q = WP V 70 92 ls (m_rv (R k 1) :: st) t I L R Q := wp_getR rfl (by decide) h1 h2
theorem i70_92 {w0 w1 w2 : Value} {x : Int32} : WP V 70 92 [w0, w1, w2, .int x] st t I L R Q = WP V 70 93 [w0, w1, w2, .int x] (.int x :: st) t I L R Q := wp_go rfl
theorem i70_93 {x : Int32} : WP V 70 93 ls (.int x :: st) t I L R Q = if x = nI 0 then WP V 70 94 ls st t I L R Q else WP V 70 96 ls st t I L R Q := wp_brn (c := m_cc .ne x 0) rfl rfl
theorem i70_94  : WP V 70 94 ls st t I L R Q = WP V 70 95 ls (.int (nI 556) :: st) t I L R Q := wp_go rfl
theorem i70_95  : WP V 70 95 ls st t I L R Q = WP V 70 97 ls st t I L R Q := wp_go rfl
theorem i70_96  : WP V 70 96 ls st t I L R Q = WP V 70 97 ls (.int (nI 553) :: st) t I L R Q := wp_go rfl
theorem i70_97 {w0 w2 w3 : Value} {x : Int32} : WP V 70 97 [w0, .int x, w2, w3] st t I L R Q = WP V 70 98 [w0, .int x, w2, w3] (.int x :: st) t I L R Q := wp_go rfl
theorem i70_98 {x y : Int32} : WP V 70 98 ls (.int y :: .int x :: st) t I L R Q = WP V 70 99 ls (.int (x + y) :: st) t I L R Q := wp_go rfl
theorem i70_99 {v0 : Int32} {v1 : Nat} : WP V 70 99 ls (.int v0 :: .ref v1 :: st) t I L R Q = WP V 70 100 ls (.int v0 :: .ref v1 :: .int v0 :: .ref v1 :: st) t I L R Q := wp_go rfl
theorem i70_100 {k j : Nat} (h2 : m_ar k 2 581 = true) (h1 : k < t) (h3 : j < 581) : WP V 70 100 ls (.int (nI j) :: .ref k :: st) t I L R Q = WP V 70 101 ls (.int (I k j) :: st) t I L R Q := wp_iaload rfl (by decide) h1 h2 h3
theorem i70_101  : WP V 70 101 ls st t I L R Q = WP V 70 102 ls (.int (nI 1) :: st) t I L R Q := wp_go rfl
theorem i70_102 {x y : Int32} : WP V 70 102 ls (.int y :: .int x :: st) t I L R Q = WP V 70 103 ls (.int (x + y) :: st) t I L R Q := wp_go rfl
theorem i70_103 {k j : Nat} {x : Int32} (h2 : m_ar k 2 581 = true) (h1 : k < t) (h3 : j < 581) : WP V 70 103 ls (.int x :: .int (nI j) :: .ref k :: st) t I L R Q = WP V 70 104 ls st t (m_sc I k (m_sc (I k) j x)) L R Q := wp_iastore rfl (by decide) h1 h2 h3
theorem i70_104 {w0 w1 w2 : Value} {x : Int32} : WP V 70 104 [w0, w1, w2, .int x] st t I L R Q = WP V 70 105 [w0, w1, w2, .int x] (.int x :: st) t I L R Q := wp_go rfl
theorem i70_105 {x : Int32} : WP V 70 105 ls [.int x] t I L R Q = Q (some (.int x)) t I L R := wp_rti rfl rfl
-- TransactionCells$Steps.stop(I)I
theorem i71_0 {w1 : Value} {x : Nat} : WP V 71 0 [.ref x, w1] st t I L R Q = WP V 71 1 [.ref x, w1] (.ref x :: st) t I L R Q := wp_go rfl
theorem i71_1 {k : Nat} (h1 : k < t) (h2 : m_ob k 6 = true) : WP V 71 1 ls (.ref k :: st) t I L R Q = WP V 71 2 ls (m_rv (R k 1) :: st) t I L R Q := wp_getR rfl (by decide) h1 h2
theorem i71_2  : WP V 71 2 ls st t I L R Q = WP V 71 3 ls (.int (nI 15) :: st) t I L R Q := wp_go rfl
theorem i71_3 {w0 : Value} {x : Int32} : WP V 71 3 [w0, .int x] st t I L R Q = WP V 71 4 [w0, .int x] (.int x :: st) t I L R Q := wp_go rfl
theorem i71_4 {x y : Int32} : WP V 71 4 ls (.int y :: .int x :: st) t I L R Q = WP V 71 5 ls (.int (x + y) :: st) t I L R Q := wp_go rfl
theorem i71_5 {k j : Nat} (h2 : m_ar k 2 581 = true) (h1 : k < t) (h3 : j < 581) : WP V 71 5 ls (.int (nI j) :: .ref k :: st) t I L R Q = WP V 71 6 ls (.int (I k j) :: st) t I L R Q := wp_iaload rfl (by decide) h1 h2 h3
theorem i71_6  : WP V 71 6 ls st t I L R Q = WP V 71 7 ls (.int (-1) :: st) t I L R Q := wp_go rfl
theorem i71_7 {x y : Int32} : WP V 71 7 ls (.int y :: .int x :: st) t I L R Q = if x = y then WP V 71 8 ls st t I L R Q else WP V 71 15 ls st t I L R Q := wp_brn (c := m_cc .ne x y) rfl rfl
theorem i71_8 {w1 : Value} {x : Nat} : WP V 71 8 [.ref x, w1] st t I L R Q = WP V 71 9 [.ref x, w1] (.ref x :: st) t I L R Q := wp_go rfl
theorem i71_9 {k : Nat} (h1 : k < t) (h2 : m_ob k 6 = true) : WP V 71 9 ls (.ref k :: st) t I L R Q = WP V 71 10 ls (m_rv (R k 1) :: st) t I L R Q := wp_getR rfl (by decide) h1 h2
theorem i71_10  : WP V 71 10 ls st t I L R Q = WP V 71 11 ls (.int (nI 12) :: st) t I L R Q := wp_go rfl
theorem i71_11 {w0 : Value} {x : Int32} : WP V 71 11 [w0, .int x] st t I L R Q = WP V 71 12 [w0, .int x] (.int x :: st) t I L R Q := wp_go rfl
theorem i71_12 {x y : Int32} : WP V 71 12 ls (.int y :: .int x :: st) t I L R Q = WP V 71 13 ls (.int (x + y) :: st) t I L R Q := wp_go rfl
theorem i71_13 {k j : Nat} (h2 : m_ar k 2 581 = true) (h1 : k < t) (h3 : j < 581) : WP V 71 13 ls (.int (nI j) :: .ref k :: st) t I L R Q = WP V 71 14 ls (.int (I k j) :: st) t I L R Q := wp_iaload rfl (by decide) h1 h2 h3
theorem i71_14 {x : Int32} : WP V 71 14 ls (.int x :: st) t I L R Q = if x ≤ nI 0 then WP V 71 17 ls st t I L R Q else WP V 71 15 ls st t I L R Q := wp_br (c := m_cc .le x 0) rfl rfl
theorem i71_15  : WP V 71 15 ls st t I L R Q = WP V 71 16 ls (.int (nI 102) :: st) t I L R Q := wp_go rfl
theorem i71_16 {x : Int32} : WP V 71 16 ls [.int x] t I L R Q = Q (some (.int x)) t I L R := wp_rti rfl rfl
theorem i71_17 {w1 : Value} {x : Nat} : WP V 71 17 [.ref x, w1] st t I L R Q = WP V 71 18 [.ref x, w1] (.ref x :: st) t I L R Q := wp_go rfl
theorem i71_18 {k : Nat} (h1 : k < t) (h2 : m_ob k 6 = true) : WP V 71 18 ls (.ref k :: st) t I L R Q = WP V 71 19 ls (m_rv (R k 1) :: st) t I L R Q := wp_getR rfl (by decide) h1 h2
theorem i71_19  : WP V 71 19 ls st t I L R Q = WP V 71 20 ls (.int (nI 3) :: st) t I L R Q := wp_go rfl
theorem i71_20 {w0 : Value} {x : Int32} : WP V 71 20 [w0, .int x] st t I L R Q = WP V 71 21 [w0, .int x] (.int x :: st) t I L R Q := wp_go rfl
theorem i71_21 {x y : Int32} : WP V 71 21 ls (.int y :: .int x :: st) t I L R Q = WP V 71 22 ls (.int (x + y) :: st) t I L R Q := wp_go rfl
theorem i71_22  : WP V 71 22 ls st t I L R Q = WP V 71 23 ls (.int (nI 2) :: st) t I L R Q := wp_go rfl
theorem i71_23 {k j : Nat} {x : Int32} (h2 : m_ar k 2 581 = true) (h1 : k < t) (h3 : j < 581) : WP V 71 23 ls (.int x :: .int (nI j) :: .ref k :: st) t I L R Q = WP V 71 24 ls st t (m_sc I k (m_sc (I k) j x)) L R Q := wp_iastore rfl (by decide) h1 h2 h3
theorem i71_24  : WP V 71 24 ls st t I L R Q = WP V 71 25 ls (.int (nI 4) :: st) t I L R Q := wp_go rfl
theorem i71_25 {x : Int32} : WP V 71 25 ls [.int x] t I L R Q = Q (some (.int x)) t I L R := wp_rti rfl rfl
-- TransactionCells$Steps.doPlain(II)I
theorem i72_0 {w1 w2 w3 w4 w5 w6 w7 w8 : Value} {x : Nat} : WP V 72 0 [.ref x, w1, w2, w3, w4, w5, w6, w7, w8] st t I L R Q = WP V 72 1 [.ref x, w1, w2, w3, w4, w5, w6, w7, w8] (.ref x :: st) t I L R Q := wp_go rfl
theorem i72_1 {k : Nat} (h1 : k < t) (h2 : m_ob k 6 = true) : WP V 72 1 ls (.ref k :: st) t I L R Q = WP V 72 2 ls (m_rv (R k 0) :: st) t I L R Q := wp_getR rfl (by decide) h1 h2
theorem i72_2 {k : Nat} (h1 : k < t) (h2 : m_ob k 3 = true) : WP V 72 2 ls (.ref k :: st) t I L R Q = WP V 72 3 ls (m_rv (R k 1) :: st) t I L R Q := wp_getR rfl (by decide) h1 h2
theorem i72_3 {k : Nat} (h1 : k < t) (h2 : m_ob k 0 = true) : WP V 72 3 ls (.ref k :: st) t I L R Q = WP V 72 4 ls (m_rv (R k 0) :: st) t I L R Q := wp_getR rfl (by decide) h1 h2
theorem i72_4 {p : Int32} {w0 w1 w3 w4 w5 w6 w7 w8 : Value} {x : Nat} : WP V 72 4 [w0, w1, .int p, w3, w4, w5, w6, w7, w8] (.ref x :: st) t I L R Q = WP V 72 5 [w0, w1, .int p, .ref x, w4, w5, w6, w7, w8] st t I L R Q := wp_go rfl
theorem i72_5 {w0 w1 w2 w4 w5 w6 w7 w8 : Value} {x : Nat} : WP V 72 5 [w0, w1, w2, .ref x, w4, w5, w6, w7, w8] st t I L R Q = WP V 72 6 [w0, w1, w2, .ref x, w4, w5, w6, w7, w8] (.ref x :: st) t I L R Q := wp_go rfl
theorem i72_6 {w0 w1 w3 w4 w5 w6 w7 w8 : Value} {x : Int32} : WP V 72 6 [w0, w1, .int x, w3, w4, w5, w6, w7, w8] st t I L R Q = WP V 72 7 [w0, w1, .int x, w3, w4, w5, w6, w7, w8] (.int x :: st) t I L R Q := wp_go rfl
theorem i72_7  : WP V 72 7 ls st t I L R Q = WP V 72 8 ls (.int (nI 1) :: st) t I L R Q := wp_go rfl
theorem i72_8 {x y : Int32} : WP V 72 8 ls (.int y :: .int x :: st) t I L R Q = WP V 72 9 ls (.int (x + y) :: st) t I L R Q := wp_go rfl
theorem i72_9 {k j : Nat} (h2 : m_ar k 2 960 = true) (h1 : k < t) (h3 : j < 960) : WP V 72 9 ls (.int (nI j) :: .ref k :: st) t I L R Q = WP V 72 10 ls (.int (I k j) :: st) t I L R Q := wp_iaload rfl (by decide) h1 h2 h3
theorem i72_10 {p : Nat} {w0 w1 w2 w4 w5 w6 w7 w8 : Value} {x : Int32} : WP V 72 10 [w0, w1, w2, .ref p, w4, w5, w6, w7, w8] (.int x :: st) t I L R Q = WP V 72 11 [w0, w1, w2, .ref p, .int x, w5, w6, w7, w8] st t I L R Q := wp_go rfl
theorem i72_11 {w0 w1 w2 w4 w5 w6 w7 w8 : Value} {x : Nat} : WP V 72 11 [w0, w1, w2, .ref x, w4, w5, w6, w7, w8] st t I L R Q = WP V 72 12 [w0, w1, w2, .ref x, w4, w5, w6, w7, w8] (.ref x :: st) t I L R Q := wp_go rfl
theorem i72_12 {w0 w1 w3 w4 w5 w6 w7 w8 : Value} {x : Int32} : WP V 72 12 [w0, w1, .int x, w3, w4, w5, w6, w7, w8] st t I L R Q = WP V 72 13 [w0, w1, .int x, w3, w4, w5, w6, w7, w8] (.int x :: st) t I L R Q := wp_go rfl
theorem i72_13  : WP V 72 13 ls st t I L R Q = WP V 72 14 ls (.int (nI 2) :: st) t I L R Q := wp_go rfl
theorem i72_14 {x y : Int32} : WP V 72 14 ls (.int y :: .int x :: st) t I L R Q = WP V 72 15 ls (.int (x + y) :: st) t I L R Q := wp_go rfl
theorem i72_15 {k j : Nat} (h2 : m_ar k 2 960 = true) (h1 : k < t) (h3 : j < 960) : WP V 72 15 ls (.int (nI j) :: .ref k :: st) t I L R Q = WP V 72 16 ls (.int (I k j) :: st) t I L R Q := wp_iaload rfl (by decide) h1 h2 h3
theorem i72_16 {p : Int32} {w0 w1 w2 w3 w5 w6 w7 w8 : Value} {x : Int32} : WP V 72 16 [w0, w1, w2, w3, .int p, w5, w6, w7, w8] (.int x :: st) t I L R Q = WP V 72 17 [w0, w1, w2, w3, .int p, .int x, w6, w7, w8] st t I L R Q := wp_go rfl
theorem i72_17 {w0 w1 w2 w4 w5 w6 w7 w8 : Value} {x : Nat} : WP V 72 17 [w0, w1, w2, .ref x, w4, w5, w6, w7, w8] st t I L R Q = WP V 72 18 [w0, w1, w2, .ref x, w4, w5, w6, w7, w8] (.ref x :: st) t I L R Q := wp_go rfl
theorem i72_18 {w0 w1 w3 w4 w5 w6 w7 w8 : Value} {x : Int32} : WP V 72 18 [w0, w1, .int x, w3, w4, w5, w6, w7, w8] st t I L R Q = WP V 72 19 [w0, w1, .int x, w3, w4, w5, w6, w7, w8] (.int x :: st) t I L R Q := wp_go rfl
theorem i72_19  : WP V 72 19 ls st t I L R Q = WP V 72 20 ls (.int (nI 3) :: st) t I L R Q := wp_go rfl
theorem i72_20 {x y : Int32} : WP V 72 20 ls (.int y :: .int x :: st) t I L R Q = WP V 72 21 ls (.int (x + y) :: st) t I L R Q := wp_go rfl
theorem i72_21 {k j : Nat} (h2 : m_ar k 2 960 = true) (h1 : k < t) (h3 : j < 960) : WP V 72 21 ls (.int (nI j) :: .ref k :: st) t I L R Q = WP V 72 22 ls (.int (I k j) :: st) t I L R Q := wp_iaload rfl (by decide) h1 h2 h3
theorem i72_22 {p : Int32} {w0 w1 w2 w3 w4 w6 w7 w8 : Value} {x : Int32} : WP V 72 22 [w0, w1, w2, w3, w4, .int p, w6, w7, w8] (.int x :: st) t I L R Q = WP V 72 23 [w0, w1, w2, w3, w4, .int p, .int x, w7, w8] st t I L R Q := wp_go rfl
theorem i72_23  : WP V 72 23 ls st t I L R Q = WP V 72 24 ls (.int (nI 21) :: st) t I L R Q := wp_go rfl
theorem i72_24  : WP V 72 24 ls st t I L R Q = WP V 72 25 ls (.int (nI 4) :: st) t I L R Q := wp_go rfl
theorem i72_25 {w0 w2 w3 w4 w5 w6 w7 w8 : Value} {x : Int32} : WP V 72 25 [w0, .int x, w2, w3, w4, w5, w6, w7, w8] st t I L R Q = WP V 72 26 [w0, .int x, w2, w3, w4, w5, w6, w7, w8] (.int x :: st) t I L R Q := wp_go rfl
theorem i72_26 {x y : Int32} : WP V 72 26 ls (.int y :: .int x :: st) t I L R Q = WP V 72 27 ls (.int (x * y) :: st) t I L R Q := wp_go rfl
theorem i72_27 {x y : Int32} : WP V 72 27 ls (.int y :: .int x :: st) t I L R Q = WP V 72 28 ls (.int (x + y) :: st) t I L R Q := wp_go rfl
theorem i72_28 {p : Int32} {w0 w1 w2 w3 w4 w5 w7 w8 : Value} {x : Int32} : WP V 72 28 [w0, w1, w2, w3, w4, w5, .int p, w7, w8] (.int x :: st) t I L R Q = WP V 72 29 [w0, w1, w2, w3, w4, w5, .int p, .int x, w8] st t I L R Q := wp_go rfl
theorem i72_29  : WP V 72 29 ls st t I L R Q = WP V 72 30 ls (.int (nI 6) :: st) t I L R Q := wp_go rfl
theorem i72_30 {p : Int32} {w0 w1 w2 w3 w4 w5 w6 w8 : Value} {x : Int32} : WP V 72 30 [w0, w1, w2, w3, w4, w5, w6, .int p, w8] (.int x :: st) t I L R Q = WP V 72 31 [w0, w1, w2, w3, w4, w5, w6, .int p, .int x] st t I L R Q := wp_go rfl
theorem i72_31 {w0 w1 w2 w4 w5 w6 w7 w8 : Value} {x : Nat} : WP V 72 31 [w0, w1, w2, .ref x, w4, w5, w6, w7, w8] st t I L R Q = WP V 72 32 [w0, w1, w2, .ref x, w4, w5, w6, w7, w8] (.ref x :: st) t I L R Q := wp_go rfl
theorem i72_32 {w0 w1 w3 w4 w5 w6 w7 w8 : Value} {x : Int32} : WP V 72 32 [w0, w1, .int x, w3, w4, w5, w6, w7, w8] st t I L R Q = WP V 72 33 [w0, w1, .int x, w3, w4, w5, w6, w7, w8] (.int x :: st) t I L R Q := wp_go rfl
theorem i72_33 {k j : Nat} (h2 : m_ar k 2 960 = true) (h1 : k < t) (h3 : j < 960) : WP V 72 33 ls (.int (nI j) :: .ref k :: st) t I L R Q = WP V 72 34 ls (.int (I k j) :: st) t I L R Q := wp_iaload rfl (by decide) h1 h2 h3
theorem i72_34s0  : WP V 72 34 ls (.int (nI 0) :: st) t I L R Q = WP V 72 35 ls st t I L R Q := wp_sw rfl (by decide) (by decide) (by decide) rfl
theorem i72_34s1  : WP V 72 34 ls (.int (nI 1) :: st) t I L R Q = WP V 72 44 ls st t I L R Q := wp_sw rfl (by decide) (by decide) (by decide) rfl
theorem i72_34s2  : WP V 72 34 ls (.int (nI 2) :: st) t I L R Q = WP V 72 61 ls st t I L R Q := wp_sw rfl (by decide) (by decide) (by decide) rfl
theorem i72_34s3  : WP V 72 34 ls (.int (nI 3) :: st) t I L R Q = WP V 72 78 ls st t I L R Q := wp_sw rfl (by decide) (by decide) (by decide) rfl
theorem i72_34s4  : WP V 72 34 ls (.int (nI 4) :: st) t I L R Q = WP V 72 104 ls st t I L R Q := wp_sw rfl (by decide) (by decide) (by decide) rfl
theorem i72_34s5  : WP V 72 34 ls (.int (nI 5) :: st) t I L R Q = WP V 72 121 ls st t I L R Q := wp_sw rfl (by decide) (by decide) (by decide) rfl
theorem i72_34s6  : WP V 72 34 ls (.int (nI 6) :: st) t I L R Q = WP V 72 134 ls st t I L R Q := wp_sw rfl (by decide) (by decide) (by decide) rfl
theorem i72_34s7  : WP V 72 34 ls (.int (nI 7) :: st) t I L R Q = WP V 72 142 ls st t I L R Q := wp_sw rfl (by decide) (by decide) (by decide) rfl
theorem i72_34s8  : WP V 72 34 ls (.int (nI 8) :: st) t I L R Q = WP V 72 150 ls st t I L R Q := wp_sw rfl (by decide) (by decide) (by decide) rfl
theorem i72_34s9  : WP V 72 34 ls (.int (nI 9) :: st) t I L R Q = WP V 72 173 ls st t I L R Q := wp_sw rfl (by decide) (by decide) (by decide) rfl
theorem i72_34sd {x : Int32} (h : x.toInt < 0 ∨ 9 < x.toInt) : WP V 72 34 ls (.int x :: st) t I L R Q = WP V 72 178 ls st t I L R Q := wp_swd rfl h
theorem i72_35 {w1 w2 w3 w4 w5 w6 w7 w8 : Value} {x : Nat} : WP V 72 35 [.ref x, w1, w2, w3, w4, w5, w6, w7, w8] st t I L R Q = WP V 72 36 [.ref x, w1, w2, w3, w4, w5, w6, w7, w8] (.ref x :: st) t I L R Q := wp_go rfl
theorem i72_36 {k : Nat} (h1 : k < t) (h2 : m_ob k 6 = true) : WP V 72 36 ls (.ref k :: st) t I L R Q = WP V 72 37 ls (m_rv (R k 1) :: st) t I L R Q := wp_getR rfl (by decide) h1 h2
theorem i72_37 {w0 w1 w2 w3 w4 w5 w6 w8 : Value} {x : Int32} : WP V 72 37 [w0, w1, w2, w3, w4, w5, w6, .int x, w8] st t I L R Q = WP V 72 38 [w0, w1, w2, w3, w4, w5, w6, .int x, w8] (.int x :: st) t I L R Q := wp_go rfl
theorem i72_38 {w0 w1 w2 w3 w5 w6 w7 w8 : Value} {x : Int32} : WP V 72 38 [w0, w1, w2, w3, .int x, w5, w6, w7, w8] st t I L R Q = WP V 72 39 [w0, w1, w2, w3, .int x, w5, w6, w7, w8] (.int x :: st) t I L R Q := wp_go rfl
theorem i72_39 {x y : Int32} : WP V 72 39 ls (.int y :: .int x :: st) t I L R Q = WP V 72 40 ls (.int (x + y) :: st) t I L R Q := wp_go rfl
theorem i72_40 {w0 w1 w2 w3 w4 w6 w7 w8 : Value} {x : Int32} : WP V 72 40 [w0, w1, w2, w3, w4, .int x, w6, w7, w8] st t I L R Q = WP V 72 41 [w0, w1, w2, w3, w4, .int x, w6, w7, w8] (.int x :: st) t I L R Q := wp_go rfl
theorem i72_41 {k j : Nat} {x : Int32} (h2 : m_ar k 2 581 = true) (h1 : k < t) (h3 : j < 581) : WP V 72 41 ls (.int x :: .int (nI j) :: .ref k :: st) t I L R Q = WP V 72 42 ls st t (m_sc I k (m_sc (I k) j x)) L R Q := wp_iastore rfl (by decide) h1 h2 h3
theorem i72_42  : WP V 72 42 ls st t I L R Q = WP V 72 43 ls (.int (nI 6) :: st) t I L R Q := wp_go rfl
theorem i72_43 {x : Int32} : WP V 72 43 ls [.int x] t I L R Q = Q (some (.int x)) t I L R := wp_rti rfl rfl
theorem i72_44 {w1 w2 w3 w4 w5 w6 w7 w8 : Value} {x : Nat} : WP V 72 44 [.ref x, w1, w2, w3, w4, w5, w6, w7, w8] st t I L R Q = WP V 72 45 [.ref x, w1, w2, w3, w4, w5, w6, w7, w8] (.ref x :: st) t I L R Q := wp_go rfl
theorem i72_45 {k : Nat} (h1 : k < t) (h2 : m_ob k 6 = true) : WP V 72 45 ls (.ref k :: st) t I L R Q = WP V 72 46 ls (m_rv (R k 1) :: st) t I L R Q := wp_getR rfl (by decide) h1 h2
theorem i72_46 {w0 w1 w2 w3 w4 w5 w6 w8 : Value} {x : Int32} : WP V 72 46 [w0, w1, w2, w3, w4, w5, w6, .int x, w8] st t I L R Q = WP V 72 47 [w0, w1, w2, w3, w4, w5, w6, .int x, w8] (.int x :: st) t I L R Q := wp_go rfl
theorem i72_47 {w0 w1 w2 w3 w5 w6 w7 w8 : Value} {x : Int32} : WP V 72 47 [w0, w1, w2, w3, .int x, w5, w6, w7, w8] st t I L R Q = WP V 72 48 [w0, w1, w2, w3, .int x, w5, w6, w7, w8] (.int x :: st) t I L R Q := wp_go rfl
theorem i72_48 {x y : Int32} : WP V 72 48 ls (.int y :: .int x :: st) t I L R Q = WP V 72 49 ls (.int (x + y) :: st) t I L R Q := wp_go rfl
theorem i72_49 {v0 : Int32} {v1 : Nat} : WP V 72 49 ls (.int v0 :: .ref v1 :: st) t I L R Q = WP V 72 50 ls (.int v0 :: .ref v1 :: .int v0 :: .ref v1 :: st) t I L R Q := wp_go rfl
theorem i72_50 {k j : Nat} (h2 : m_ar k 2 581 = true) (h1 : k < t) (h3 : j < 581) : WP V 72 50 ls (.int (nI j) :: .ref k :: st) t I L R Q = WP V 72 51 ls (.int (I k j) :: st) t I L R Q := wp_iaload rfl (by decide) h1 h2 h3
theorem i72_51 {w1 w2 w3 w4 w5 w6 w7 w8 : Value} {x : Nat} : WP V 72 51 [.ref x, w1, w2, w3, w4, w5, w6, w7, w8] st t I L R Q = WP V 72 52 [.ref x, w1, w2, w3, w4, w5, w6, w7, w8] (.ref x :: st) t I L R Q := wp_go rfl
theorem i72_52 {k : Nat} (h1 : k < t) (h2 : m_ob k 6 = true) : WP V 72 52 ls (.ref k :: st) t I L R Q = WP V 72 53 ls (m_rv (R k 1) :: st) t I L R Q := wp_getR rfl (by decide) h1 h2
theorem i72_53 {w0 w1 w2 w3 w4 w5 w6 w8 : Value} {x : Int32} : WP V 72 53 [w0, w1, w2, w3, w4, w5, w6, .int x, w8] st t I L R Q = WP V 72 54 [w0, w1, w2, w3, w4, w5, w6, .int x, w8] (.int x :: st) t I L R Q := wp_go rfl
theorem i72_54 {w0 w1 w2 w3 w4 w6 w7 w8 : Value} {x : Int32} : WP V 72 54 [w0, w1, w2, w3, w4, .int x, w6, w7, w8] st t I L R Q = WP V 72 55 [w0, w1, w2, w3, w4, .int x, w6, w7, w8] (.int x :: st) t I L R Q := wp_go rfl
theorem i72_55 {x y : Int32} : WP V 72 55 ls (.int y :: .int x :: st) t I L R Q = WP V 72 56 ls (.int (x + y) :: st) t I L R Q := wp_go rfl
theorem i72_56 {k j : Nat} (h2 : m_ar k 2 581 = true) (h1 : k < t) (h3 : j < 581) : WP V 72 56 ls (.int (nI j) :: .ref k :: st) t I L R Q = WP V 72 57 ls (.int (I k j) :: st) t I L R Q := wp_iaload rfl (by decide) h1 h2 h3
theorem i72_57 {x y : Int32} : WP V 72 57 ls (.int y :: .int x :: st) t I L R Q = WP V 72 58 ls (.int (x + y) :: st) t I L R Q := wp_go rfl
theorem i72_58 {k j : Nat} {x : Int32} (h2 : m_ar k 2 581 = true) (h1 : k < t) (h3 : j < 581) : WP V 72 58 ls (.int x :: .int (nI j) :: .ref k :: st) t I L R Q = WP V 72 59 ls st t (m_sc I k (m_sc (I k) j x)) L R Q := wp_iastore rfl (by decide) h1 h2 h3
theorem i72_59  : WP V 72 59 ls st t I L R Q = WP V 72 60 ls (.int (nI 6) :: st) t I L R Q := wp_go rfl
theorem i72_60 {x : Int32} : WP V 72 60 ls [.int x] t I L R Q = Q (some (.int x)) t I L R := wp_rti rfl rfl
theorem i72_61 {w1 w2 w3 w4 w5 w6 w7 w8 : Value} {x : Nat} : WP V 72 61 [.ref x, w1, w2, w3, w4, w5, w6, w7, w8] st t I L R Q = WP V 72 62 [.ref x, w1, w2, w3, w4, w5, w6, w7, w8] (.ref x :: st) t I L R Q := wp_go rfl
theorem i72_62 {k : Nat} (h1 : k < t) (h2 : m_ob k 6 = true) : WP V 72 62 ls (.ref k :: st) t I L R Q = WP V 72 63 ls (m_rv (R k 1) :: st) t I L R Q := wp_getR rfl (by decide) h1 h2
theorem i72_63 {w0 w1 w2 w3 w4 w5 w6 w8 : Value} {x : Int32} : WP V 72 63 [w0, w1, w2, w3, w4, w5, w6, .int x, w8] st t I L R Q = WP V 72 64 [w0, w1, w2, w3, w4, w5, w6, .int x, w8] (.int x :: st) t I L R Q := wp_go rfl
theorem i72_64 {w0 w1 w2 w3 w5 w6 w7 w8 : Value} {x : Int32} : WP V 72 64 [w0, w1, w2, w3, .int x, w5, w6, w7, w8] st t I L R Q = WP V 72 65 [w0, w1, w2, w3, .int x, w5, w6, w7, w8] (.int x :: st) t I L R Q := wp_go rfl
theorem i72_65 {x y : Int32} : WP V 72 65 ls (.int y :: .int x :: st) t I L R Q = WP V 72 66 ls (.int (x + y) :: st) t I L R Q := wp_go rfl
theorem i72_66 {v0 : Int32} {v1 : Nat} : WP V 72 66 ls (.int v0 :: .ref v1 :: st) t I L R Q = WP V 72 67 ls (.int v0 :: .ref v1 :: .int v0 :: .ref v1 :: st) t I L R Q := wp_go rfl
theorem i72_67 {k j : Nat} (h2 : m_ar k 2 581 = true) (h1 : k < t) (h3 : j < 581) : WP V 72 67 ls (.int (nI j) :: .ref k :: st) t I L R Q = WP V 72 68 ls (.int (I k j) :: st) t I L R Q := wp_iaload rfl (by decide) h1 h2 h3
theorem i72_68 {w1 w2 w3 w4 w5 w6 w7 w8 : Value} {x : Nat} : WP V 72 68 [.ref x, w1, w2, w3, w4, w5, w6, w7, w8] st t I L R Q = WP V 72 69 [.ref x, w1, w2, w3, w4, w5, w6, w7, w8] (.ref x :: st) t I L R Q := wp_go rfl
theorem i72_69 {k : Nat} (h1 : k < t) (h2 : m_ob k 6 = true) : WP V 72 69 ls (.ref k :: st) t I L R Q = WP V 72 70 ls (m_rv (R k 1) :: st) t I L R Q := wp_getR rfl (by decide) h1 h2
theorem i72_70 {w0 w1 w2 w3 w4 w5 w6 w8 : Value} {x : Int32} : WP V 72 70 [w0, w1, w2, w3, w4, w5, w6, .int x, w8] st t I L R Q = WP V 72 71 [w0, w1, w2, w3, w4, w5, w6, .int x, w8] (.int x :: st) t I L R Q := wp_go rfl
theorem i72_71 {w0 w1 w2 w3 w4 w6 w7 w8 : Value} {x : Int32} : WP V 72 71 [w0, w1, w2, w3, w4, .int x, w6, w7, w8] st t I L R Q = WP V 72 72 [w0, w1, w2, w3, w4, .int x, w6, w7, w8] (.int x :: st) t I L R Q := wp_go rfl
theorem i72_72 {x y : Int32} : WP V 72 72 ls (.int y :: .int x :: st) t I L R Q = WP V 72 73 ls (.int (x + y) :: st) t I L R Q := wp_go rfl
theorem i72_73 {k j : Nat} (h2 : m_ar k 2 581 = true) (h1 : k < t) (h3 : j < 581) : WP V 72 73 ls (.int (nI j) :: .ref k :: st) t I L R Q = WP V 72 74 ls (.int (I k j) :: st) t I L R Q := wp_iaload rfl (by decide) h1 h2 h3
theorem i72_74 {x y : Int32} : WP V 72 74 ls (.int y :: .int x :: st) t I L R Q = WP V 72 75 ls (.int (x - y) :: st) t I L R Q := wp_go rfl
theorem i72_75 {k j : Nat} {x : Int32} (h2 : m_ar k 2 581 = true) (h1 : k < t) (h3 : j < 581) : WP V 72 75 ls (.int x :: .int (nI j) :: .ref k :: st) t I L R Q = WP V 72 76 ls st t (m_sc I k (m_sc (I k) j x)) L R Q := wp_iastore rfl (by decide) h1 h2 h3
theorem i72_76  : WP V 72 76 ls st t I L R Q = WP V 72 77 ls (.int (nI 6) :: st) t I L R Q := wp_go rfl
theorem i72_77 {x : Int32} : WP V 72 77 ls [.int x] t I L R Q = Q (some (.int x)) t I L R := wp_rti rfl rfl
theorem i72_78 {w1 w2 w3 w4 w5 w6 w7 w8 : Value} {x : Nat} : WP V 72 78 [.ref x, w1, w2, w3, w4, w5, w6, w7, w8] st t I L R Q = WP V 72 79 [.ref x, w1, w2, w3, w4, w5, w6, w7, w8] (.ref x :: st) t I L R Q := wp_go rfl
theorem i72_79 {k : Nat} (h1 : k < t) (h2 : m_ob k 6 = true) : WP V 72 79 ls (.ref k :: st) t I L R Q = WP V 72 80 ls (m_rv (R k 1) :: st) t I L R Q := wp_getR rfl (by decide) h1 h2
theorem i72_80 {w0 w1 w2 w3 w4 w5 w6 w8 : Value} {x : Int32} : WP V 72 80 [w0, w1, w2, w3, w4, w5, w6, .int x, w8] st t I L R Q = WP V 72 81 [w0, w1, w2, w3, w4, w5, w6, .int x, w8] (.int x :: st) t I L R Q := wp_go rfl
theorem i72_81 {w0 w1 w2 w3 w4 w6 w7 w8 : Value} {x : Int32} : WP V 72 81 [w0, w1, w2, w3, w4, .int x, w6, w7, w8] st t I L R Q = WP V 72 82 [w0, w1, w2, w3, w4, .int x, w6, w7, w8] (.int x :: st) t I L R Q := wp_go rfl
theorem i72_82 {x y : Int32} : WP V 72 82 ls (.int y :: .int x :: st) t I L R Q = WP V 72 83 ls (.int (x + y) :: st) t I L R Q := wp_go rfl
theorem i72_83 {k j : Nat} (h2 : m_ar k 2 581 = true) (h1 : k < t) (h3 : j < 581) : WP V 72 83 ls (.int (nI j) :: .ref k :: st) t I L R Q = WP V 72 84 ls (.int (I k j) :: st) t I L R Q := wp_iaload rfl (by decide) h1 h2 h3
theorem i72_84 {x : Int32} : WP V 72 84 ls (.int x :: st) t I L R Q = if x = nI 0 then WP V 72 85 ls st t I L R Q else WP V 72 87 ls st t I L R Q := wp_brn (c := m_cc .ne x 0) rfl rfl
theorem i72_85  : WP V 72 85 ls st t I L R Q = WP V 72 86 ls (.int (nI 104) :: st) t I L R Q := wp_go rfl
theorem i72_86 {x : Int32} : WP V 72 86 ls [.int x] t I L R Q = Q (some (.int x)) t I L R := wp_rti rfl rfl
theorem i72_87 {w1 w2 w3 w4 w5 w6 w7 w8 : Value} {x : Nat} : WP V 72 87 [.ref x, w1, w2, w3, w4, w5, w6, w7, w8] st t I L R Q = WP V 72 88 [.ref x, w1, w2, w3, w4, w5, w6, w7, w8] (.ref x :: st) t I L R Q := wp_go rfl
theorem i72_88 {k : Nat} (h1 : k < t) (h2 : m_ob k 6 = true) : WP V 72 88 ls (.ref k :: st) t I L R Q = WP V 72 89 ls (m_rv (R k 1) :: st) t I L R Q := wp_getR rfl (by decide) h1 h2
theorem i72_89 {w0 w1 w2 w3 w4 w5 w6 w8 : Value} {x : Int32} : WP V 72 89 [w0, w1, w2, w3, w4, w5, w6, .int x, w8] st t I L R Q = WP V 72 90 [w0, w1, w2, w3, w4, w5, w6, .int x, w8] (.int x :: st) t I L R Q := wp_go rfl
theorem i72_90 {w0 w1 w2 w3 w5 w6 w7 w8 : Value} {x : Int32} : WP V 72 90 [w0, w1, w2, w3, .int x, w5, w6, w7, w8] st t I L R Q = WP V 72 91 [w0, w1, w2, w3, .int x, w5, w6, w7, w8] (.int x :: st) t I L R Q := wp_go rfl
theorem i72_91 {x y : Int32} : WP V 72 91 ls (.int y :: .int x :: st) t I L R Q = WP V 72 92 ls (.int (x + y) :: st) t I L R Q := wp_go rfl
theorem i72_92 {v0 : Int32} {v1 : Nat} : WP V 72 92 ls (.int v0 :: .ref v1 :: st) t I L R Q = WP V 72 93 ls (.int v0 :: .ref v1 :: .int v0 :: .ref v1 :: st) t I L R Q := wp_go rfl
theorem i72_93 {k j : Nat} (h2 : m_ar k 2 581 = true) (h1 : k < t) (h3 : j < 581) : WP V 72 93 ls (.int (nI j) :: .ref k :: st) t I L R Q = WP V 72 94 ls (.int (I k j) :: st) t I L R Q := wp_iaload rfl (by decide) h1 h2 h3
theorem i72_94 {w1 w2 w3 w4 w5 w6 w7 w8 : Value} {x : Nat} : WP V 72 94 [.ref x, w1, w2, w3, w4, w5, w6, w7, w8] st t I L R Q = WP V 72 95 [.ref x, w1, w2, w3, w4, w5, w6, w7, w8] (.ref x :: st) t I L R Q := wp_go rfl
theorem i72_95 {k : Nat} (h1 : k < t) (h2 : m_ob k 6 = true) : WP V 72 95 ls (.ref k :: st) t I L R Q = WP V 72 96 ls (m_rv (R k 1) :: st) t I L R Q := wp_getR rfl (by decide) h1 h2
theorem i72_96 {w0 w1 w2 w3 w4 w5 w6 w8 : Value} {x : Int32} : WP V 72 96 [w0, w1, w2, w3, w4, w5, w6, .int x, w8] st t I L R Q = WP V 72 97 [w0, w1, w2, w3, w4, w5, w6, .int x, w8] (.int x :: st) t I L R Q := wp_go rfl
theorem i72_97 {w0 w1 w2 w3 w4 w6 w7 w8 : Value} {x : Int32} : WP V 72 97 [w0, w1, w2, w3, w4, .int x, w6, w7, w8] st t I L R Q = WP V 72 98 [w0, w1, w2, w3, w4, .int x, w6, w7, w8] (.int x :: st) t I L R Q := wp_go rfl
theorem i72_98 {x y : Int32} : WP V 72 98 ls (.int y :: .int x :: st) t I L R Q = WP V 72 99 ls (.int (x + y) :: st) t I L R Q := wp_go rfl
theorem i72_99 {k j : Nat} (h2 : m_ar k 2 581 = true) (h1 : k < t) (h3 : j < 581) : WP V 72 99 ls (.int (nI j) :: .ref k :: st) t I L R Q = WP V 72 100 ls (.int (I k j) :: st) t I L R Q := wp_iaload rfl (by decide) h1 h2 h3
theorem i72_100 {x y : Int32} (h : ¬ y = 0) : WP V 72 100 ls (.int y :: .int x :: st) t I L R Q = WP V 72 101 ls (.int (x / y) :: st) t I L R Q := wp_idiv rfl h
theorem i72_101 {k j : Nat} {x : Int32} (h2 : m_ar k 2 581 = true) (h1 : k < t) (h3 : j < 581) : WP V 72 101 ls (.int x :: .int (nI j) :: .ref k :: st) t I L R Q = WP V 72 102 ls st t (m_sc I k (m_sc (I k) j x)) L R Q := wp_iastore rfl (by decide) h1 h2 h3
theorem i72_102  : WP V 72 102 ls st t I L R Q = WP V 72 103 ls (.int (nI 6) :: st) t I L R Q := wp_go rfl
theorem i72_103 {x : Int32} : WP V 72 103 ls [.int x] t I L R Q = Q (some (.int x)) t I L R := wp_rti rfl rfl
theorem i72_104 {w1 w2 w3 w4 w5 w6 w7 w8 : Value} {x : Nat} : WP V 72 104 [.ref x, w1, w2, w3, w4, w5, w6, w7, w8] st t I L R Q = WP V 72 105 [.ref x, w1, w2, w3, w4, w5, w6, w7, w8] (.ref x :: st) t I L R Q := wp_go rfl
theorem i72_105 {k : Nat} (h1 : k < t) (h2 : m_ob k 6 = true) : WP V 72 105 ls (.ref k :: st) t I L R Q = WP V 72 106 ls (m_rv (R k 2) :: st) t I L R Q := wp_getR rfl (by decide) h1 h2
theorem i72_106 {w0 w2 w3 w4 w5 w6 w7 w8 : Value} {x : Int32} : WP V 72 106 [w0, .int x, w2, w3, w4, w5, w6, w7, w8] st t I L R Q = WP V 72 107 [w0, .int x, w2, w3, w4, w5, w6, w7, w8] (.int x :: st) t I L R Q := wp_go rfl
theorem i72_107 {w0 w1 w2 w3 w4 w6 w7 w8 : Value} {x : Int32} : WP V 72 107 [w0, w1, w2, w3, w4, .int x, w6, w7, w8] st t I L R Q = WP V 72 108 [w0, w1, w2, w3, w4, .int x, w6, w7, w8] (.int x :: st) t I L R Q := wp_go rfl
theorem i72_108 {x0 : Int32} {x1 : Int32} {x2 : Nat}  (h1 : x2 < t) (h2 : m_ob x2 1 = true) : WP V 72 108 ls [.int x0, .int x1, .ref x2] t I L R Q = WPC V 11 [.ref x2, .int x1, .int x0] 72 109 ls [] t I L R Q := wp_cls (wp_icv rfl rfl h1 h2) (by decide) (Nat.le_of_ble_eq_true rfl) rfl rfl (Nat.le_of_ble_eq_true rfl) (Nat.le_of_ble_eq_true rfl)
theorem i72_109 {p : Int32} {w0 w1 w2 w3 w4 w5 w6 w8 : Value} {x : Int32} : WP V 72 109 [w0, w1, w2, w3, w4, w5, w6, .int p, w8] (.int x :: st) t I L R Q = WP V 72 110 [w0, w1, w2, w3, w4, w5, w6, .int p, .int x] st t I L R Q := wp_go rfl
theorem i72_110 {w0 w1 w2 w3 w4 w5 w6 w7 : Value} {x : Int32} : WP V 72 110 [w0, w1, w2, w3, w4, w5, w6, w7, .int x] st t I L R Q = WP V 72 111 [w0, w1, w2, w3, w4, w5, w6, w7, .int x] (.int x :: st) t I L R Q := wp_go rfl
theorem i72_111  : WP V 72 111 ls st t I L R Q = WP V 72 112 ls (.int (nI 6) :: st) t I L R Q := wp_go rfl
theorem i72_112 {x y : Int32} : WP V 72 112 ls (.int y :: .int x :: st) t I L R Q = if x = y then WP V 72 113 ls st t I L R Q else WP V 72 119 ls st t I L R Q := wp_brn (c := m_cc .ne x y) rfl rfl
theorem i72_113 {w1 w2 w3 w4 w5 w6 w7 w8 : Value} {x : Nat} : WP V 72 113 [.ref x, w1, w2, w3, w4, w5, w6, w7, w8] st t I L R Q = WP V 72 114 [.ref x, w1, w2, w3, w4, w5, w6, w7, w8] (.ref x :: st) t I L R Q := wp_go rfl
theorem i72_114 {w0 w1 w2 w3 w4 w5 w6 w8 : Value} {x : Int32} : WP V 72 114 [w0, w1, w2, w3, w4, w5, w6, .int x, w8] st t I L R Q = WP V 72 115 [w0, w1, w2, w3, w4, w5, w6, .int x, w8] (.int x :: st) t I L R Q := wp_go rfl
theorem i72_115 {w0 w1 w2 w3 w5 w6 w7 w8 : Value} {x : Int32} : WP V 72 115 [w0, w1, w2, w3, .int x, w5, w6, w7, w8] st t I L R Q = WP V 72 116 [w0, w1, w2, w3, .int x, w5, w6, w7, w8] (.int x :: st) t I L R Q := wp_go rfl
theorem i72_116 {x y : Int32} : WP V 72 116 ls (.int y :: .int x :: st) t I L R Q = WP V 72 117 ls (.int (x + y) :: st) t I L R Q := wp_go rfl
theorem i72_117 {x0 : Int32} {x1 : Nat}  (h1 : x1 < t) (h2 : m_ob x1 6 = true) : WP V 72 117 ls [.int x0, .ref x1] t I L R Q = WPC V 75 [.ref x1, .int x0] 72 118 ls [] t I L R Q := wp_cls (wp_icv rfl rfl h1 h2) (by decide) (Nat.le_of_ble_eq_true rfl) rfl rfl (Nat.le_of_ble_eq_true rfl) (Nat.le_of_ble_eq_true rfl)
theorem i72_118  : WP V 72 118 ls st t I L R Q = WP V 72 120 ls st t I L R Q := wp_go rfl
theorem i72_119 {w0 w1 w2 w3 w4 w5 w6 w7 : Value} {x : Int32} : WP V 72 119 [w0, w1, w2, w3, w4, w5, w6, w7, .int x] st t I L R Q = WP V 72 120 [w0, w1, w2, w3, w4, w5, w6, w7, .int x] (.int x :: st) t I L R Q := wp_go rfl
theorem i72_120 {x : Int32} : WP V 72 120 ls [.int x] t I L R Q = Q (some (.int x)) t I L R := wp_rti rfl rfl
theorem i72_121 {w1 w2 w3 w4 w5 w6 w7 w8 : Value} {x : Nat} : WP V 72 121 [.ref x, w1, w2, w3, w4, w5, w6, w7, w8] st t I L R Q = WP V 72 122 [.ref x, w1, w2, w3, w4, w5, w6, w7, w8] (.ref x :: st) t I L R Q := wp_go rfl
theorem i72_122 {k : Nat} (h1 : k < t) (h2 : m_ob k 6 = true) : WP V 72 122 ls (.ref k :: st) t I L R Q = WP V 72 123 ls (m_rv (R k 2) :: st) t I L R Q := wp_getR rfl (by decide) h1 h2
theorem i72_123 {w0 w2 w3 w4 w5 w6 w7 w8 : Value} {x : Int32} : WP V 72 123 [w0, .int x, w2, w3, w4, w5, w6, w7, w8] st t I L R Q = WP V 72 124 [w0, .int x, w2, w3, w4, w5, w6, w7, w8] (.int x :: st) t I L R Q := wp_go rfl
theorem i72_124 {w0 w1 w2 w3 w5 w6 w7 w8 : Value} {x : Int32} : WP V 72 124 [w0, w1, w2, w3, .int x, w5, w6, w7, w8] st t I L R Q = WP V 72 125 [w0, w1, w2, w3, .int x, w5, w6, w7, w8] (.int x :: st) t I L R Q := wp_go rfl
theorem i72_125  : WP V 72 125 ls st t I L R Q = WP V 72 126 ls (.int (nI 1) :: st) t I L R Q := wp_go rfl
theorem i72_126 {w1 w2 w3 w4 w5 w6 w7 w8 : Value} {x : Nat} : WP V 72 126 [.ref x, w1, w2, w3, w4, w5, w6, w7, w8] st t I L R Q = WP V 72 127 [.ref x, w1, w2, w3, w4, w5, w6, w7, w8] (.ref x :: st) t I L R Q := wp_go rfl
theorem i72_127 {k : Nat} (h1 : k < t) (h2 : m_ob k 6 = true) : WP V 72 127 ls (.ref k :: st) t I L R Q = WP V 72 128 ls (m_rv (R k 1) :: st) t I L R Q := wp_getR rfl (by decide) h1 h2
theorem i72_128 {w0 w1 w2 w3 w4 w5 w6 w8 : Value} {x : Int32} : WP V 72 128 [w0, w1, w2, w3, w4, w5, w6, .int x, w8] st t I L R Q = WP V 72 129 [w0, w1, w2, w3, w4, w5, w6, .int x, w8] (.int x :: st) t I L R Q := wp_go rfl
theorem i72_129 {w0 w1 w2 w3 w4 w6 w7 w8 : Value} {x : Int32} : WP V 72 129 [w0, w1, w2, w3, w4, .int x, w6, w7, w8] st t I L R Q = WP V 72 130 [w0, w1, w2, w3, w4, .int x, w6, w7, w8] (.int x :: st) t I L R Q := wp_go rfl
theorem i72_130 {x y : Int32} : WP V 72 130 ls (.int y :: .int x :: st) t I L R Q = WP V 72 131 ls (.int (x + y) :: st) t I L R Q := wp_go rfl
theorem i72_131 {k j : Nat} (h2 : m_ar k 2 581 = true) (h1 : k < t) (h3 : j < 581) : WP V 72 131 ls (.int (nI j) :: .ref k :: st) t I L R Q = WP V 72 132 ls (.int (I k j) :: st) t I L R Q := wp_iaload rfl (by decide) h1 h2 h3
theorem i72_132 {x0 : Int32} {x1 : Int32} {x2 : Int32} {x3 : Int32} {x4 : Nat}  (h1 : x4 < t) (h2 : m_ob x4 1 = true) : WP V 72 132 ls [.int x0, .int x1, .int x2, .int x3, .ref x4] t I L R Q = WPC V 20 [.ref x4, .int x3, .int x2, .int x1, .int x0] 72 133 ls [] t I L R Q := wp_cls (wp_icv rfl rfl h1 h2) (by decide) (Nat.le_of_ble_eq_true rfl) rfl rfl (Nat.le_of_ble_eq_true rfl) (Nat.le_of_ble_eq_true rfl)
theorem i72_133 {x : Int32} : WP V 72 133 ls [.int x] t I L R Q = Q (some (.int x)) t I L R := wp_rti rfl rfl
theorem i72_134 {w1 w2 w3 w4 w5 w6 w7 w8 : Value} {x : Nat} : WP V 72 134 [.ref x, w1, w2, w3, w4, w5, w6, w7, w8] st t I L R Q = WP V 72 135 [.ref x, w1, w2, w3, w4, w5, w6, w7, w8] (.ref x :: st) t I L R Q := wp_go rfl
theorem i72_135 {k : Nat} (h1 : k < t) (h2 : m_ob k 6 = true) : WP V 72 135 ls (.ref k :: st) t I L R Q = WP V 72 136 ls (m_rv (R k 2) :: st) t I L R Q := wp_getR rfl (by decide) h1 h2
theorem i72_136 {w0 w2 w3 w4 w5 w6 w7 w8 : Value} {x : Int32} : WP V 72 136 [w0, .int x, w2, w3, w4, w5, w6, w7, w8] st t I L R Q = WP V 72 137 [w0, .int x, w2, w3, w4, w5, w6, w7, w8] (.int x :: st) t I L R Q := wp_go rfl
theorem i72_137 {w0 w1 w2 w3 w5 w6 w7 w8 : Value} {x : Int32} : WP V 72 137 [w0, w1, w2, w3, .int x, w5, w6, w7, w8] st t I L R Q = WP V 72 138 [w0, w1, w2, w3, .int x, w5, w6, w7, w8] (.int x :: st) t I L R Q := wp_go rfl
theorem i72_138  : WP V 72 138 ls st t I L R Q = WP V 72 139 ls (.int (nI 2) :: st) t I L R Q := wp_go rfl
theorem i72_139 {w0 w1 w2 w3 w4 w6 w7 w8 : Value} {x : Int32} : WP V 72 139 [w0, w1, w2, w3, w4, .int x, w6, w7, w8] st t I L R Q = WP V 72 140 [w0, w1, w2, w3, w4, .int x, w6, w7, w8] (.int x :: st) t I L R Q := wp_go rfl
theorem i72_140 {x0 : Int32} {x1 : Int32} {x2 : Int32} {x3 : Int32} {x4 : Nat}  (h1 : x4 < t) (h2 : m_ob x4 1 = true) : WP V 72 140 ls [.int x0, .int x1, .int x2, .int x3, .ref x4] t I L R Q = WPC V 20 [.ref x4, .int x3, .int x2, .int x1, .int x0] 72 141 ls [] t I L R Q := wp_cls (wp_icv rfl rfl h1 h2) (by decide) (Nat.le_of_ble_eq_true rfl) rfl rfl (Nat.le_of_ble_eq_true rfl) (Nat.le_of_ble_eq_true rfl)
theorem i72_141 {x : Int32} : WP V 72 141 ls [.int x] t I L R Q = Q (some (.int x)) t I L R := wp_rti rfl rfl
theorem i72_142 {w1 w2 w3 w4 w5 w6 w7 w8 : Value} {x : Nat} : WP V 72 142 [.ref x, w1, w2, w3, w4, w5, w6, w7, w8] st t I L R Q = WP V 72 143 [.ref x, w1, w2, w3, w4, w5, w6, w7, w8] (.ref x :: st) t I L R Q := wp_go rfl
theorem i72_143 {k : Nat} (h1 : k < t) (h2 : m_ob k 6 = true) : WP V 72 143 ls (.ref k :: st) t I L R Q = WP V 72 144 ls (m_rv (R k 2) :: st) t I L R Q := wp_getR rfl (by decide) h1 h2
theorem i72_144 {w0 w2 w3 w4 w5 w6 w7 w8 : Value} {x : Int32} : WP V 72 144 [w0, .int x, w2, w3, w4, w5, w6, w7, w8] st t I L R Q = WP V 72 145 [w0, .int x, w2, w3, w4, w5, w6, w7, w8] (.int x :: st) t I L R Q := wp_go rfl
theorem i72_145 {w0 w1 w2 w3 w5 w6 w7 w8 : Value} {x : Int32} : WP V 72 145 [w0, w1, w2, w3, .int x, w5, w6, w7, w8] st t I L R Q = WP V 72 146 [w0, w1, w2, w3, .int x, w5, w6, w7, w8] (.int x :: st) t I L R Q := wp_go rfl
theorem i72_146  : WP V 72 146 ls st t I L R Q = WP V 72 147 ls (.int (nI 0) :: st) t I L R Q := wp_go rfl
theorem i72_147  : WP V 72 147 ls st t I L R Q = WP V 72 148 ls (.int (nI 0) :: st) t I L R Q := wp_go rfl
theorem i72_148 {x0 : Int32} {x1 : Int32} {x2 : Int32} {x3 : Int32} {x4 : Nat}  (h1 : x4 < t) (h2 : m_ob x4 1 = true) : WP V 72 148 ls [.int x0, .int x1, .int x2, .int x3, .ref x4] t I L R Q = WPC V 20 [.ref x4, .int x3, .int x2, .int x1, .int x0] 72 149 ls [] t I L R Q := wp_cls (wp_icv rfl rfl h1 h2) (by decide) (Nat.le_of_ble_eq_true rfl) rfl rfl (Nat.le_of_ble_eq_true rfl) (Nat.le_of_ble_eq_true rfl)
theorem i72_149 {x : Int32} : WP V 72 149 ls [.int x] t I L R Q = Q (some (.int x)) t I L R := wp_rti rfl rfl
theorem i72_150 {w1 w2 w3 w4 w5 w6 w7 w8 : Value} {x : Nat} : WP V 72 150 [.ref x, w1, w2, w3, w4, w5, w6, w7, w8] st t I L R Q = WP V 72 151 [.ref x, w1, w2, w3, w4, w5, w6, w7, w8] (.ref x :: st) t I L R Q := wp_go rfl
theorem i72_151 {k : Nat} (h1 : k < t) (h2 : m_ob k 6 = true) : WP V 72 151 ls (.ref k :: st) t I L R Q = WP V 72 152 ls (m_rv (R k 2) :: st) t I L R Q := wp_getR rfl (by decide) h1 h2
theorem i72_152 {w0 w2 w3 w4 w5 w6 w7 w8 : Value} {x : Int32} : WP V 72 152 [w0, .int x, w2, w3, w4, w5, w6, w7, w8] st t I L R Q = WP V 72 153 [w0, .int x, w2, w3, w4, w5, w6, w7, w8] (.int x :: st) t I L R Q := wp_go rfl
theorem i72_153 {w0 w1 w2 w3 w4 w6 w7 w8 : Value} {x : Int32} : WP V 72 153 [w0, w1, w2, w3, w4, .int x, w6, w7, w8] st t I L R Q = WP V 72 154 [w0, w1, w2, w3, w4, .int x, w6, w7, w8] (.int x :: st) t I L R Q := wp_go rfl
theorem i72_154 {x0 : Int32} {x1 : Int32} {x2 : Nat}  (h1 : x2 < t) (h2 : m_ob x2 1 = true) : WP V 72 154 ls [.int x0, .int x1, .ref x2] t I L R Q = WPC V 11 [.ref x2, .int x1, .int x0] 72 155 ls [] t I L R Q := wp_cls (wp_icv rfl rfl h1 h2) (by decide) (Nat.le_of_ble_eq_true rfl) rfl rfl (Nat.le_of_ble_eq_true rfl) (Nat.le_of_ble_eq_true rfl)
theorem i72_155 {p : Int32} {w0 w1 w2 w3 w4 w5 w6 w8 : Value} {x : Int32} : WP V 72 155 [w0, w1, w2, w3, w4, w5, w6, .int p, w8] (.int x :: st) t I L R Q = WP V 72 156 [w0, w1, w2, w3, w4, w5, w6, .int p, .int x] st t I L R Q := wp_go rfl
theorem i72_156 {w0 w1 w2 w3 w4 w5 w6 w7 : Value} {x : Int32} : WP V 72 156 [w0, w1, w2, w3, w4, w5, w6, w7, .int x] st t I L R Q = WP V 72 157 [w0, w1, w2, w3, w4, w5, w6, w7, .int x] (.int x :: st) t I L R Q := wp_go rfl
theorem i72_157  : WP V 72 157 ls st t I L R Q = WP V 72 158 ls (.int (nI 6) :: st) t I L R Q := wp_go rfl
theorem i72_158 {x y : Int32} : WP V 72 158 ls (.int y :: .int x :: st) t I L R Q = if x = y then WP V 72 159 ls st t I L R Q else WP V 72 171 ls st t I L R Q := wp_brn (c := m_cc .ne x y) rfl rfl
theorem i72_159 {w1 w2 w3 w4 w5 w6 w7 w8 : Value} {x : Nat} : WP V 72 159 [.ref x, w1, w2, w3, w4, w5, w6, w7, w8] st t I L R Q = WP V 72 160 [.ref x, w1, w2, w3, w4, w5, w6, w7, w8] (.ref x :: st) t I L R Q := wp_go rfl
theorem i72_160 {w0 w1 w2 w3 w4 w5 w6 w8 : Value} {x : Int32} : WP V 72 160 [w0, w1, w2, w3, w4, w5, w6, .int x, w8] st t I L R Q = WP V 72 161 [w0, w1, w2, w3, w4, w5, w6, .int x, w8] (.int x :: st) t I L R Q := wp_go rfl
theorem i72_161 {w0 w1 w2 w3 w5 w6 w7 w8 : Value} {x : Int32} : WP V 72 161 [w0, w1, w2, w3, .int x, w5, w6, w7, w8] st t I L R Q = WP V 72 162 [w0, w1, w2, w3, .int x, w5, w6, w7, w8] (.int x :: st) t I L R Q := wp_go rfl
theorem i72_162 {x y : Int32} : WP V 72 162 ls (.int y :: .int x :: st) t I L R Q = WP V 72 163 ls (.int (x + y) :: st) t I L R Q := wp_go rfl
theorem i72_163 {w1 w2 w3 w4 w5 w6 w7 w8 : Value} {x : Nat} : WP V 72 163 [.ref x, w1, w2, w3, w4, w5, w6, w7, w8] st t I L R Q = WP V 72 164 [.ref x, w1, w2, w3, w4, w5, w6, w7, w8] (.ref x :: st) t I L R Q := wp_go rfl
theorem i72_164 {k : Nat} (h1 : k < t) (h2 : m_ob k 6 = true) : WP V 72 164 ls (.ref k :: st) t I L R Q = WP V 72 165 ls (m_rv (R k 1) :: st) t I L R Q := wp_getR rfl (by decide) h1 h2
theorem i72_165 {w0 w1 w2 w3 w4 w5 w6 w8 : Value} {x : Int32} : WP V 72 165 [w0, w1, w2, w3, w4, w5, w6, .int x, w8] st t I L R Q = WP V 72 166 [w0, w1, w2, w3, w4, w5, w6, .int x, w8] (.int x :: st) t I L R Q := wp_go rfl
theorem i72_166 {w0 w1 w2 w3 w4 w5 w7 w8 : Value} {x : Int32} : WP V 72 166 [w0, w1, w2, w3, w4, w5, .int x, w7, w8] st t I L R Q = WP V 72 167 [w0, w1, w2, w3, w4, w5, .int x, w7, w8] (.int x :: st) t I L R Q := wp_go rfl
theorem i72_167 {x y : Int32} : WP V 72 167 ls (.int y :: .int x :: st) t I L R Q = WP V 72 168 ls (.int (x + y) :: st) t I L R Q := wp_go rfl
theorem i72_168 {k j : Nat} (h2 : m_ar k 2 581 = true) (h1 : k < t) (h3 : j < 581) : WP V 72 168 ls (.int (nI j) :: .ref k :: st) t I L R Q = WP V 72 169 ls (.int (I k j) :: st) t I L R Q := wp_iaload rfl (by decide) h1 h2 h3
theorem i72_169 {x0 : Int32} {x1 : Int32} {x2 : Nat}  (h1 : x2 < t) (h2 : m_ob x2 6 = true) : WP V 72 169 ls [.int x0, .int x1, .ref x2] t I L R Q = WPC V 76 [.ref x2, .int x1, .int x0] 72 170 ls [] t I L R Q := wp_cls (wp_icv rfl rfl h1 h2) (by decide) (Nat.le_of_ble_eq_true rfl) rfl rfl (Nat.le_of_ble_eq_true rfl) (Nat.le_of_ble_eq_true rfl)
theorem i72_170  : WP V 72 170 ls st t I L R Q = WP V 72 172 ls st t I L R Q := wp_go rfl
theorem i72_171 {w0 w1 w2 w3 w4 w5 w6 w7 : Value} {x : Int32} : WP V 72 171 [w0, w1, w2, w3, w4, w5, w6, w7, .int x] st t I L R Q = WP V 72 172 [w0, w1, w2, w3, w4, w5, w6, w7, .int x] (.int x :: st) t I L R Q := wp_go rfl
theorem i72_172 {x : Int32} : WP V 72 172 ls [.int x] t I L R Q = Q (some (.int x)) t I L R := wp_rti rfl rfl
theorem i72_173 {w1 w2 w3 w4 w5 w6 w7 w8 : Value} {x : Nat} : WP V 72 173 [.ref x, w1, w2, w3, w4, w5, w6, w7, w8] st t I L R Q = WP V 72 174 [.ref x, w1, w2, w3, w4, w5, w6, w7, w8] (.ref x :: st) t I L R Q := wp_go rfl
theorem i72_174 {w0 w2 w3 w4 w5 w6 w7 w8 : Value} {x : Int32} : WP V 72 174 [w0, .int x, w2, w3, w4, w5, w6, w7, w8] st t I L R Q = WP V 72 175 [w0, .int x, w2, w3, w4, w5, w6, w7, w8] (.int x :: st) t I L R Q := wp_go rfl
theorem i72_175 {w0 w1 w2 w3 w5 w6 w7 w8 : Value} {x : Int32} : WP V 72 175 [w0, w1, w2, w3, .int x, w5, w6, w7, w8] st t I L R Q = WP V 72 176 [w0, w1, w2, w3, .int x, w5, w6, w7, w8] (.int x :: st) t I L R Q := wp_go rfl
theorem i72_176 {x0 : Int32} {x1 : Int32} {x2 : Nat}  (h1 : x2 < t) (h2 : m_ob x2 6 = true) : WP V 72 176 ls [.int x0, .int x1, .ref x2] t I L R Q = WPC V 74 [.ref x2, .int x1, .int x0] 72 177 ls [] t I L R Q := wp_cls (wp_icv rfl rfl h1 h2) (by decide) (Nat.le_of_ble_eq_true rfl) rfl rfl (Nat.le_of_ble_eq_true rfl) (Nat.le_of_ble_eq_true rfl)
theorem i72_177 {x : Int32} : WP V 72 177 ls [.int x] t I L R Q = Q (some (.int x)) t I L R := wp_rti rfl rfl
theorem i72_178 {w1 w2 w3 w4 w5 w6 w7 w8 : Value} {x : Nat} : WP V 72 178 [.ref x, w1, w2, w3, w4, w5, w6, w7, w8] st t I L R Q = WP V 72 179 [.ref x, w1, w2, w3, w4, w5, w6, w7, w8] (.ref x :: st) t I L R Q := wp_go rfl
theorem i72_179 {k : Nat} (h1 : k < t) (h2 : m_ob k 6 = true) : WP V 72 179 ls (.ref k :: st) t I L R Q = WP V 72 180 ls (m_rv (R k 1) :: st) t I L R Q := wp_getR rfl (by decide) h1 h2
theorem i72_180 {w0 w1 w2 w3 w4 w5 w6 w8 : Value} {x : Int32} : WP V 72 180 [w0, w1, w2, w3, w4, w5, w6, .int x, w8] st t I L R Q = WP V 72 181 [w0, w1, w2, w3, w4, w5, w6, .int x, w8] (.int x :: st) t I L R Q := wp_go rfl
theorem i72_181 {w0 w1 w2 w3 w5 w6 w7 w8 : Value} {x : Int32} : WP V 72 181 [w0, w1, w2, w3, .int x, w5, w6, w7, w8] st t I L R Q = WP V 72 182 [w0, w1, w2, w3, .int x, w5, w6, w7, w8] (.int x :: st) t I L R Q := wp_go rfl
theorem i72_182 {x y : Int32} : WP V 72 182 ls (.int y :: .int x :: st) t I L R Q = WP V 72 183 ls (.int (x + y) :: st) t I L R Q := wp_go rfl
theorem i72_183 {k j : Nat} (h2 : m_ar k 2 581 = true) (h1 : k < t) (h3 : j < 581) : WP V 72 183 ls (.int (nI j) :: .ref k :: st) t I L R Q = WP V 72 184 ls (.int (I k j) :: st) t I L R Q := wp_iaload rfl (by decide) h1 h2 h3
theorem i72_184 {x : Int32} : WP V 72 184 ls (.int x :: st) t I L R Q = if x = nI 0 then WP V 72 185 ls st t I L R Q else WP V 72 190 ls st t I L R Q := wp_brn (c := m_cc .ne x 0) rfl rfl
theorem i72_185 {w1 w2 w3 w4 w5 w6 w7 w8 : Value} {x : Nat} : WP V 72 185 [.ref x, w1, w2, w3, w4, w5, w6, w7, w8] st t I L R Q = WP V 72 186 [.ref x, w1, w2, w3, w4, w5, w6, w7, w8] (.ref x :: st) t I L R Q := wp_go rfl
theorem i72_186 {w0 w2 w3 w4 w5 w6 w7 w8 : Value} {x : Int32} : WP V 72 186 [w0, .int x, w2, w3, w4, w5, w6, w7, w8] st t I L R Q = WP V 72 187 [w0, .int x, w2, w3, w4, w5, w6, w7, w8] (.int x :: st) t I L R Q := wp_go rfl
theorem i72_187 {w0 w1 w2 w3 w4 w6 w7 w8 : Value} {x : Int32} : WP V 72 187 [w0, w1, w2, w3, w4, .int x, w6, w7, w8] st t I L R Q = WP V 72 188 [w0, w1, w2, w3, w4, .int x, w6, w7, w8] (.int x :: st) t I L R Q := wp_go rfl
theorem i72_188 {x0 : Int32} {x1 : Int32} {x2 : Nat}  (h1 : x2 < t) (h2 : m_ob x2 6 = true) : WP V 72 188 ls [.int x0, .int x1, .ref x2] t I L R Q = WPC V 74 [.ref x2, .int x1, .int x0] 72 189 ls [] t I L R Q := wp_cls (wp_icv rfl rfl h1 h2) (by decide) (Nat.le_of_ble_eq_true rfl) rfl rfl (Nat.le_of_ble_eq_true rfl) (Nat.le_of_ble_eq_true rfl)
theorem i72_189  : WP V 72 189 ls st t I L R Q = WP V 72 191 ls st t I L R Q := wp_go rfl
theorem i72_190  : WP V 72 190 ls st t I L R Q = WP V 72 191 ls (.int (nI 6) :: st) t I L R Q := wp_go rfl
theorem i72_191 {x : Int32} : WP V 72 191 ls [.int x] t I L R Q = Q (some (.int x)) t I L R := wp_rti rfl rfl
-- TransactionCells$Steps.doBound(II)I
theorem i73_0 {w1 w2 w3 w4 w5 w6 w7 : Value} {x : Nat} : WP V 73 0 [.ref x, w1, w2, w3, w4, w5, w6, w7] st t I L R Q = WP V 73 1 [.ref x, w1, w2, w3, w4, w5, w6, w7] (.ref x :: st) t I L R Q := wp_go rfl
theorem i73_1 {k : Nat} (h1 : k < t) (h2 : m_ob k 6 = true) : WP V 73 1 ls (.ref k :: st) t I L R Q = WP V 73 2 ls (m_rv (R k 0) :: st) t I L R Q := wp_getR rfl (by decide) h1 h2
theorem i73_2 {k : Nat} (h1 : k < t) (h2 : m_ob k 3 = true) : WP V 73 2 ls (.ref k :: st) t I L R Q = WP V 73 3 ls (m_rv (R k 1) :: st) t I L R Q := wp_getR rfl (by decide) h1 h2
theorem i73_3 {k : Nat} (h1 : k < t) (h2 : m_ob k 0 = true) : WP V 73 3 ls (.ref k :: st) t I L R Q = WP V 73 4 ls (m_rv (R k 0) :: st) t I L R Q := wp_getR rfl (by decide) h1 h2
theorem i73_4 {p : Int32} {w0 w1 w3 w4 w5 w6 w7 : Value} {x : Nat} : WP V 73 4 [w0, w1, .int p, w3, w4, w5, w6, w7] (.ref x :: st) t I L R Q = WP V 73 5 [w0, w1, .int p, .ref x, w4, w5, w6, w7] st t I L R Q := wp_go rfl
theorem i73_5 {w0 w1 w2 w4 w5 w6 w7 : Value} {x : Nat} : WP V 73 5 [w0, w1, w2, .ref x, w4, w5, w6, w7] st t I L R Q = WP V 73 6 [w0, w1, w2, .ref x, w4, w5, w6, w7] (.ref x :: st) t I L R Q := wp_go rfl
theorem i73_6 {w0 w1 w3 w4 w5 w6 w7 : Value} {x : Int32} : WP V 73 6 [w0, w1, .int x, w3, w4, w5, w6, w7] st t I L R Q = WP V 73 7 [w0, w1, .int x, w3, w4, w5, w6, w7] (.int x :: st) t I L R Q := wp_go rfl
theorem i73_7  : WP V 73 7 ls st t I L R Q = WP V 73 8 ls (.int (nI 1) :: st) t I L R Q := wp_go rfl
theorem i73_8 {x y : Int32} : WP V 73 8 ls (.int y :: .int x :: st) t I L R Q = WP V 73 9 ls (.int (x + y) :: st) t I L R Q := wp_go rfl
theorem i73_9 {k j : Nat} (h2 : m_ar k 2 960 = true) (h1 : k < t) (h3 : j < 960) : WP V 73 9 ls (.int (nI j) :: .ref k :: st) t I L R Q = WP V 73 10 ls (.int (I k j) :: st) t I L R Q := wp_iaload rfl (by decide) h1 h2 h3
theorem i73_10 {p : Nat} {w0 w1 w2 w4 w5 w6 w7 : Value} {x : Int32} : WP V 73 10 [w0, w1, w2, .ref p, w4, w5, w6, w7] (.int x :: st) t I L R Q = WP V 73 11 [w0, w1, w2, .ref p, .int x, w5, w6, w7] st t I L R Q := wp_go rfl
theorem i73_11 {w0 w1 w2 w4 w5 w6 w7 : Value} {x : Nat} : WP V 73 11 [w0, w1, w2, .ref x, w4, w5, w6, w7] st t I L R Q = WP V 73 12 [w0, w1, w2, .ref x, w4, w5, w6, w7] (.ref x :: st) t I L R Q := wp_go rfl
theorem i73_12 {w0 w1 w3 w4 w5 w6 w7 : Value} {x : Int32} : WP V 73 12 [w0, w1, .int x, w3, w4, w5, w6, w7] st t I L R Q = WP V 73 13 [w0, w1, .int x, w3, w4, w5, w6, w7] (.int x :: st) t I L R Q := wp_go rfl
theorem i73_13  : WP V 73 13 ls st t I L R Q = WP V 73 14 ls (.int (nI 2) :: st) t I L R Q := wp_go rfl
theorem i73_14 {x y : Int32} : WP V 73 14 ls (.int y :: .int x :: st) t I L R Q = WP V 73 15 ls (.int (x + y) :: st) t I L R Q := wp_go rfl
theorem i73_15 {k j : Nat} (h2 : m_ar k 2 960 = true) (h1 : k < t) (h3 : j < 960) : WP V 73 15 ls (.int (nI j) :: .ref k :: st) t I L R Q = WP V 73 16 ls (.int (I k j) :: st) t I L R Q := wp_iaload rfl (by decide) h1 h2 h3
theorem i73_16 {p : Int32} {w0 w1 w2 w3 w5 w6 w7 : Value} {x : Int32} : WP V 73 16 [w0, w1, w2, w3, .int p, w5, w6, w7] (.int x :: st) t I L R Q = WP V 73 17 [w0, w1, w2, w3, .int p, .int x, w6, w7] st t I L R Q := wp_go rfl
theorem i73_17  : WP V 73 17 ls st t I L R Q = WP V 73 18 ls (.int (nI 21) :: st) t I L R Q := wp_go rfl
theorem i73_18  : WP V 73 18 ls st t I L R Q = WP V 73 19 ls (.int (nI 4) :: st) t I L R Q := wp_go rfl
theorem i73_19 {w0 w2 w3 w4 w5 w6 w7 : Value} {x : Int32} : WP V 73 19 [w0, .int x, w2, w3, w4, w5, w6, w7] st t I L R Q = WP V 73 20 [w0, .int x, w2, w3, w4, w5, w6, w7] (.int x :: st) t I L R Q := wp_go rfl
theorem i73_20 {x y : Int32} : WP V 73 20 ls (.int y :: .int x :: st) t I L R Q = WP V 73 21 ls (.int (x * y) :: st) t I L R Q := wp_go rfl
theorem i73_21 {x y : Int32} : WP V 73 21 ls (.int y :: .int x :: st) t I L R Q = WP V 73 22 ls (.int (x + y) :: st) t I L R Q := wp_go rfl
theorem i73_22 {p : Int32} {w0 w1 w2 w3 w4 w6 w7 : Value} {x : Int32} : WP V 73 22 [w0, w1, w2, w3, w4, .int p, w6, w7] (.int x :: st) t I L R Q = WP V 73 23 [w0, w1, w2, w3, w4, .int p, .int x, w7] st t I L R Q := wp_go rfl
theorem i73_23  : WP V 73 23 ls st t I L R Q = WP V 73 24 ls (.int (nI 6) :: st) t I L R Q := wp_go rfl
theorem i73_24 {p : Int32} {w0 w1 w2 w3 w4 w5 w7 : Value} {x : Int32} : WP V 73 24 [w0, w1, w2, w3, w4, w5, .int p, w7] (.int x :: st) t I L R Q = WP V 73 25 [w0, w1, w2, w3, w4, w5, .int p, .int x] st t I L R Q := wp_go rfl
theorem i73_25 {w0 w1 w2 w4 w5 w6 w7 : Value} {x : Nat} : WP V 73 25 [w0, w1, w2, .ref x, w4, w5, w6, w7] st t I L R Q = WP V 73 26 [w0, w1, w2, .ref x, w4, w5, w6, w7] (.ref x :: st) t I L R Q := wp_go rfl
theorem i73_26 {w0 w1 w3 w4 w5 w6 w7 : Value} {x : Int32} : WP V 73 26 [w0, w1, .int x, w3, w4, w5, w6, w7] st t I L R Q = WP V 73 27 [w0, w1, .int x, w3, w4, w5, w6, w7] (.int x :: st) t I L R Q := wp_go rfl
theorem i73_27 {k j : Nat} (h2 : m_ar k 2 960 = true) (h1 : k < t) (h3 : j < 960) : WP V 73 27 ls (.int (nI j) :: .ref k :: st) t I L R Q = WP V 73 28 ls (.int (I k j) :: st) t I L R Q := wp_iaload rfl (by decide) h1 h2 h3
theorem i73_28s11  : WP V 73 28 ls (.int (nI 11) :: st) t I L R Q = WP V 73 29 ls st t I L R Q := wp_sw rfl (by decide) (by decide) (by decide) rfl
theorem i73_28s12  : WP V 73 28 ls (.int (nI 12) :: st) t I L R Q = WP V 73 35 ls st t I L R Q := wp_sw rfl (by decide) (by decide) (by decide) rfl
theorem i73_28s13  : WP V 73 28 ls (.int (nI 13) :: st) t I L R Q = WP V 73 40 ls st t I L R Q := wp_sw rfl (by decide) (by decide) (by decide) rfl
theorem i73_28s14  : WP V 73 28 ls (.int (nI 14) :: st) t I L R Q = WP V 73 44 ls st t I L R Q := wp_sw rfl (by decide) (by decide) (by decide) rfl
theorem i73_28s15  : WP V 73 28 ls (.int (nI 15) :: st) t I L R Q = WP V 73 52 ls st t I L R Q := wp_sw rfl (by decide) (by decide) (by decide) rfl
theorem i73_28s16  : WP V 73 28 ls (.int (nI 16) :: st) t I L R Q = WP V 73 44 ls st t I L R Q := wp_sw rfl (by decide) (by decide) (by decide) rfl
theorem i73_28s17  : WP V 73 28 ls (.int (nI 17) :: st) t I L R Q = WP V 73 67 ls st t I L R Q := wp_sw rfl (by decide) (by decide) (by decide) rfl
theorem i73_28s18  : WP V 73 28 ls (.int (nI 18) :: st) t I L R Q = WP V 73 44 ls st t I L R Q := wp_sw rfl (by decide) (by decide) (by decide) rfl
theorem i73_28s19  : WP V 73 28 ls (.int (nI 19) :: st) t I L R Q = WP V 73 72 ls st t I L R Q := wp_sw rfl (by decide) (by decide) (by decide) rfl
theorem i73_28s20  : WP V 73 28 ls (.int (nI 20) :: st) t I L R Q = WP V 73 77 ls st t I L R Q := wp_sw rfl (by decide) (by decide) (by decide) rfl
theorem i73_28sd {x : Int32} (h : x.toInt < 11 ∨ 20 < x.toInt) : WP V 73 28 ls (.int x :: st) t I L R Q = WP V 73 88 ls st t I L R Q := wp_swd rfl h
theorem i73_29 {w1 w2 w3 w4 w5 w6 w7 : Value} {x : Nat} : WP V 73 29 [.ref x, w1, w2, w3, w4, w5, w6, w7] st t I L R Q = WP V 73 30 [.ref x, w1, w2, w3, w4, w5, w6, w7] (.ref x :: st) t I L R Q := wp_go rfl
theorem i73_30 {k : Nat} (h1 : k < t) (h2 : m_ob k 6 = true) : WP V 73 30 ls (.ref k :: st) t I L R Q = WP V 73 31 ls (m_rv (R k 2) :: st) t I L R Q := wp_getR rfl (by decide) h1 h2
theorem i73_31 {w0 w2 w3 w4 w5 w6 w7 : Value} {x : Int32} : WP V 73 31 [w0, .int x, w2, w3, w4, w5, w6, w7] st t I L R Q = WP V 73 32 [w0, .int x, w2, w3, w4, w5, w6, w7] (.int x :: st) t I L R Q := wp_go rfl
theorem i73_32 {w0 w1 w2 w3 w5 w6 w7 : Value} {x : Int32} : WP V 73 32 [w0, w1, w2, w3, .int x, w5, w6, w7] st t I L R Q = WP V 73 33 [w0, w1, w2, w3, .int x, w5, w6, w7] (.int x :: st) t I L R Q := wp_go rfl
theorem i73_33 {x0 : Int32} {x1 : Int32} {x2 : Nat}  (h1 : x2 < t) (h2 : m_ob x2 1 = true) : WP V 73 33 ls [.int x0, .int x1, .ref x2] t I L R Q = WPC V 10 [.ref x2, .int x1, .int x0] 73 34 ls [] t I L R Q := wp_cls (wp_icv rfl rfl h1 h2) (by decide) (Nat.le_of_ble_eq_true rfl) rfl rfl (Nat.le_of_ble_eq_true rfl) (Nat.le_of_ble_eq_true rfl)
theorem i73_34 {x : Int32} : WP V 73 34 ls [.int x] t I L R Q = Q (some (.int x)) t I L R := wp_rti rfl rfl
theorem i73_35 {w1 w2 w3 w4 w5 w6 w7 : Value} {x : Nat} : WP V 73 35 [.ref x, w1, w2, w3, w4, w5, w6, w7] st t I L R Q = WP V 73 36 [.ref x, w1, w2, w3, w4, w5, w6, w7] (.ref x :: st) t I L R Q := wp_go rfl
theorem i73_36 {k : Nat} (h1 : k < t) (h2 : m_ob k 6 = true) : WP V 73 36 ls (.ref k :: st) t I L R Q = WP V 73 37 ls (m_rv (R k 2) :: st) t I L R Q := wp_getR rfl (by decide) h1 h2
theorem i73_37 {w0 w2 w3 w4 w5 w6 w7 : Value} {x : Int32} : WP V 73 37 [w0, .int x, w2, w3, w4, w5, w6, w7] st t I L R Q = WP V 73 38 [w0, .int x, w2, w3, w4, w5, w6, w7] (.int x :: st) t I L R Q := wp_go rfl
theorem i73_38 {x0 : Int32} {x1 : Nat}  (h1 : x1 < t) (h2 : m_ob x1 1 = true) : WP V 73 38 ls [.int x0, .ref x1] t I L R Q = WPC V 22 [.ref x1, .int x0] 73 39 ls [] t I L R Q := wp_cls (wp_icv rfl rfl h1 h2) (by decide) (Nat.le_of_ble_eq_true rfl) rfl rfl (Nat.le_of_ble_eq_true rfl) (Nat.le_of_ble_eq_true rfl)
theorem i73_39 {x : Int32} : WP V 73 39 ls [.int x] t I L R Q = Q (some (.int x)) t I L R := wp_rti rfl rfl
theorem i73_40 {w1 w2 w3 w4 w5 w6 w7 : Value} {x : Nat} : WP V 73 40 [.ref x, w1, w2, w3, w4, w5, w6, w7] st t I L R Q = WP V 73 41 [.ref x, w1, w2, w3, w4, w5, w6, w7] (.ref x :: st) t I L R Q := wp_go rfl
theorem i73_41 {w0 w2 w3 w4 w5 w6 w7 : Value} {x : Int32} : WP V 73 41 [w0, .int x, w2, w3, w4, w5, w6, w7] st t I L R Q = WP V 73 42 [w0, .int x, w2, w3, w4, w5, w6, w7] (.int x :: st) t I L R Q := wp_go rfl
theorem i73_42 {x0 : Int32} {x1 : Nat}  (h1 : x1 < t) (h2 : m_ob x1 6 = true) : WP V 73 42 ls [.int x0, .ref x1] t I L R Q = WPC V 82 [.ref x1, .int x0] 73 43 ls [] t I L R Q := wp_cls (wp_icv rfl rfl h1 h2) (by decide) (Nat.le_of_ble_eq_true rfl) rfl rfl (Nat.le_of_ble_eq_true rfl) (Nat.le_of_ble_eq_true rfl)
theorem i73_43 {x : Int32} : WP V 73 43 ls [.int x] t I L R Q = Q (some (.int x)) t I L R := wp_rti rfl rfl
theorem i73_44 {w1 w2 w3 w4 w5 w6 w7 : Value} {x : Nat} : WP V 73 44 [.ref x, w1, w2, w3, w4, w5, w6, w7] st t I L R Q = WP V 73 45 [.ref x, w1, w2, w3, w4, w5, w6, w7] (.ref x :: st) t I L R Q := wp_go rfl
theorem i73_45 {w0 w2 w3 w4 w5 w6 w7 : Value} {x : Int32} : WP V 73 45 [w0, .int x, w2, w3, w4, w5, w6, w7] st t I L R Q = WP V 73 46 [w0, .int x, w2, w3, w4, w5, w6, w7] (.int x :: st) t I L R Q := wp_go rfl
theorem i73_46 {w0 w1 w2 w4 w5 w6 w7 : Value} {x : Nat} : WP V 73 46 [w0, w1, w2, .ref x, w4, w5, w6, w7] st t I L R Q = WP V 73 47 [w0, w1, w2, .ref x, w4, w5, w6, w7] (.ref x :: st) t I L R Q := wp_go rfl
theorem i73_47 {w0 w1 w3 w4 w5 w6 w7 : Value} {x : Int32} : WP V 73 47 [w0, w1, .int x, w3, w4, w5, w6, w7] st t I L R Q = WP V 73 48 [w0, w1, .int x, w3, w4, w5, w6, w7] (.int x :: st) t I L R Q := wp_go rfl
theorem i73_48 {k j : Nat} (h2 : m_ar k 2 960 = true) (h1 : k < t) (h3 : j < 960) : WP V 73 48 ls (.int (nI j) :: .ref k :: st) t I L R Q = WP V 73 49 ls (.int (I k j) :: st) t I L R Q := wp_iaload rfl (by decide) h1 h2 h3
theorem i73_49 {w0 w1 w2 w3 w5 w6 w7 : Value} {x : Int32} : WP V 73 49 [w0, w1, w2, w3, .int x, w5, w6, w7] st t I L R Q = WP V 73 50 [w0, w1, w2, w3, .int x, w5, w6, w7] (.int x :: st) t I L R Q := wp_go rfl
theorem i73_50 {x0 : Int32} {x1 : Int32} {x2 : Int32} {x3 : Nat}  (h1 : x3 < t) (h2 : m_ob x3 6 = true) : WP V 73 50 ls [.int x0, .int x1, .int x2, .ref x3] t I L R Q = WPC V 79 [.ref x3, .int x2, .int x1, .int x0] 73 51 ls [] t I L R Q := wp_cls (wp_icv rfl rfl h1 h2) (by decide) (Nat.le_of_ble_eq_true rfl) rfl rfl (Nat.le_of_ble_eq_true rfl) (Nat.le_of_ble_eq_true rfl)
theorem i73_51 {x : Int32} : WP V 73 51 ls [.int x] t I L R Q = Q (some (.int x)) t I L R := wp_rti rfl rfl
theorem i73_52 {w1 w2 w3 w4 w5 w6 w7 : Value} {x : Nat} : WP V 73 52 [.ref x, w1, w2, w3, w4, w5, w6, w7] st t I L R Q = WP V 73 53 [.ref x, w1, w2, w3, w4, w5, w6, w7] (.ref x :: st) t I L R Q := wp_go rfl
theorem i73_53 {w0 w2 w3 w4 w5 w6 w7 : Value} {x : Int32} : WP V 73 53 [w0, .int x, w2, w3, w4, w5, w6, w7] st t I L R Q = WP V 73 54 [w0, .int x, w2, w3, w4, w5, w6, w7] (.int x :: st) t I L R Q := wp_go rfl
theorem i73_54  : WP V 73 54 ls st t I L R Q = WP V 73 55 ls (.int (nI 14) :: st) t I L R Q := wp_go rfl
theorem i73_55 {x0 : Int32} {x1 : Int32} {x2 : Nat}  (h1 : x2 < t) (h2 : m_ob x2 6 = true) : WP V 73 55 ls [.int x0, .int x1, .ref x2] t I L R Q = WPC V 80 [.ref x2, .int x1, .int x0] 73 56 ls [] t I L R Q := wp_cls (wp_icv rfl rfl h1 h2) (by decide) (Nat.le_of_ble_eq_true rfl) rfl rfl (Nat.le_of_ble_eq_true rfl) (Nat.le_of_ble_eq_true rfl)
theorem i73_56 {p : Int32} {w0 w1 w2 w3 w4 w5 w7 : Value} {x : Int32} : WP V 73 56 [w0, w1, w2, w3, w4, w5, .int p, w7] (.int x :: st) t I L R Q = WP V 73 57 [w0, w1, w2, w3, w4, w5, .int p, .int x] st t I L R Q := wp_go rfl
theorem i73_57 {w0 w1 w2 w3 w4 w5 w6 : Value} {x : Int32} : WP V 73 57 [w0, w1, w2, w3, w4, w5, w6, .int x] st t I L R Q = WP V 73 58 [w0, w1, w2, w3, w4, w5, w6, .int x] (.int x :: st) t I L R Q := wp_go rfl
theorem i73_58  : WP V 73 58 ls st t I L R Q = WP V 73 59 ls (.int (nI 6) :: st) t I L R Q := wp_go rfl
theorem i73_59 {x y : Int32} : WP V 73 59 ls (.int y :: .int x :: st) t I L R Q = if x = y then WP V 73 60 ls st t I L R Q else WP V 73 65 ls st t I L R Q := wp_brn (c := m_cc .ne x y) rfl rfl
theorem i73_60 {w1 w2 w3 w4 w5 w6 w7 : Value} {x : Nat} : WP V 73 60 [.ref x, w1, w2, w3, w4, w5, w6, w7] st t I L R Q = WP V 73 61 [.ref x, w1, w2, w3, w4, w5, w6, w7] (.ref x :: st) t I L R Q := wp_go rfl
theorem i73_61 {w0 w2 w3 w4 w5 w6 w7 : Value} {x : Int32} : WP V 73 61 [w0, .int x, w2, w3, w4, w5, w6, w7] st t I L R Q = WP V 73 62 [w0, .int x, w2, w3, w4, w5, w6, w7] (.int x :: st) t I L R Q := wp_go rfl
theorem i73_62 {w0 w1 w2 w3 w5 w6 w7 : Value} {x : Int32} : WP V 73 62 [w0, w1, w2, w3, .int x, w5, w6, w7] st t I L R Q = WP V 73 63 [w0, w1, w2, w3, .int x, w5, w6, w7] (.int x :: st) t I L R Q := wp_go rfl
theorem i73_63 {x0 : Int32} {x1 : Int32} {x2 : Nat}  (h1 : x2 < t) (h2 : m_ob x2 6 = true) : WP V 73 63 ls [.int x0, .int x1, .ref x2] t I L R Q = WPC V 74 [.ref x2, .int x1, .int x0] 73 64 ls [] t I L R Q := wp_cls (wp_icv rfl rfl h1 h2) (by decide) (Nat.le_of_ble_eq_true rfl) rfl rfl (Nat.le_of_ble_eq_true rfl) (Nat.le_of_ble_eq_true rfl)
theorem i73_64  : WP V 73 64 ls st t I L R Q = WP V 73 66 ls st t I L R Q := wp_go rfl
theorem i73_65 {w0 w1 w2 w3 w4 w5 w6 : Value} {x : Int32} : WP V 73 65 [w0, w1, w2, w3, w4, w5, w6, .int x] st t I L R Q = WP V 73 66 [w0, w1, w2, w3, w4, w5, w6, .int x] (.int x :: st) t I L R Q := wp_go rfl
theorem i73_66 {x : Int32} : WP V 73 66 ls [.int x] t I L R Q = Q (some (.int x)) t I L R := wp_rti rfl rfl
theorem i73_67 {w1 w2 w3 w4 w5 w6 w7 : Value} {x : Nat} : WP V 73 67 [.ref x, w1, w2, w3, w4, w5, w6, w7] st t I L R Q = WP V 73 68 [.ref x, w1, w2, w3, w4, w5, w6, w7] (.ref x :: st) t I L R Q := wp_go rfl
theorem i73_68 {w0 w2 w3 w4 w5 w6 w7 : Value} {x : Int32} : WP V 73 68 [w0, .int x, w2, w3, w4, w5, w6, w7] st t I L R Q = WP V 73 69 [w0, .int x, w2, w3, w4, w5, w6, w7] (.int x :: st) t I L R Q := wp_go rfl
theorem i73_69  : WP V 73 69 ls st t I L R Q = WP V 73 70 ls (.int (nI 16) :: st) t I L R Q := wp_go rfl
theorem i73_70 {x0 : Int32} {x1 : Int32} {x2 : Nat}  (h1 : x2 < t) (h2 : m_ob x2 6 = true) : WP V 73 70 ls [.int x0, .int x1, .ref x2] t I L R Q = WPC V 80 [.ref x2, .int x1, .int x0] 73 71 ls [] t I L R Q := wp_cls (wp_icv rfl rfl h1 h2) (by decide) (Nat.le_of_ble_eq_true rfl) rfl rfl (Nat.le_of_ble_eq_true rfl) (Nat.le_of_ble_eq_true rfl)
theorem i73_71 {x : Int32} : WP V 73 71 ls [.int x] t I L R Q = Q (some (.int x)) t I L R := wp_rti rfl rfl
theorem i73_72 {w1 w2 w3 w4 w5 w6 w7 : Value} {x : Nat} : WP V 73 72 [.ref x, w1, w2, w3, w4, w5, w6, w7] st t I L R Q = WP V 73 73 [.ref x, w1, w2, w3, w4, w5, w6, w7] (.ref x :: st) t I L R Q := wp_go rfl
theorem i73_73 {w0 w2 w3 w4 w5 w6 w7 : Value} {x : Int32} : WP V 73 73 [w0, .int x, w2, w3, w4, w5, w6, w7] st t I L R Q = WP V 73 74 [w0, .int x, w2, w3, w4, w5, w6, w7] (.int x :: st) t I L R Q := wp_go rfl
theorem i73_74  : WP V 73 74 ls st t I L R Q = WP V 73 75 ls (.int (nI 18) :: st) t I L R Q := wp_go rfl
theorem i73_75 {x0 : Int32} {x1 : Int32} {x2 : Nat}  (h1 : x2 < t) (h2 : m_ob x2 6 = true) : WP V 73 75 ls [.int x0, .int x1, .ref x2] t I L R Q = WPC V 80 [.ref x2, .int x1, .int x0] 73 76 ls [] t I L R Q := wp_cls (wp_icv rfl rfl h1 h2) (by decide) (Nat.le_of_ble_eq_true rfl) rfl rfl (Nat.le_of_ble_eq_true rfl) (Nat.le_of_ble_eq_true rfl)
theorem i73_76 {x : Int32} : WP V 73 76 ls [.int x] t I L R Q = Q (some (.int x)) t I L R := wp_rti rfl rfl
theorem i73_77  : WP V 73 77 ls st t I L R Q = WP V 73 78 ls (.int (nI 110) :: st) t I L R Q := wp_go rfl
theorem i73_78 {w1 w2 w3 w4 w5 w6 w7 : Value} {x : Nat} : WP V 73 78 [.ref x, w1, w2, w3, w4, w5, w6, w7] st t I L R Q = WP V 73 79 [.ref x, w1, w2, w3, w4, w5, w6, w7] (.ref x :: st) t I L R Q := wp_go rfl
theorem i73_79 {k : Nat} (h1 : k < t) (h2 : m_ob k 6 = true) : WP V 73 79 ls (.ref k :: st) t I L R Q = WP V 73 80 ls (m_rv (R k 1) :: st) t I L R Q := wp_getR rfl (by decide) h1 h2
theorem i73_80 {w0 w1 w2 w3 w4 w5 w7 : Value} {x : Int32} : WP V 73 80 [w0, w1, w2, w3, w4, w5, .int x, w7] st t I L R Q = WP V 73 81 [w0, w1, w2, w3, w4, w5, .int x, w7] (.int x :: st) t I L R Q := wp_go rfl
theorem i73_81 {w0 w1 w2 w3 w5 w6 w7 : Value} {x : Int32} : WP V 73 81 [w0, w1, w2, w3, .int x, w5, w6, w7] st t I L R Q = WP V 73 82 [w0, w1, w2, w3, .int x, w5, w6, w7] (.int x :: st) t I L R Q := wp_go rfl
theorem i73_82 {x y : Int32} : WP V 73 82 ls (.int y :: .int x :: st) t I L R Q = WP V 73 83 ls (.int (x + y) :: st) t I L R Q := wp_go rfl
theorem i73_83 {k j : Nat} (h2 : m_ar k 2 581 = true) (h1 : k < t) (h3 : j < 581) : WP V 73 83 ls (.int (nI j) :: .ref k :: st) t I L R Q = WP V 73 84 ls (.int (I k j) :: st) t I L R Q := wp_iaload rfl (by decide) h1 h2 h3
theorem i73_84  : WP V 73 84 ls st t I L R Q = WP V 73 85 ls (.int (nI 7) :: st) t I L R Q := wp_go rfl
theorem i73_85 {x y : Int32} : WP V 73 85 ls (.int y :: .int x :: st) t I L R Q = WP V 73 86 ls (.int (x &&& y) :: st) t I L R Q := wp_go rfl
theorem i73_86 {x y : Int32} : WP V 73 86 ls (.int y :: .int x :: st) t I L R Q = WP V 73 87 ls (.int (x + y) :: st) t I L R Q := wp_go rfl
theorem i73_87 {x : Int32} : WP V 73 87 ls [.int x] t I L R Q = Q (some (.int x)) t I L R := wp_rti rfl rfl
theorem i73_88 {w1 w2 w3 w4 w5 w6 w7 : Value} {x : Nat} : WP V 73 88 [.ref x, w1, w2, w3, w4, w5, w6, w7] st t I L R Q = WP V 73 89 [.ref x, w1, w2, w3, w4, w5, w6, w7] (.ref x :: st) t I L R Q := wp_go rfl
theorem i73_89 {k : Nat} (h1 : k < t) (h2 : m_ob k 6 = true) : WP V 73 89 ls (.ref k :: st) t I L R Q = WP V 73 90 ls (m_rv (R k 1) :: st) t I L R Q := wp_getR rfl (by decide) h1 h2
theorem i73_90 {w0 w1 w2 w3 w4 w5 w7 : Value} {x : Int32} : WP V 73 90 [w0, w1, w2, w3, w4, w5, .int x, w7] st t I L R Q = WP V 73 91 [w0, w1, w2, w3, w4, w5, .int x, w7] (.int x :: st) t I L R Q := wp_go rfl
theorem i73_91 {w0 w1 w2 w3 w5 w6 w7 : Value} {x : Int32} : WP V 73 91 [w0, w1, w2, w3, .int x, w5, w6, w7] st t I L R Q = WP V 73 92 [w0, w1, w2, w3, .int x, w5, w6, w7] (.int x :: st) t I L R Q := wp_go rfl
theorem i73_92 {x y : Int32} : WP V 73 92 ls (.int y :: .int x :: st) t I L R Q = WP V 73 93 ls (.int (x + y) :: st) t I L R Q := wp_go rfl
theorem i73_93 {w1 w2 w3 w4 w5 w6 w7 : Value} {x : Nat} : WP V 73 93 [.ref x, w1, w2, w3, w4, w5, w6, w7] st t I L R Q = WP V 73 94 [.ref x, w1, w2, w3, w4, w5, w6, w7] (.ref x :: st) t I L R Q := wp_go rfl
theorem i73_94 {k : Nat} (h1 : k < t) (h2 : m_ob k 6 = true) : WP V 73 94 ls (.ref k :: st) t I L R Q = WP V 73 95 ls (m_rv (R k 1) :: st) t I L R Q := wp_getR rfl (by decide) h1 h2
theorem i73_95 {w0 w1 w2 w3 w4 w5 w7 : Value} {x : Int32} : WP V 73 95 [w0, w1, w2, w3, w4, w5, .int x, w7] st t I L R Q = WP V 73 96 [w0, w1, w2, w3, w4, w5, .int x, w7] (.int x :: st) t I L R Q := wp_go rfl
theorem i73_96 {w0 w1 w2 w3 w5 w6 w7 : Value} {x : Int32} : WP V 73 96 [w0, w1, w2, w3, .int x, w5, w6, w7] st t I L R Q = WP V 73 97 [w0, w1, w2, w3, .int x, w5, w6, w7] (.int x :: st) t I L R Q := wp_go rfl
theorem i73_97 {x y : Int32} : WP V 73 97 ls (.int y :: .int x :: st) t I L R Q = WP V 73 98 ls (.int (x + y) :: st) t I L R Q := wp_go rfl
theorem i73_98 {k j : Nat} (h2 : m_ar k 2 581 = true) (h1 : k < t) (h3 : j < 581) : WP V 73 98 ls (.int (nI j) :: .ref k :: st) t I L R Q = WP V 73 99 ls (.int (I k j) :: st) t I L R Q := wp_iaload rfl (by decide) h1 h2 h3
theorem i73_99 {w1 w2 w3 w4 w5 w6 w7 : Value} {x : Nat} : WP V 73 99 [.ref x, w1, w2, w3, w4, w5, w6, w7] st t I L R Q = WP V 73 100 [.ref x, w1, w2, w3, w4, w5, w6, w7] (.ref x :: st) t I L R Q := wp_go rfl
theorem i73_100 {k : Nat} (h1 : k < t) (h2 : m_ob k 6 = true) : WP V 73 100 ls (.ref k :: st) t I L R Q = WP V 73 101 ls (m_rv (R k 1) :: st) t I L R Q := wp_getR rfl (by decide) h1 h2
theorem i73_101 {w0 w1 w2 w3 w4 w5 w7 : Value} {x : Int32} : WP V 73 101 [w0, w1, w2, w3, w4, w5, .int x, w7] st t I L R Q = WP V 73 102 [w0, w1, w2, w3, w4, w5, .int x, w7] (.int x :: st) t I L R Q := wp_go rfl
theorem i73_102 {w0 w1 w2 w3 w4 w6 w7 : Value} {x : Int32} : WP V 73 102 [w0, w1, w2, w3, w4, .int x, w6, w7] st t I L R Q = WP V 73 103 [w0, w1, w2, w3, w4, .int x, w6, w7] (.int x :: st) t I L R Q := wp_go rfl
theorem i73_103 {x y : Int32} : WP V 73 103 ls (.int y :: .int x :: st) t I L R Q = WP V 73 104 ls (.int (x + y) :: st) t I L R Q := wp_go rfl
theorem i73_104 {k j : Nat} (h2 : m_ar k 2 581 = true) (h1 : k < t) (h3 : j < 581) : WP V 73 104 ls (.int (nI j) :: .ref k :: st) t I L R Q = WP V 73 105 ls (.int (I k j) :: st) t I L R Q := wp_iaload rfl (by decide) h1 h2 h3
theorem i73_105 {x y : Int32} : WP V 73 105 ls (.int y :: .int x :: st) t I L R Q = if y ≤ x then WP V 73 108 ls st t I L R Q else WP V 73 106 ls st t I L R Q := wp_br (c := m_cc .ge x y) rfl rfl
theorem i73_106  : WP V 73 106 ls st t I L R Q = WP V 73 107 ls (.int (nI 1) :: st) t I L R Q := wp_go rfl
theorem i73_107  : WP V 73 107 ls st t I L R Q = WP V 73 109 ls st t I L R Q := wp_go rfl
theorem i73_108  : WP V 73 108 ls st t I L R Q = WP V 73 109 ls (.int (nI 0) :: st) t I L R Q := wp_go rfl
theorem i73_109 {k j : Nat} {x : Int32} (h2 : m_ar k 2 581 = true) (h1 : k < t) (h3 : j < 581) : WP V 73 109 ls (.int x :: .int (nI j) :: .ref k :: st) t I L R Q = WP V 73 110 ls st t (m_sc I k (m_sc (I k) j x)) L R Q := wp_iastore rfl (by decide) h1 h2 h3
theorem i73_110  : WP V 73 110 ls st t I L R Q = WP V 73 111 ls (.int (nI 6) :: st) t I L R Q := wp_go rfl
theorem i73_111 {x : Int32} : WP V 73 111 ls [.int x] t I L R Q = Q (some (.int x)) t I L R := wp_rti rfl rfl
-- TransactionCells$Steps.jump(II)I
theorem i74_0 {w1 w2 : Value} {x : Nat} : WP V 74 0 [.ref x, w1, w2] st t I L R Q = WP V 74 1 [.ref x, w1, w2] (.ref x :: st) t I L R Q := wp_go rfl
theorem i74_1 {k : Nat} (h1 : k < t) (h2 : m_ob k 6 = true) : WP V 74 1 ls (.ref k :: st) t I L R Q = WP V 74 2 ls (m_rv (R k 1) :: st) t I L R Q := wp_getR rfl (by decide) h1 h2
theorem i74_2  : WP V 74 2 ls st t I L R Q = WP V 74 3 ls (.int (nI 6) :: st) t I L R Q := wp_go rfl
theorem i74_3 {w0 w2 : Value} {x : Int32} : WP V 74 3 [w0, .int x, w2] st t I L R Q = WP V 74 4 [w0, .int x, w2] (.int x :: st) t I L R Q := wp_go rfl
theorem i74_4 {x y : Int32} : WP V 74 4 ls (.int y :: .int x :: st) t I L R Q = WP V 74 5 ls (.int (x + y) :: st) t I L R Q := wp_go rfl
theorem i74_5 {w0 w1 : Value} {x : Int32} : WP V 74 5 [w0, w1, .int x] st t I L R Q = WP V 74 6 [w0, w1, .int x] (.int x :: st) t I L R Q := wp_go rfl
theorem i74_6 {k j : Nat} {x : Int32} (h2 : m_ar k 2 581 = true) (h1 : k < t) (h3 : j < 581) : WP V 74 6 ls (.int x :: .int (nI j) :: .ref k :: st) t I L R Q = WP V 74 7 ls st t (m_sc I k (m_sc (I k) j x)) L R Q := wp_iastore rfl (by decide) h1 h2 h3
theorem i74_7  : WP V 74 7 ls st t I L R Q = WP V 74 8 ls (.int (nI 1) :: st) t I L R Q := wp_go rfl
theorem i74_8 {x : Int32} : WP V 74 8 ls [.int x] t I L R Q = Q (some (.int x)) t I L R := wp_rti rfl rfl
-- TransactionCells$Steps.takeNumber(I)I
theorem i75_0 {w1 : Value} {x : Nat} : WP V 75 0 [.ref x, w1] st t I L R Q = WP V 75 1 [.ref x, w1] (.ref x :: st) t I L R Q := wp_go rfl
theorem i75_1 {k : Nat} (h1 : k < t) (h2 : m_ob k 6 = true) : WP V 75 1 ls (.ref k :: st) t I L R Q = WP V 75 2 ls (m_rv (R k 2) :: st) t I L R Q := wp_getR rfl (by decide) h1 h2
theorem i75_2 {k : Nat} (h1 : k < t) (h2 : m_ob k 1 = true) : WP V 75 2 ls (.ref k :: st) t I L R Q = WP V 75 3 ls (.int (I k 2) :: st) t I L R Q := wp_getI rfl (by decide) h1 h2
theorem i75_3 {x : Int32} : WP V 75 3 ls (.int x :: st) t I L R Q = if x = nI 0 then WP V 75 4 ls st t I L R Q else WP V 75 6 ls st t I L R Q := wp_brn (c := m_cc .ne x 0) rfl rfl
theorem i75_4  : WP V 75 4 ls st t I L R Q = WP V 75 5 ls (.int (nI 101) :: st) t I L R Q := wp_go rfl
theorem i75_5 {x : Int32} : WP V 75 5 ls [.int x] t I L R Q = Q (some (.int x)) t I L R := wp_rti rfl rfl
theorem i75_6 {w1 : Value} {x : Nat} : WP V 75 6 [.ref x, w1] st t I L R Q = WP V 75 7 [.ref x, w1] (.ref x :: st) t I L R Q := wp_go rfl
theorem i75_7 {k : Nat} (h1 : k < t) (h2 : m_ob k 6 = true) : WP V 75 7 ls (.ref k :: st) t I L R Q = WP V 75 8 ls (m_rv (R k 2) :: st) t I L R Q := wp_getR rfl (by decide) h1 h2
theorem i75_8 {k : Nat} (h1 : k < t) (h2 : m_ob k 1 = true) : WP V 75 8 ls (.ref k :: st) t I L R Q = WP V 75 9 ls (.int (I k 2) :: st) t I L R Q := wp_getI rfl (by decide) h1 h2
theorem i75_9  : WP V 75 9 ls st t I L R Q = WP V 75 10 ls (.int (nI 2) :: st) t I L R Q := wp_go rfl
theorem i75_10 {x y : Int32} : WP V 75 10 ls (.int y :: .int x :: st) t I L R Q = if x = y then WP V 75 11 ls st t I L R Q else WP V 75 13 ls st t I L R Q := wp_brn (c := m_cc .ne x y) rfl rfl
theorem i75_11  : WP V 75 11 ls st t I L R Q = WP V 75 12 ls (.int (nI 103) :: st) t I L R Q := wp_go rfl
theorem i75_12 {x : Int32} : WP V 75 12 ls [.int x] t I L R Q = Q (some (.int x)) t I L R := wp_rti rfl rfl
theorem i75_13 {w1 : Value} {x : Nat} : WP V 75 13 [.ref x, w1] st t I L R Q = WP V 75 14 [.ref x, w1] (.ref x :: st) t I L R Q := wp_go rfl
theorem i75_14 {k : Nat} (h1 : k < t) (h2 : m_ob k 6 = true) : WP V 75 14 ls (.ref k :: st) t I L R Q = WP V 75 15 ls (m_rv (R k 1) :: st) t I L R Q := wp_getR rfl (by decide) h1 h2
theorem i75_15 {w0 : Value} {x : Int32} : WP V 75 15 [w0, .int x] st t I L R Q = WP V 75 16 [w0, .int x] (.int x :: st) t I L R Q := wp_go rfl
theorem i75_16 {w1 : Value} {x : Nat} : WP V 75 16 [.ref x, w1] st t I L R Q = WP V 75 17 [.ref x, w1] (.ref x :: st) t I L R Q := wp_go rfl
theorem i75_17 {k : Nat} (h1 : k < t) (h2 : m_ob k 6 = true) : WP V 75 17 ls (.ref k :: st) t I L R Q = WP V 75 18 ls (m_rv (R k 2) :: st) t I L R Q := wp_getR rfl (by decide) h1 h2
theorem i75_18 {k : Nat} (h1 : k < t) (h2 : m_ob k 1 = true) : WP V 75 18 ls (.ref k :: st) t I L R Q = WP V 75 19 ls (.int (I k 3) :: st) t I L R Q := wp_getI rfl (by decide) h1 h2
theorem i75_19 {k j : Nat} {x : Int32} (h2 : m_ar k 2 581 = true) (h1 : k < t) (h3 : j < 581) : WP V 75 19 ls (.int x :: .int (nI j) :: .ref k :: st) t I L R Q = WP V 75 20 ls st t (m_sc I k (m_sc (I k) j x)) L R Q := wp_iastore rfl (by decide) h1 h2 h3
theorem i75_20  : WP V 75 20 ls st t I L R Q = WP V 75 21 ls (.int (nI 6) :: st) t I L R Q := wp_go rfl
theorem i75_21 {x : Int32} : WP V 75 21 ls [.int x] t I L R Q = Q (some (.int x)) t I L R := wp_rti rfl rfl
-- TransactionCells$Steps.takeItem(II)I
theorem i76_0 {w1 w2 w3 : Value} {x : Nat} : WP V 76 0 [.ref x, w1, w2, w3] st t I L R Q = WP V 76 1 [.ref x, w1, w2, w3] (.ref x :: st) t I L R Q := wp_go rfl
theorem i76_1 {k : Nat} (h1 : k < t) (h2 : m_ob k 6 = true) : WP V 76 1 ls (.ref k :: st) t I L R Q = WP V 76 2 ls (m_rv (R k 2) :: st) t I L R Q := wp_getR rfl (by decide) h1 h2
theorem i76_2 {k : Nat} (h1 : k < t) (h2 : m_ob k 1 = true) : WP V 76 2 ls (.ref k :: st) t I L R Q = WP V 76 3 ls (.int (I k 2) :: st) t I L R Q := wp_getI rfl (by decide) h1 h2
theorem i76_3 {x : Int32} : WP V 76 3 ls (.int x :: st) t I L R Q = if x = nI 0 then WP V 76 4 ls st t I L R Q else WP V 76 6 ls st t I L R Q := wp_brn (c := m_cc .ne x 0) rfl rfl
theorem i76_4  : WP V 76 4 ls st t I L R Q = WP V 76 5 ls (.int (nI 101) :: st) t I L R Q := wp_go rfl
theorem i76_5 {x : Int32} : WP V 76 5 ls [.int x] t I L R Q = Q (some (.int x)) t I L R := wp_rti rfl rfl
theorem i76_6 {w1 w2 w3 : Value} {x : Nat} : WP V 76 6 [.ref x, w1, w2, w3] st t I L R Q = WP V 76 7 [.ref x, w1, w2, w3] (.ref x :: st) t I L R Q := wp_go rfl
theorem i76_7 {k : Nat} (h1 : k < t) (h2 : m_ob k 6 = true) : WP V 76 7 ls (.ref k :: st) t I L R Q = WP V 76 8 ls (m_rv (R k 2) :: st) t I L R Q := wp_getR rfl (by decide) h1 h2
theorem i76_8 {k : Nat} (h1 : k < t) (h2 : m_ob k 1 = true) : WP V 76 8 ls (.ref k :: st) t I L R Q = WP V 76 9 ls (.int (I k 2) :: st) t I L R Q := wp_getI rfl (by decide) h1 h2
theorem i76_9  : WP V 76 9 ls st t I L R Q = WP V 76 10 ls (.int (nI 1) :: st) t I L R Q := wp_go rfl
theorem i76_10 {x y : Int32} : WP V 76 10 ls (.int y :: .int x :: st) t I L R Q = if x = y then WP V 76 11 ls st t I L R Q else WP V 76 13 ls st t I L R Q := wp_brn (c := m_cc .ne x y) rfl rfl
theorem i76_11  : WP V 76 11 ls st t I L R Q = WP V 76 12 ls (.int (nI 103) :: st) t I L R Q := wp_go rfl
theorem i76_12 {x : Int32} : WP V 76 12 ls [.int x] t I L R Q = Q (some (.int x)) t I L R := wp_rti rfl rfl
theorem i76_13 {w1 w2 w3 : Value} {x : Nat} : WP V 76 13 [.ref x, w1, w2, w3] st t I L R Q = WP V 76 14 [.ref x, w1, w2, w3] (.ref x :: st) t I L R Q := wp_go rfl
theorem i76_14 {k : Nat} (h1 : k < t) (h2 : m_ob k 6 = true) : WP V 76 14 ls (.ref k :: st) t I L R Q = WP V 76 15 ls (m_rv (R k 2) :: st) t I L R Q := wp_getR rfl (by decide) h1 h2
theorem i76_15 {k : Nat} (h1 : k < t) (h2 : m_ob k 1 = true) : WP V 76 15 ls (.ref k :: st) t I L R Q = WP V 76 16 ls (.int (I k 3) :: st) t I L R Q := wp_getI rfl (by decide) h1 h2
theorem i76_16 {p : Int32} {w0 w1 w3 : Value} {x : Int32} : WP V 76 16 [w0, w1, .int p, w3] (.int x :: st) t I L R Q = WP V 76 17 [w0, w1, .int p, .int x] st t I L R Q := wp_go rfl
theorem i76_17 {w0 w1 w2 : Value} {x : Int32} : WP V 76 17 [w0, w1, w2, .int x] st t I L R Q = WP V 76 18 [w0, w1, w2, .int x] (.int x :: st) t I L R Q := wp_go rfl
theorem i76_18  : WP V 76 18 ls st t I L R Q = WP V 76 19 ls (.int (nI 6) :: st) t I L R Q := wp_go rfl
theorem i76_19 {x0 : Int32} {x1 : Int32}  : WP V 76 19 ls [.int x0, .int x1] t I L R Q = WPC V 109 [.int x1, .int x0] 76 20 ls [] t I L R Q := wp_cls (wp_ics rfl (by decide)) (by decide) (Nat.le_of_ble_eq_true rfl) rfl rfl (Nat.le_of_ble_eq_true rfl) (Nat.le_of_ble_eq_true rfl)
theorem i76_20 {x : Int32} : WP V 76 20 ls (.int x :: st) t I L R Q = if x = nI 0 then WP V 76 27 ls st t I L R Q else WP V 76 21 ls st t I L R Q := wp_br (c := m_cc .eq x 0) rfl rfl
theorem i76_21 {w1 w2 w3 : Value} {x : Nat} : WP V 76 21 [.ref x, w1, w2, w3] st t I L R Q = WP V 76 22 [.ref x, w1, w2, w3] (.ref x :: st) t I L R Q := wp_go rfl
theorem i76_22 {k : Nat} (h1 : k < t) (h2 : m_ob k 6 = true) : WP V 76 22 ls (.ref k :: st) t I L R Q = WP V 76 23 ls (m_rv (R k 0) :: st) t I L R Q := wp_getR rfl (by decide) h1 h2
theorem i76_23 {k : Nat} (h1 : k < t) (h2 : m_ob k 3 = true) : WP V 76 23 ls (.ref k :: st) t I L R Q = WP V 76 24 ls (m_rv (R k 2) :: st) t I L R Q := wp_getR rfl (by decide) h1 h2
theorem i76_24 {w0 w1 w2 : Value} {x : Int32} : WP V 76 24 [w0, w1, w2, .int x] st t I L R Q = WP V 76 25 [w0, w1, w2, .int x] (.int x :: st) t I L R Q := wp_go rfl
theorem i76_25 {x0 : Int32} {x1 : Nat}  (h1 : x1 < t) (h2 : m_ob x1 5 = true) : WP V 76 25 ls [.int x0, .ref x1] t I L R Q = WPC V 64 [.ref x1, .int x0] 76 26 ls [] t I L R Q := wp_cls (wp_icv rfl rfl h1 h2) (by decide) (Nat.le_of_ble_eq_true rfl) rfl rfl (Nat.le_of_ble_eq_true rfl) (Nat.le_of_ble_eq_true rfl)
theorem i76_26 {x : Int32} : WP V 76 26 ls (.int x :: st) t I L R Q = if x = nI 0 then WP V 76 29 ls st t I L R Q else WP V 76 27 ls st t I L R Q := wp_br (c := m_cc .eq x 0) rfl rfl
theorem i76_27  : WP V 76 27 ls st t I L R Q = WP V 76 28 ls (.int (nI 101) :: st) t I L R Q := wp_go rfl
theorem i76_28 {x : Int32} : WP V 76 28 ls [.int x] t I L R Q = Q (some (.int x)) t I L R := wp_rti rfl rfl
theorem i76_29 {w0 w1 w3 : Value} {x : Int32} : WP V 76 29 [w0, w1, .int x, w3] st t I L R Q = WP V 76 30 [w0, w1, .int x, w3] (.int x :: st) t I L R Q := wp_go rfl
theorem i76_30 {w1 w2 w3 : Value} {x : Nat} : WP V 76 30 [.ref x, w1, w2, w3] st t I L R Q = WP V 76 31 [.ref x, w1, w2, w3] (.ref x :: st) t I L R Q := wp_go rfl
theorem i76_31 {k : Nat} (h1 : k < t) (h2 : m_ob k 6 = true) : WP V 76 31 ls (.ref k :: st) t I L R Q = WP V 76 32 ls (m_rv (R k 0) :: st) t I L R Q := wp_getR rfl (by decide) h1 h2
theorem i76_32 {k : Nat} (h1 : k < t) (h2 : m_ob k 3 = true) : WP V 76 32 ls (.ref k :: st) t I L R Q = WP V 76 33 ls (m_rv (R k 2) :: st) t I L R Q := wp_getR rfl (by decide) h1 h2
theorem i76_33 {k : Nat} (h1 : k < t) (h2 : m_ob k 5 = true) : WP V 76 33 ls (.ref k :: st) t I L R Q = WP V 76 34 ls (m_rv (R k 1) :: st) t I L R Q := wp_getR rfl (by decide) h1 h2
theorem i76_34 {w0 w1 w2 : Value} {x : Int32} : WP V 76 34 [w0, w1, w2, .int x] st t I L R Q = WP V 76 35 [w0, w1, w2, .int x] (.int x :: st) t I L R Q := wp_go rfl
theorem i76_35 {k j : Nat} (h2 : m_ar k 2 6 = true) (h1 : k < t) (h3 : j < 6) : WP V 76 35 ls (.int (nI j) :: .ref k :: st) t I L R Q = WP V 76 36 ls (.int (I k j) :: st) t I L R Q := wp_iaload rfl (by decide) h1 h2 h3
theorem i76_36 {x0 : Int32} {x1 : Int32}  : WP V 76 36 ls [.int x0, .int x1] t I L R Q = WPC V 109 [.int x1, .int x0] 76 37 ls [] t I L R Q := wp_cls (wp_ics rfl (by decide)) (by decide) (Nat.le_of_ble_eq_true rfl) rfl rfl (Nat.le_of_ble_eq_true rfl) (Nat.le_of_ble_eq_true rfl)
theorem i76_37 {x : Int32} : WP V 76 37 ls (.int x :: st) t I L R Q = if x = nI 0 then WP V 76 38 ls st t I L R Q else WP V 76 40 ls st t I L R Q := wp_brn (c := m_cc .ne x 0) rfl rfl
theorem i76_38  : WP V 76 38 ls st t I L R Q = WP V 76 39 ls (.int (nI 102) :: st) t I L R Q := wp_go rfl
theorem i76_39 {x : Int32} : WP V 76 39 ls [.int x] t I L R Q = Q (some (.int x)) t I L R := wp_rti rfl rfl
theorem i76_40 {w1 w2 w3 : Value} {x : Nat} : WP V 76 40 [.ref x, w1, w2, w3] st t I L R Q = WP V 76 41 [.ref x, w1, w2, w3] (.ref x :: st) t I L R Q := wp_go rfl
theorem i76_41 {k : Nat} (h1 : k < t) (h2 : m_ob k 6 = true) : WP V 76 41 ls (.ref k :: st) t I L R Q = WP V 76 42 ls (m_rv (R k 1) :: st) t I L R Q := wp_getR rfl (by decide) h1 h2
theorem i76_42 {w0 w2 w3 : Value} {x : Int32} : WP V 76 42 [w0, .int x, w2, w3] st t I L R Q = WP V 76 43 [w0, .int x, w2, w3] (.int x :: st) t I L R Q := wp_go rfl
theorem i76_43 {w1 w2 w3 : Value} {x : Nat} : WP V 76 43 [.ref x, w1, w2, w3] st t I L R Q = WP V 76 44 [.ref x, w1, w2, w3] (.ref x :: st) t I L R Q := wp_go rfl
theorem i76_44 {k : Nat} (h1 : k < t) (h2 : m_ob k 6 = true) : WP V 76 44 ls (.ref k :: st) t I L R Q = WP V 76 45 ls (m_rv (R k 0) :: st) t I L R Q := wp_getR rfl (by decide) h1 h2
theorem i76_45 {k : Nat} (h1 : k < t) (h2 : m_ob k 3 = true) : WP V 76 45 ls (.ref k :: st) t I L R Q = WP V 76 46 ls (m_rv (R k 2) :: st) t I L R Q := wp_getR rfl (by decide) h1 h2
theorem i76_46 {k : Nat} (h1 : k < t) (h2 : m_ob k 5 = true) : WP V 76 46 ls (.ref k :: st) t I L R Q = WP V 76 47 ls (m_rv (R k 2) :: st) t I L R Q := wp_getR rfl (by decide) h1 h2
theorem i76_47 {w0 w1 w2 : Value} {x : Int32} : WP V 76 47 [w0, w1, w2, .int x] st t I L R Q = WP V 76 48 [w0, w1, w2, .int x] (.int x :: st) t I L R Q := wp_go rfl
theorem i76_48  : WP V 76 48 ls st t I L R Q = WP V 76 49 ls (.int (nI 16) :: st) t I L R Q := wp_go rfl
theorem i76_49 {x y : Int32} : WP V 76 49 ls (.int y :: .int x :: st) t I L R Q = WP V 76 50 ls (.int (x * y) :: st) t I L R Q := wp_go rfl
theorem i76_50 {w0 w1 w3 : Value} {x : Int32} : WP V 76 50 [w0, w1, .int x, w3] st t I L R Q = WP V 76 51 [w0, w1, .int x, w3] (.int x :: st) t I L R Q := wp_go rfl
theorem i76_51 {x y : Int32} : WP V 76 51 ls (.int y :: .int x :: st) t I L R Q = WP V 76 52 ls (.int (x + y) :: st) t I L R Q := wp_go rfl
theorem i76_52 {k j : Nat} (h2 : m_ar k 4 96 = true) (h1 : k < t) (h3 : j < 96) : WP V 76 52 ls (.int (nI j) :: .ref k :: st) t I L R Q = WP V 76 53 ls (.long (L k j) :: st) t I L R Q := wp_laload rfl (by decide) h1 h2 h3
theorem i76_53 {x : Int64} : WP V 76 53 ls (.long x :: st) t I L R Q = WP V 76 54 ls (.int x.toInt32 :: st) t I L R Q := wp_go rfl
theorem i76_54 {k j : Nat} {x : Int32} (h2 : m_ar k 2 581 = true) (h1 : k < t) (h3 : j < 581) : WP V 76 54 ls (.int x :: .int (nI j) :: .ref k :: st) t I L R Q = WP V 76 55 ls st t (m_sc I k (m_sc (I k) j x)) L R Q := wp_iastore rfl (by decide) h1 h2 h3
theorem i76_55  : WP V 76 55 ls st t I L R Q = WP V 76 56 ls (.int (nI 6) :: st) t I L R Q := wp_go rfl
theorem i76_56 {x : Int32} : WP V 76 56 ls [.int x] t I L R Q = Q (some (.int x)) t I L R := wp_rti rfl rfl
-- TransactionCells$Steps.scope(II)I
theorem i77_0  : WP V 77 0 ls st t I L R Q = WP V 77 1 ls (.int (nI 4) :: st) t I L R Q := wp_go rfl
theorem i77_1 {w1 : Value} {x : Int32} : WP V 77 1 [.int x, w1] st t I L R Q = WP V 77 2 [.int x, w1] (.int x :: st) t I L R Q := wp_go rfl
theorem i77_2 {x y : Int32} : WP V 77 2 ls (.int y :: .int x :: st) t I L R Q = WP V 77 3 ls (.int (x * y) :: st) t I L R Q := wp_go rfl
theorem i77_3 {w0 : Value} {x : Int32} : WP V 77 3 [w0, .int x] st t I L R Q = WP V 77 4 [w0, .int x] (.int x :: st) t I L R Q := wp_go rfl
theorem i77_4 {x y : Int32} : WP V 77 4 ls (.int y :: .int x :: st) t I L R Q = WP V 77 5 ls (.int (x + y) :: st) t I L R Q := wp_go rfl
theorem i77_5  : WP V 77 5 ls st t I L R Q = WP V 77 6 ls (.int (nI 22) :: st) t I L R Q := wp_go rfl
theorem i77_6 {x y : Int32} : WP V 77 6 ls (.int y :: .int x :: st) t I L R Q = WP V 77 7 ls (.int (x * y) :: st) t I L R Q := wp_go rfl
theorem i77_7 {x : Int32} : WP V 77 7 ls [.int x] t I L R Q = Q (some (.int x)) t I L R := wp_rti rfl rfl
-- TransactionCells$Steps.outer(I)I
theorem i78_0 {w1 : Value} {x : Nat} : WP V 78 0 [.ref x, w1] st t I L R Q = WP V 78 1 [.ref x, w1] (.ref x :: st) t I L R Q := wp_go rfl
theorem i78_1 {k : Nat} (h1 : k < t) (h2 : m_ob k 6 = true) : WP V 78 1 ls (.ref k :: st) t I L R Q = WP V 78 2 ls (m_rv (R k 1) :: st) t I L R Q := wp_getR rfl (by decide) h1 h2
theorem i78_2  : WP V 78 2 ls st t I L R Q = WP V 78 3 ls (.int (nI 15) :: st) t I L R Q := wp_go rfl
theorem i78_3 {w0 : Value} {x : Int32} : WP V 78 3 [w0, .int x] st t I L R Q = WP V 78 4 [w0, .int x] (.int x :: st) t I L R Q := wp_go rfl
theorem i78_4 {x y : Int32} : WP V 78 4 ls (.int y :: .int x :: st) t I L R Q = WP V 78 5 ls (.int (x + y) :: st) t I L R Q := wp_go rfl
theorem i78_5 {k j : Nat} (h2 : m_ar k 2 581 = true) (h1 : k < t) (h3 : j < 581) : WP V 78 5 ls (.int (nI j) :: .ref k :: st) t I L R Q = WP V 78 6 ls (.int (I k j) :: st) t I L R Q := wp_iaload rfl (by decide) h1 h2 h3
theorem i78_6  : WP V 78 6 ls st t I L R Q = WP V 78 7 ls (.int (-1) :: st) t I L R Q := wp_go rfl
theorem i78_7 {x y : Int32} : WP V 78 7 ls (.int y :: .int x :: st) t I L R Q = if x = y then WP V 78 8 ls st t I L R Q else WP V 78 10 ls st t I L R Q := wp_brn (c := m_cc .ne x y) rfl rfl
theorem i78_8  : WP V 78 8 ls st t I L R Q = WP V 78 9 ls (.int (nI 0) :: st) t I L R Q := wp_go rfl
theorem i78_9  : WP V 78 9 ls st t I L R Q = WP V 78 18 ls st t I L R Q := wp_go rfl
theorem i78_10 {w1 : Value} {x : Nat} : WP V 78 10 [.ref x, w1] st t I L R Q = WP V 78 11 [.ref x, w1] (.ref x :: st) t I L R Q := wp_go rfl
theorem i78_11 {k : Nat} (h1 : k < t) (h2 : m_ob k 6 = true) : WP V 78 11 ls (.ref k :: st) t I L R Q = WP V 78 12 ls (m_rv (R k 1) :: st) t I L R Q := wp_getR rfl (by decide) h1 h2
theorem i78_12  : WP V 78 12 ls st t I L R Q = WP V 78 13 ls (.int (nI 147) :: st) t I L R Q := wp_go rfl
theorem i78_13  : WP V 78 13 ls st t I L R Q = WP V 78 14 ls (.int (nI 47) :: st) t I L R Q := wp_go rfl
theorem i78_14 {w0 : Value} {x : Int32} : WP V 78 14 [w0, .int x] st t I L R Q = WP V 78 15 [w0, .int x] (.int x :: st) t I L R Q := wp_go rfl
theorem i78_15 {x y : Int32} : WP V 78 15 ls (.int y :: .int x :: st) t I L R Q = WP V 78 16 ls (.int (x * y) :: st) t I L R Q := wp_go rfl
theorem i78_16 {x y : Int32} : WP V 78 16 ls (.int y :: .int x :: st) t I L R Q = WP V 78 17 ls (.int (x + y) :: st) t I L R Q := wp_go rfl
theorem i78_17 {k j : Nat} (h2 : m_ar k 2 581 = true) (h1 : k < t) (h3 : j < 581) : WP V 78 17 ls (.int (nI j) :: .ref k :: st) t I L R Q = WP V 78 18 ls (.int (I k j) :: st) t I L R Q := wp_iaload rfl (by decide) h1 h2 h3
theorem i78_18 {x : Int32} : WP V 78 18 ls [.int x] t I L R Q = Q (some (.int x)) t I L R := wp_rti rfl rfl
-- TransactionCells$Steps.open(III)I
theorem i79_0 {w1 w2 w3 w4 w5 : Value} {x : Nat} : WP V 79 0 [.ref x, w1, w2, w3, w4, w5] st t I L R Q = WP V 79 1 [.ref x, w1, w2, w3, w4, w5] (.ref x :: st) t I L R Q := wp_go rfl
theorem i79_1 {k : Nat} (h1 : k < t) (h2 : m_ob k 6 = true) : WP V 79 1 ls (.ref k :: st) t I L R Q = WP V 79 2 ls (m_rv (R k 1) :: st) t I L R Q := wp_getR rfl (by decide) h1 h2
theorem i79_2  : WP V 79 2 ls st t I L R Q = WP V 79 3 ls (.int (nI 15) :: st) t I L R Q := wp_go rfl
theorem i79_3 {w0 w2 w3 w4 w5 : Value} {x : Int32} : WP V 79 3 [w0, .int x, w2, w3, w4, w5] st t I L R Q = WP V 79 4 [w0, .int x, w2, w3, w4, w5] (.int x :: st) t I L R Q := wp_go rfl
theorem i79_4 {x y : Int32} : WP V 79 4 ls (.int y :: .int x :: st) t I L R Q = WP V 79 5 ls (.int (x + y) :: st) t I L R Q := wp_go rfl
theorem i79_5 {k j : Nat} (h2 : m_ar k 2 581 = true) (h1 : k < t) (h3 : j < 581) : WP V 79 5 ls (.int (nI j) :: .ref k :: st) t I L R Q = WP V 79 6 ls (.int (I k j) :: st) t I L R Q := wp_iaload rfl (by decide) h1 h2 h3
theorem i79_6 {p : Int32} {w0 w1 w2 w4 w5 : Value} {x : Int32} : WP V 79 6 [w0, w1, w2, .int p, w4, w5] (.int x :: st) t I L R Q = WP V 79 7 [w0, w1, w2, .int p, .int x, w5] st t I L R Q := wp_go rfl
theorem i79_7 {w0 w1 w3 w4 w5 : Value} {x : Int32} : WP V 79 7 [w0, w1, .int x, w3, w4, w5] st t I L R Q = WP V 79 8 [w0, w1, .int x, w3, w4, w5] (.int x :: st) t I L R Q := wp_go rfl
theorem i79_8  : WP V 79 8 ls st t I L R Q = WP V 79 9 ls (.int (nI 14) :: st) t I L R Q := wp_go rfl
theorem i79_9 {x y : Int32} : WP V 79 9 ls (.int y :: .int x :: st) t I L R Q = if x = y then WP V 79 10 ls st t I L R Q else WP V 79 15 ls st t I L R Q := wp_brn (c := m_cc .ne x y) rfl rfl
theorem i79_10 {w0 w1 w2 w3 w5 : Value} {x : Int32} : WP V 79 10 [w0, w1, w2, w3, .int x, w5] st t I L R Q = WP V 79 11 [w0, w1, w2, w3, .int x, w5] (.int x :: st) t I L R Q := wp_go rfl
theorem i79_11  : WP V 79 11 ls st t I L R Q = WP V 79 12 ls (.int (nI 2) :: st) t I L R Q := wp_go rfl
theorem i79_12 {x y : Int32} : WP V 79 12 ls (.int y :: .int x :: st) t I L R Q = if x = y then WP V 79 15 ls st t I L R Q else WP V 79 13 ls st t I L R Q := wp_br (c := m_cc .eq x y) rfl rfl
theorem i79_13  : WP V 79 13 ls st t I L R Q = WP V 79 14 ls (.int (nI 105) :: st) t I L R Q := wp_go rfl
theorem i79_14 {x : Int32} : WP V 79 14 ls [.int x] t I L R Q = Q (some (.int x)) t I L R := wp_rti rfl rfl
theorem i79_15 {w0 w1 w3 w4 w5 : Value} {x : Int32} : WP V 79 15 [w0, w1, .int x, w3, w4, w5] st t I L R Q = WP V 79 16 [w0, w1, .int x, w3, w4, w5] (.int x :: st) t I L R Q := wp_go rfl
theorem i79_16  : WP V 79 16 ls st t I L R Q = WP V 79 17 ls (.int (nI 16) :: st) t I L R Q := wp_go rfl
theorem i79_17 {x y : Int32} : WP V 79 17 ls (.int y :: .int x :: st) t I L R Q = if x = y then WP V 79 18 ls st t I L R Q else WP V 79 26 ls st t I L R Q := wp_brn (c := m_cc .ne x y) rfl rfl
theorem i79_18 {w0 w1 w2 w3 w5 : Value} {x : Int32} : WP V 79 18 [w0, w1, w2, w3, .int x, w5] st t I L R Q = WP V 79 19 [w0, w1, w2, w3, .int x, w5] (.int x :: st) t I L R Q := wp_go rfl
theorem i79_19  : WP V 79 19 ls st t I L R Q = WP V 79 20 ls (.int (-1) :: st) t I L R Q := wp_go rfl
theorem i79_20 {x y : Int32} : WP V 79 20 ls (.int y :: .int x :: st) t I L R Q = if x = y then WP V 79 24 ls st t I L R Q else WP V 79 21 ls st t I L R Q := wp_br (c := m_cc .eq x y) rfl rfl
theorem i79_21 {w0 w1 w2 w3 w5 : Value} {x : Int32} : WP V 79 21 [w0, w1, w2, w3, .int x, w5] st t I L R Q = WP V 79 22 [w0, w1, w2, w3, .int x, w5] (.int x :: st) t I L R Q := wp_go rfl
theorem i79_22  : WP V 79 22 ls st t I L R Q = WP V 79 23 ls (.int (nI 3) :: st) t I L R Q := wp_go rfl
theorem i79_23 {x y : Int32} : WP V 79 23 ls (.int y :: .int x :: st) t I L R Q = if x = y then WP V 79 24 ls st t I L R Q else WP V 79 26 ls st t I L R Q := wp_brn (c := m_cc .ne x y) rfl rfl
theorem i79_24  : WP V 79 24 ls st t I L R Q = WP V 79 25 ls (.int (nI 105) :: st) t I L R Q := wp_go rfl
theorem i79_25 {x : Int32} : WP V 79 25 ls [.int x] t I L R Q = Q (some (.int x)) t I L R := wp_rti rfl rfl
theorem i79_26 {w1 w2 w3 w4 w5 : Value} {x : Nat} : WP V 79 26 [.ref x, w1, w2, w3, w4, w5] st t I L R Q = WP V 79 27 [.ref x, w1, w2, w3, w4, w5] (.ref x :: st) t I L R Q := wp_go rfl
theorem i79_27 {k : Nat} (h1 : k < t) (h2 : m_ob k 6 = true) : WP V 79 27 ls (.ref k :: st) t I L R Q = WP V 79 28 ls (m_rv (R k 1) :: st) t I L R Q := wp_getR rfl (by decide) h1 h2
theorem i79_28  : WP V 79 28 ls st t I L R Q = WP V 79 29 ls (.int (nI 12) :: st) t I L R Q := wp_go rfl
theorem i79_29 {w0 w2 w3 w4 w5 : Value} {x : Int32} : WP V 79 29 [w0, .int x, w2, w3, w4, w5] st t I L R Q = WP V 79 30 [w0, .int x, w2, w3, w4, w5] (.int x :: st) t I L R Q := wp_go rfl
theorem i79_30 {x y : Int32} : WP V 79 30 ls (.int y :: .int x :: st) t I L R Q = WP V 79 31 ls (.int (x + y) :: st) t I L R Q := wp_go rfl
theorem i79_31 {k j : Nat} (h2 : m_ar k 2 581 = true) (h1 : k < t) (h3 : j < 581) : WP V 79 31 ls (.int (nI j) :: .ref k :: st) t I L R Q = WP V 79 32 ls (.int (I k j) :: st) t I L R Q := wp_iaload rfl (by decide) h1 h2 h3
theorem i79_32  : WP V 79 32 ls st t I L R Q = WP V 79 33 ls (.int (nI 4) :: st) t I L R Q := wp_go rfl
theorem i79_33 {x y : Int32} : WP V 79 33 ls (.int y :: .int x :: st) t I L R Q = if x < y then WP V 79 36 ls st t I L R Q else WP V 79 34 ls st t I L R Q := wp_br (c := m_cc .lt x y) rfl rfl
theorem i79_34  : WP V 79 34 ls st t I L R Q = WP V 79 35 ls (.int (nI 105) :: st) t I L R Q := wp_go rfl
theorem i79_35 {x : Int32} : WP V 79 35 ls [.int x] t I L R Q = Q (some (.int x)) t I L R := wp_rti rfl rfl
theorem i79_36 {w0 w2 w3 w4 w5 : Value} {x : Int32} : WP V 79 36 [w0, .int x, w2, w3, w4, w5] st t I L R Q = WP V 79 37 [w0, .int x, w2, w3, w4, w5] (.int x :: st) t I L R Q := wp_go rfl
theorem i79_37 {w1 w2 w3 w4 w5 : Value} {x : Nat} : WP V 79 37 [.ref x, w1, w2, w3, w4, w5] st t I L R Q = WP V 79 38 [.ref x, w1, w2, w3, w4, w5] (.ref x :: st) t I L R Q := wp_go rfl
theorem i79_38 {k : Nat} (h1 : k < t) (h2 : m_ob k 6 = true) : WP V 79 38 ls (.ref k :: st) t I L R Q = WP V 79 39 ls (m_rv (R k 1) :: st) t I L R Q := wp_getR rfl (by decide) h1 h2
theorem i79_39  : WP V 79 39 ls st t I L R Q = WP V 79 40 ls (.int (nI 12) :: st) t I L R Q := wp_go rfl
theorem i79_40 {w0 w2 w3 w4 w5 : Value} {x : Int32} : WP V 79 40 [w0, .int x, w2, w3, w4, w5] st t I L R Q = WP V 79 41 [w0, .int x, w2, w3, w4, w5] (.int x :: st) t I L R Q := wp_go rfl
theorem i79_41 {x y : Int32} : WP V 79 41 ls (.int y :: .int x :: st) t I L R Q = WP V 79 42 ls (.int (x + y) :: st) t I L R Q := wp_go rfl
theorem i79_42 {v0 : Int32} {v1 : Nat} : WP V 79 42 ls (.int v0 :: .ref v1 :: st) t I L R Q = WP V 79 43 ls (.int v0 :: .ref v1 :: .int v0 :: .ref v1 :: st) t I L R Q := wp_go rfl
theorem i79_43 {k j : Nat} (h2 : m_ar k 2 581 = true) (h1 : k < t) (h3 : j < 581) : WP V 79 43 ls (.int (nI j) :: .ref k :: st) t I L R Q = WP V 79 44 ls (.int (I k j) :: st) t I L R Q := wp_iaload rfl (by decide) h1 h2 h3
theorem i79_44 {v0 : Int32} {v1 : Int32} {v2 : Nat} : WP V 79 44 ls (.int v0 :: .int v1 :: .ref v2 :: st) t I L R Q = WP V 79 45 ls (.int v0 :: .int v1 :: .ref v2 :: .int v0 :: st) t I L R Q := wp_go rfl
theorem i79_45  : WP V 79 45 ls st t I L R Q = WP V 79 46 ls (.int (nI 1) :: st) t I L R Q := wp_go rfl
theorem i79_46 {x y : Int32} : WP V 79 46 ls (.int y :: .int x :: st) t I L R Q = WP V 79 47 ls (.int (x + y) :: st) t I L R Q := wp_go rfl
theorem i79_47 {k j : Nat} {x : Int32} (h2 : m_ar k 2 581 = true) (h1 : k < t) (h3 : j < 581) : WP V 79 47 ls (.int x :: .int (nI j) :: .ref k :: st) t I L R Q = WP V 79 48 ls st t (m_sc I k (m_sc (I k) j x)) L R Q := wp_iastore rfl (by decide) h1 h2 h3
theorem i79_48 {x0 : Int32} {x1 : Int32}  : WP V 79 48 ls [.int x0, .int x1] t I L R Q = WPC V 77 [.int x1, .int x0] 79 49 ls [] t I L R Q := wp_cls (wp_ics rfl (by decide)) (by decide) (Nat.le_of_ble_eq_true rfl) rfl rfl (Nat.le_of_ble_eq_true rfl) (Nat.le_of_ble_eq_true rfl)
theorem i79_49 {p : Int32} {w0 w1 w2 w3 w5 : Value} {x : Int32} : WP V 79 49 [w0, w1, w2, w3, .int p, w5] (.int x :: st) t I L R Q = WP V 79 50 [w0, w1, w2, w3, .int p, .int x] st t I L R Q := wp_go rfl
theorem i79_50 {w1 w2 w3 w4 w5 : Value} {x : Nat} : WP V 79 50 [.ref x, w1, w2, w3, w4, w5] st t I L R Q = WP V 79 51 [.ref x, w1, w2, w3, w4, w5] (.ref x :: st) t I L R Q := wp_go rfl
theorem i79_51 {k : Nat} (h1 : k < t) (h2 : m_ob k 6 = true) : WP V 79 51 ls (.ref k :: st) t I L R Q = WP V 79 52 ls (m_rv (R k 1) :: st) t I L R Q := wp_getR rfl (by decide) h1 h2
theorem i79_52  : WP V 79 52 ls st t I L R Q = WP V 79 53 ls (.int (nI 286) :: st) t I L R Q := wp_go rfl
theorem i79_53 {w0 w1 w2 w3 w4 : Value} {x : Int32} : WP V 79 53 [w0, w1, w2, w3, w4, .int x] st t I L R Q = WP V 79 54 [w0, w1, w2, w3, w4, .int x] (.int x :: st) t I L R Q := wp_go rfl
theorem i79_54 {x y : Int32} : WP V 79 54 ls (.int y :: .int x :: st) t I L R Q = WP V 79 55 ls (.int (x + y) :: st) t I L R Q := wp_go rfl
theorem i79_55 {w0 w1 w3 w4 w5 : Value} {x : Int32} : WP V 79 55 [w0, w1, .int x, w3, w4, w5] st t I L R Q = WP V 79 56 [w0, w1, .int x, w3, w4, w5] (.int x :: st) t I L R Q := wp_go rfl
theorem i79_56 {k j : Nat} {x : Int32} (h2 : m_ar k 2 581 = true) (h1 : k < t) (h3 : j < 581) : WP V 79 56 ls (.int x :: .int (nI j) :: .ref k :: st) t I L R Q = WP V 79 57 ls st t (m_sc I k (m_sc (I k) j x)) L R Q := wp_iastore rfl (by decide) h1 h2 h3
theorem i79_57 {w1 w2 w3 w4 w5 : Value} {x : Nat} : WP V 79 57 [.ref x, w1, w2, w3, w4, w5] st t I L R Q = WP V 79 58 [.ref x, w1, w2, w3, w4, w5] (.ref x :: st) t I L R Q := wp_go rfl
theorem i79_58 {k : Nat} (h1 : k < t) (h2 : m_ob k 6 = true) : WP V 79 58 ls (.ref k :: st) t I L R Q = WP V 79 59 ls (m_rv (R k 1) :: st) t I L R Q := wp_getR rfl (by decide) h1 h2
theorem i79_59  : WP V 79 59 ls st t I L R Q = WP V 79 60 ls (.int (nI 287) :: st) t I L R Q := wp_go rfl
theorem i79_60 {w0 w1 w2 w3 w4 : Value} {x : Int32} : WP V 79 60 [w0, w1, w2, w3, w4, .int x] st t I L R Q = WP V 79 61 [w0, w1, w2, w3, w4, .int x] (.int x :: st) t I L R Q := wp_go rfl
theorem i79_61 {x y : Int32} : WP V 79 61 ls (.int y :: .int x :: st) t I L R Q = WP V 79 62 ls (.int (x + y) :: st) t I L R Q := wp_go rfl
theorem i79_62 {w0 w1 w2 w4 w5 : Value} {x : Int32} : WP V 79 62 [w0, w1, w2, .int x, w4, w5] st t I L R Q = WP V 79 63 [w0, w1, w2, .int x, w4, w5] (.int x :: st) t I L R Q := wp_go rfl
theorem i79_63 {k j : Nat} {x : Int32} (h2 : m_ar k 2 581 = true) (h1 : k < t) (h3 : j < 581) : WP V 79 63 ls (.int x :: .int (nI j) :: .ref k :: st) t I L R Q = WP V 79 64 ls st t (m_sc I k (m_sc (I k) j x)) L R Q := wp_iastore rfl (by decide) h1 h2 h3
theorem i79_64 {w1 w2 w3 w4 w5 : Value} {x : Nat} : WP V 79 64 [.ref x, w1, w2, w3, w4, w5] st t I L R Q = WP V 79 65 [.ref x, w1, w2, w3, w4, w5] (.ref x :: st) t I L R Q := wp_go rfl
theorem i79_65 {k : Nat} (h1 : k < t) (h2 : m_ob k 6 = true) : WP V 79 65 ls (.ref k :: st) t I L R Q = WP V 79 66 ls (m_rv (R k 1) :: st) t I L R Q := wp_getR rfl (by decide) h1 h2
theorem i79_66  : WP V 79 66 ls st t I L R Q = WP V 79 67 ls (.int (nI 288) :: st) t I L R Q := wp_go rfl
theorem i79_67 {w0 w1 w2 w3 w4 : Value} {x : Int32} : WP V 79 67 [w0, w1, w2, w3, w4, .int x] st t I L R Q = WP V 79 68 [w0, w1, w2, w3, w4, .int x] (.int x :: st) t I L R Q := wp_go rfl
theorem i79_68 {x y : Int32} : WP V 79 68 ls (.int y :: .int x :: st) t I L R Q = WP V 79 69 ls (.int (x + y) :: st) t I L R Q := wp_go rfl
theorem i79_69  : WP V 79 69 ls st t I L R Q = WP V 79 70 ls (.int (nI 286) :: st) t I L R Q := wp_go rfl
theorem i79_70 {w0 w1 w2 w3 w4 : Value} {x : Int32} : WP V 79 70 [w0, w1, w2, w3, w4, .int x] st t I L R Q = WP V 79 71 [w0, w1, w2, w3, w4, .int x] (.int x :: st) t I L R Q := wp_go rfl
theorem i79_71 {x y : Int32} : WP V 79 71 ls (.int y :: .int x :: st) t I L R Q = WP V 79 72 ls (.int (x + y) :: st) t I L R Q := wp_go rfl
theorem i79_72  : WP V 79 72 ls st t I L R Q = WP V 79 73 ls (.int (nI 22) :: st) t I L R Q := wp_go rfl
theorem i79_73 {x y : Int32} : WP V 79 73 ls (.int y :: .int x :: st) t I L R Q = WP V 79 74 ls (.int (x + y) :: st) t I L R Q := wp_go rfl
theorem i79_74  : WP V 79 74 ls st t I L R Q = WP V 79 75 ls (.int (nI 0) :: st) t I L R Q := wp_go rfl
theorem i79_75 {x0 : Int32} {x1 : Int32} {x2 : Int32} {x3 : Nat}  : WP V 79 75 ls [.int x0, .int x1, .int x2, .ref x3] t I L R Q = WPC V 197 [.ref x3, .int x2, .int x1, .int x0] 79 76 ls [] t I L R Q := wp_cls (wp_ics rfl (by decide)) (by decide) (Nat.le_of_ble_eq_true rfl) rfl rfl (Nat.le_of_ble_eq_true rfl) (Nat.le_of_ble_eq_true rfl)
theorem i79_76 {w0 w1 w3 w4 w5 : Value} {x : Int32} : WP V 79 76 [w0, w1, .int x, w3, w4, w5] st t I L R Q = WP V 79 77 [w0, w1, .int x, w3, w4, w5] (.int x :: st) t I L R Q := wp_go rfl
theorem i79_77  : WP V 79 77 ls st t I L R Q = WP V 79 78 ls (.int (nI 18) :: st) t I L R Q := wp_go rfl
theorem i79_78 {x y : Int32} : WP V 79 78 ls (.int y :: .int x :: st) t I L R Q = if x = y then WP V 79 79 ls st t I L R Q else WP V 79 81 ls st t I L R Q := wp_brn (c := m_cc .ne x y) rfl rfl
theorem i79_79  : WP V 79 79 ls st t I L R Q = WP V 79 80 ls (.int (nI 6) :: st) t I L R Q := wp_go rfl
theorem i79_80 {x : Int32} : WP V 79 80 ls [.int x] t I L R Q = Q (some (.int x)) t I L R := wp_rti rfl rfl
theorem i79_81 {w1 w2 w3 w4 w5 : Value} {x : Nat} : WP V 79 81 [.ref x, w1, w2, w3, w4, w5] st t I L R Q = WP V 79 82 [.ref x, w1, w2, w3, w4, w5] (.ref x :: st) t I L R Q := wp_go rfl
theorem i79_82 {k : Nat} (h1 : k < t) (h2 : m_ob k 6 = true) : WP V 79 82 ls (.ref k :: st) t I L R Q = WP V 79 83 ls (m_rv (R k 1) :: st) t I L R Q := wp_getR rfl (by decide) h1 h2
theorem i79_83  : WP V 79 83 ls st t I L R Q = WP V 79 84 ls (.int (nI 21) :: st) t I L R Q := wp_go rfl
theorem i79_84  : WP V 79 84 ls st t I L R Q = WP V 79 85 ls (.int (nI 4) :: st) t I L R Q := wp_go rfl
theorem i79_85 {w0 w2 w3 w4 w5 : Value} {x : Int32} : WP V 79 85 [w0, .int x, w2, w3, w4, w5] st t I L R Q = WP V 79 86 [w0, .int x, w2, w3, w4, w5] (.int x :: st) t I L R Q := wp_go rfl
theorem i79_86 {x y : Int32} : WP V 79 86 ls (.int y :: .int x :: st) t I L R Q = WP V 79 87 ls (.int (x * y) :: st) t I L R Q := wp_go rfl
theorem i79_87 {x y : Int32} : WP V 79 87 ls (.int y :: .int x :: st) t I L R Q = WP V 79 88 ls (.int (x + y) :: st) t I L R Q := wp_go rfl
theorem i79_88 {w1 w2 w3 w4 w5 : Value} {x : Nat} : WP V 79 88 [.ref x, w1, w2, w3, w4, w5] st t I L R Q = WP V 79 89 [.ref x, w1, w2, w3, w4, w5] (.ref x :: st) t I L R Q := wp_go rfl
theorem i79_89 {k : Nat} (h1 : k < t) (h2 : m_ob k 6 = true) : WP V 79 89 ls (.ref k :: st) t I L R Q = WP V 79 90 ls (m_rv (R k 1) :: st) t I L R Q := wp_getR rfl (by decide) h1 h2
theorem i79_90  : WP V 79 90 ls st t I L R Q = WP V 79 91 ls (.int (nI 288) :: st) t I L R Q := wp_go rfl
theorem i79_91 {w0 w1 w2 w3 w4 : Value} {x : Int32} : WP V 79 91 [w0, w1, w2, w3, w4, .int x] st t I L R Q = WP V 79 92 [w0, w1, w2, w3, w4, .int x] (.int x :: st) t I L R Q := wp_go rfl
theorem i79_92 {x y : Int32} : WP V 79 92 ls (.int y :: .int x :: st) t I L R Q = WP V 79 93 ls (.int (x + y) :: st) t I L R Q := wp_go rfl
theorem i79_93  : WP V 79 93 ls st t I L R Q = WP V 79 94 ls (.int (nI 4) :: st) t I L R Q := wp_go rfl
theorem i79_94 {s d sp dp cnt : Nat} (h3 : m_ar s 2 581 = true) (h4 : m_ar d 2 581 = true) (h1 : s < t) (h2 : d < t) (h5 : sp + cnt ≤ 581) (h6 : dp + cnt ≤ 581) : WP V 79 94 ls [.int (nI cnt), .int (nI dp), .ref d, .int (nI sp), .ref s] t I L R Q = WP V 79 95 ls [] t (m_sc I d (va_cpy (I s) (I d) sp dp cnt)) L R Q := wp_copyi rfl (by decide) (by decide) h1 h2 h3 h4 h5 h6 (by decide)
theorem i79_95 {w1 w2 w3 w4 w5 : Value} {x : Nat} : WP V 79 95 [.ref x, w1, w2, w3, w4, w5] st t I L R Q = WP V 79 96 [.ref x, w1, w2, w3, w4, w5] (.ref x :: st) t I L R Q := wp_go rfl
theorem i79_96 {k : Nat} (h1 : k < t) (h2 : m_ob k 6 = true) : WP V 79 96 ls (.ref k :: st) t I L R Q = WP V 79 97 ls (m_rv (R k 1) :: st) t I L R Q := wp_getR rfl (by decide) h1 h2
theorem i79_97  : WP V 79 97 ls st t I L R Q = WP V 79 98 ls (.int (nI 176) :: st) t I L R Q := wp_go rfl
theorem i79_98  : WP V 79 98 ls st t I L R Q = WP V 79 99 ls (.int (nI 47) :: st) t I L R Q := wp_go rfl
theorem i79_99 {w0 w2 w3 w4 w5 : Value} {x : Int32} : WP V 79 99 [w0, .int x, w2, w3, w4, w5] st t I L R Q = WP V 79 100 [w0, .int x, w2, w3, w4, w5] (.int x :: st) t I L R Q := wp_go rfl
theorem i79_100 {x y : Int32} : WP V 79 100 ls (.int y :: .int x :: st) t I L R Q = WP V 79 101 ls (.int (x * y) :: st) t I L R Q := wp_go rfl
theorem i79_101 {x y : Int32} : WP V 79 101 ls (.int y :: .int x :: st) t I L R Q = WP V 79 102 ls (.int (x + y) :: st) t I L R Q := wp_go rfl
theorem i79_102 {w1 w2 w3 w4 w5 : Value} {x : Nat} : WP V 79 102 [.ref x, w1, w2, w3, w4, w5] st t I L R Q = WP V 79 103 [.ref x, w1, w2, w3, w4, w5] (.ref x :: st) t I L R Q := wp_go rfl
theorem i79_103 {k : Nat} (h1 : k < t) (h2 : m_ob k 6 = true) : WP V 79 103 ls (.ref k :: st) t I L R Q = WP V 79 104 ls (m_rv (R k 1) :: st) t I L R Q := wp_getR rfl (by decide) h1 h2
theorem i79_104  : WP V 79 104 ls st t I L R Q = WP V 79 105 ls (.int (nI 292) :: st) t I L R Q := wp_go rfl
theorem i79_105 {w0 w1 w2 w3 w4 : Value} {x : Int32} : WP V 79 105 [w0, w1, w2, w3, w4, .int x] st t I L R Q = WP V 79 106 [w0, w1, w2, w3, w4, .int x] (.int x :: st) t I L R Q := wp_go rfl
theorem i79_106 {x y : Int32} : WP V 79 106 ls (.int y :: .int x :: st) t I L R Q = WP V 79 107 ls (.int (x + y) :: st) t I L R Q := wp_go rfl
theorem i79_107  : WP V 79 107 ls st t I L R Q = WP V 79 108 ls (.int (nI 16) :: st) t I L R Q := wp_go rfl
theorem i79_108 {s d sp dp cnt : Nat} (h3 : m_ar s 2 581 = true) (h4 : m_ar d 2 581 = true) (h1 : s < t) (h2 : d < t) (h5 : sp + cnt ≤ 581) (h6 : dp + cnt ≤ 581) : WP V 79 108 ls [.int (nI cnt), .int (nI dp), .ref d, .int (nI sp), .ref s] t I L R Q = WP V 79 109 ls [] t (m_sc I d (va_cpy (I s) (I d) sp dp cnt)) L R Q := wp_copyi rfl (by decide) (by decide) h1 h2 h3 h4 h5 h6 (by decide)
theorem i79_109  : WP V 79 109 ls st t I L R Q = WP V 79 110 ls (.int (nI 6) :: st) t I L R Q := wp_go rfl
theorem i79_110 {x : Int32} : WP V 79 110 ls [.int x] t I L R Q = Q (some (.int x)) t I L R := wp_rti rfl rfl
-- TransactionCells$Steps.close(II)I
theorem i80_0 {w1 w2 w3 : Value} {x : Nat} : WP V 80 0 [.ref x, w1, w2, w3] st t I L R Q = WP V 80 1 [.ref x, w1, w2, w3] (.ref x :: st) t I L R Q := wp_go rfl
theorem i80_1 {k : Nat} (h1 : k < t) (h2 : m_ob k 6 = true) : WP V 80 1 ls (.ref k :: st) t I L R Q = WP V 80 2 ls (m_rv (R k 1) :: st) t I L R Q := wp_getR rfl (by decide) h1 h2
theorem i80_2  : WP V 80 2 ls st t I L R Q = WP V 80 3 ls (.int (nI 12) :: st) t I L R Q := wp_go rfl
theorem i80_3 {w0 w2 w3 : Value} {x : Int32} : WP V 80 3 [w0, .int x, w2, w3] st t I L R Q = WP V 80 4 [w0, .int x, w2, w3] (.int x :: st) t I L R Q := wp_go rfl
theorem i80_4 {x y : Int32} : WP V 80 4 ls (.int y :: .int x :: st) t I L R Q = WP V 80 5 ls (.int (x + y) :: st) t I L R Q := wp_go rfl
theorem i80_5 {k j : Nat} (h2 : m_ar k 2 581 = true) (h1 : k < t) (h3 : j < 581) : WP V 80 5 ls (.int (nI j) :: .ref k :: st) t I L R Q = WP V 80 6 ls (.int (I k j) :: st) t I L R Q := wp_iaload rfl (by decide) h1 h2 h3
theorem i80_6  : WP V 80 6 ls st t I L R Q = WP V 80 7 ls (.int (nI 1) :: st) t I L R Q := wp_go rfl
theorem i80_7 {x y : Int32} : WP V 80 7 ls (.int y :: .int x :: st) t I L R Q = WP V 80 8 ls (.int (x - y) :: st) t I L R Q := wp_go rfl
theorem i80_8 {p : Int32} {w0 w1 w3 : Value} {x : Int32} : WP V 80 8 [w0, w1, .int p, w3] (.int x :: st) t I L R Q = WP V 80 9 [w0, w1, .int p, .int x] st t I L R Q := wp_go rfl
theorem i80_9 {w0 w1 w2 : Value} {x : Int32} : WP V 80 9 [w0, w1, w2, .int x] st t I L R Q = WP V 80 10 [w0, w1, w2, .int x] (.int x :: st) t I L R Q := wp_go rfl
theorem i80_10 {w1 w2 w3 : Value} {x : Nat} : WP V 80 10 [.ref x, w1, w2, w3] st t I L R Q = WP V 80 11 [.ref x, w1, w2, w3] (.ref x :: st) t I L R Q := wp_go rfl
theorem i80_11 {w0 w2 w3 : Value} {x : Int32} : WP V 80 11 [w0, .int x, w2, w3] st t I L R Q = WP V 80 12 [w0, .int x, w2, w3] (.int x :: st) t I L R Q := wp_go rfl
theorem i80_12 {x0 : Int32} {x1 : Nat} {r0 : Int32} (h1 : x1 < t) (h2 : m_ob x1 6 = true) : WP V 80 12 ls [.int x0, .ref x1, .int r0] t I L R Q = WPC V 78 [.ref x1, .int x0] 80 13 ls [.int r0] t I L R Q := wp_cls (wp_icv rfl rfl h1 h2) (by decide) (Nat.le_of_ble_eq_true rfl) rfl rfl (Nat.le_of_ble_eq_true rfl) (Nat.le_of_ble_eq_true rfl)
theorem i80_13 {x y : Int32} : WP V 80 13 ls (.int y :: .int x :: st) t I L R Q = if x < y then WP V 80 24 ls st t I L R Q else WP V 80 14 ls st t I L R Q := wp_br (c := m_cc .lt x y) rfl rfl
theorem i80_14 {w1 w2 w3 : Value} {x : Nat} : WP V 80 14 [.ref x, w1, w2, w3] st t I L R Q = WP V 80 15 [.ref x, w1, w2, w3] (.ref x :: st) t I L R Q := wp_go rfl
theorem i80_15 {k : Nat} (h1 : k < t) (h2 : m_ob k 6 = true) : WP V 80 15 ls (.ref k :: st) t I L R Q = WP V 80 16 ls (m_rv (R k 1) :: st) t I L R Q := wp_getR rfl (by decide) h1 h2
theorem i80_16  : WP V 80 16 ls st t I L R Q = WP V 80 17 ls (.int (nI 286) :: st) t I L R Q := wp_go rfl
theorem i80_17 {w0 w2 w3 : Value} {x : Int32} : WP V 80 17 [w0, .int x, w2, w3] st t I L R Q = WP V 80 18 [w0, .int x, w2, w3] (.int x :: st) t I L R Q := wp_go rfl
theorem i80_18 {w0 w1 w2 : Value} {x : Int32} : WP V 80 18 [w0, w1, w2, .int x] st t I L R Q = WP V 80 19 [w0, w1, w2, .int x] (.int x :: st) t I L R Q := wp_go rfl
theorem i80_19 {x0 : Int32} {x1 : Int32} {r0 : Int32} {r1 : Nat} : WP V 80 19 ls [.int x0, .int x1, .int r0, .ref r1] t I L R Q = WPC V 77 [.int x1, .int x0] 80 20 ls [.int r0, .ref r1] t I L R Q := wp_cls (wp_ics rfl (by decide)) (by decide) (Nat.le_of_ble_eq_true rfl) rfl rfl (Nat.le_of_ble_eq_true rfl) (Nat.le_of_ble_eq_true rfl)
theorem i80_20 {x y : Int32} : WP V 80 20 ls (.int y :: .int x :: st) t I L R Q = WP V 80 21 ls (.int (x + y) :: st) t I L R Q := wp_go rfl
theorem i80_21 {k j : Nat} (h2 : m_ar k 2 581 = true) (h1 : k < t) (h3 : j < 581) : WP V 80 21 ls (.int (nI j) :: .ref k :: st) t I L R Q = WP V 80 22 ls (.int (I k j) :: st) t I L R Q := wp_iaload rfl (by decide) h1 h2 h3
theorem i80_22 {w0 w1 w3 : Value} {x : Int32} : WP V 80 22 [w0, w1, .int x, w3] st t I L R Q = WP V 80 23 [w0, w1, .int x, w3] (.int x :: st) t I L R Q := wp_go rfl
theorem i80_23 {x y : Int32} : WP V 80 23 ls (.int y :: .int x :: st) t I L R Q = if x = y then WP V 80 26 ls st t I L R Q else WP V 80 24 ls st t I L R Q := wp_br (c := m_cc .eq x y) rfl rfl
theorem i80_24  : WP V 80 24 ls st t I L R Q = WP V 80 25 ls (.int (nI 105) :: st) t I L R Q := wp_go rfl
theorem i80_25 {x : Int32} : WP V 80 25 ls [.int x] t I L R Q = Q (some (.int x)) t I L R := wp_rti rfl rfl
theorem i80_26 {w1 w2 w3 : Value} {x : Nat} : WP V 80 26 [.ref x, w1, w2, w3] st t I L R Q = WP V 80 27 [.ref x, w1, w2, w3] (.ref x :: st) t I L R Q := wp_go rfl
theorem i80_27 {k : Nat} (h1 : k < t) (h2 : m_ob k 6 = true) : WP V 80 27 ls (.ref k :: st) t I L R Q = WP V 80 28 ls (m_rv (R k 1) :: st) t I L R Q := wp_getR rfl (by decide) h1 h2
theorem i80_28  : WP V 80 28 ls st t I L R Q = WP V 80 29 ls (.int (nI 12) :: st) t I L R Q := wp_go rfl
theorem i80_29 {w0 w2 w3 : Value} {x : Int32} : WP V 80 29 [w0, .int x, w2, w3] st t I L R Q = WP V 80 30 [w0, .int x, w2, w3] (.int x :: st) t I L R Q := wp_go rfl
theorem i80_30 {x y : Int32} : WP V 80 30 ls (.int y :: .int x :: st) t I L R Q = WP V 80 31 ls (.int (x + y) :: st) t I L R Q := wp_go rfl
theorem i80_31 {w0 w1 w2 : Value} {x : Int32} : WP V 80 31 [w0, w1, w2, .int x] st t I L R Q = WP V 80 32 [w0, w1, w2, .int x] (.int x :: st) t I L R Q := wp_go rfl
theorem i80_32 {k j : Nat} {x : Int32} (h2 : m_ar k 2 581 = true) (h1 : k < t) (h3 : j < 581) : WP V 80 32 ls (.int x :: .int (nI j) :: .ref k :: st) t I L R Q = WP V 80 33 ls st t (m_sc I k (m_sc (I k) j x)) L R Q := wp_iastore rfl (by decide) h1 h2 h3
theorem i80_33  : WP V 80 33 ls st t I L R Q = WP V 80 34 ls (.int (nI 6) :: st) t I L R Q := wp_go rfl
theorem i80_34 {x : Int32} : WP V 80 34 ls [.int x] t I L R Q = Q (some (.int x)) t I L R := wp_rti rfl rfl
-- TransactionCells$Steps.bringBack(II)V
theorem i81_0 {w1 w2 : Value} {x : Nat} : WP V 81 0 [.ref x, w1, w2] st t I L R Q = WP V 81 1 [.ref x, w1, w2] (.ref x :: st) t I L R Q := wp_go rfl
theorem i81_1 {k : Nat} (h1 : k < t) (h2 : m_ob k 6 = true) : WP V 81 1 ls (.ref k :: st) t I L R Q = WP V 81 2 ls (m_rv (R k 1) :: st) t I L R Q := wp_getR rfl (by decide) h1 h2
theorem i81_2  : WP V 81 2 ls st t I L R Q = WP V 81 3 ls (.int (nI 288) :: st) t I L R Q := wp_go rfl
theorem i81_3 {w0 w1 : Value} {x : Int32} : WP V 81 3 [w0, w1, .int x] st t I L R Q = WP V 81 4 [w0, w1, .int x] (.int x :: st) t I L R Q := wp_go rfl
theorem i81_4 {x y : Int32} : WP V 81 4 ls (.int y :: .int x :: st) t I L R Q = WP V 81 5 ls (.int (x + y) :: st) t I L R Q := wp_go rfl
theorem i81_5 {w1 w2 : Value} {x : Nat} : WP V 81 5 [.ref x, w1, w2] st t I L R Q = WP V 81 6 [.ref x, w1, w2] (.ref x :: st) t I L R Q := wp_go rfl
theorem i81_6 {k : Nat} (h1 : k < t) (h2 : m_ob k 6 = true) : WP V 81 6 ls (.ref k :: st) t I L R Q = WP V 81 7 ls (m_rv (R k 1) :: st) t I L R Q := wp_getR rfl (by decide) h1 h2
theorem i81_7  : WP V 81 7 ls st t I L R Q = WP V 81 8 ls (.int (nI 21) :: st) t I L R Q := wp_go rfl
theorem i81_8  : WP V 81 8 ls st t I L R Q = WP V 81 9 ls (.int (nI 4) :: st) t I L R Q := wp_go rfl
theorem i81_9 {w0 w2 : Value} {x : Int32} : WP V 81 9 [w0, .int x, w2] st t I L R Q = WP V 81 10 [w0, .int x, w2] (.int x :: st) t I L R Q := wp_go rfl
theorem i81_10 {x y : Int32} : WP V 81 10 ls (.int y :: .int x :: st) t I L R Q = WP V 81 11 ls (.int (x * y) :: st) t I L R Q := wp_go rfl
theorem i81_11 {x y : Int32} : WP V 81 11 ls (.int y :: .int x :: st) t I L R Q = WP V 81 12 ls (.int (x + y) :: st) t I L R Q := wp_go rfl
theorem i81_12  : WP V 81 12 ls st t I L R Q = WP V 81 13 ls (.int (nI 4) :: st) t I L R Q := wp_go rfl
theorem i81_13 {s d sp dp cnt : Nat} (h3 : m_ar s 2 581 = true) (h4 : m_ar d 2 581 = true) (h1 : s < t) (h2 : d < t) (h5 : sp + cnt ≤ 581) (h6 : dp + cnt ≤ 581) : WP V 81 13 ls [.int (nI cnt), .int (nI dp), .ref d, .int (nI sp), .ref s] t I L R Q = WP V 81 14 ls [] t (m_sc I d (va_cpy (I s) (I d) sp dp cnt)) L R Q := wp_copyi rfl (by decide) (by decide) h1 h2 h3 h4 h5 h6 (by decide)
theorem i81_14 {w1 w2 : Value} {x : Nat} : WP V 81 14 [.ref x, w1, w2] st t I L R Q = WP V 81 15 [.ref x, w1, w2] (.ref x :: st) t I L R Q := wp_go rfl
theorem i81_15 {k : Nat} (h1 : k < t) (h2 : m_ob k 6 = true) : WP V 81 15 ls (.ref k :: st) t I L R Q = WP V 81 16 ls (m_rv (R k 1) :: st) t I L R Q := wp_getR rfl (by decide) h1 h2
theorem i81_16  : WP V 81 16 ls st t I L R Q = WP V 81 17 ls (.int (nI 292) :: st) t I L R Q := wp_go rfl
theorem i81_17 {w0 w1 : Value} {x : Int32} : WP V 81 17 [w0, w1, .int x] st t I L R Q = WP V 81 18 [w0, w1, .int x] (.int x :: st) t I L R Q := wp_go rfl
theorem i81_18 {x y : Int32} : WP V 81 18 ls (.int y :: .int x :: st) t I L R Q = WP V 81 19 ls (.int (x + y) :: st) t I L R Q := wp_go rfl
theorem i81_19 {w1 w2 : Value} {x : Nat} : WP V 81 19 [.ref x, w1, w2] st t I L R Q = WP V 81 20 [.ref x, w1, w2] (.ref x :: st) t I L R Q := wp_go rfl
theorem i81_20 {k : Nat} (h1 : k < t) (h2 : m_ob k 6 = true) : WP V 81 20 ls (.ref k :: st) t I L R Q = WP V 81 21 ls (m_rv (R k 1) :: st) t I L R Q := wp_getR rfl (by decide) h1 h2
theorem i81_21  : WP V 81 21 ls st t I L R Q = WP V 81 22 ls (.int (nI 176) :: st) t I L R Q := wp_go rfl
theorem i81_22  : WP V 81 22 ls st t I L R Q = WP V 81 23 ls (.int (nI 47) :: st) t I L R Q := wp_go rfl
theorem i81_23 {w0 w2 : Value} {x : Int32} : WP V 81 23 [w0, .int x, w2] st t I L R Q = WP V 81 24 [w0, .int x, w2] (.int x :: st) t I L R Q := wp_go rfl
theorem i81_24 {x y : Int32} : WP V 81 24 ls (.int y :: .int x :: st) t I L R Q = WP V 81 25 ls (.int (x * y) :: st) t I L R Q := wp_go rfl
theorem i81_25 {x y : Int32} : WP V 81 25 ls (.int y :: .int x :: st) t I L R Q = WP V 81 26 ls (.int (x + y) :: st) t I L R Q := wp_go rfl
theorem i81_26  : WP V 81 26 ls st t I L R Q = WP V 81 27 ls (.int (nI 16) :: st) t I L R Q := wp_go rfl
theorem i81_27 {s d sp dp cnt : Nat} (h3 : m_ar s 2 581 = true) (h4 : m_ar d 2 581 = true) (h1 : s < t) (h2 : d < t) (h5 : sp + cnt ≤ 581) (h6 : dp + cnt ≤ 581) : WP V 81 27 ls [.int (nI cnt), .int (nI dp), .ref d, .int (nI sp), .ref s] t I L R Q = WP V 81 28 ls [] t (m_sc I d (va_cpy (I s) (I d) sp dp cnt)) L R Q := wp_copyi rfl (by decide) (by decide) h1 h2 h3 h4 h5 h6 (by decide)
theorem i81_28  : WP V 81 28 ls [] t I L R Q = Q none t I L R := wp_rtv rfl rfl
-- TransactionCells$Steps.retry(I)I
theorem i82_0 {w1 w2 w3 : Value} {x : Nat} : WP V 82 0 [.ref x, w1, w2, w3] st t I L R Q = WP V 82 1 [.ref x, w1, w2, w3] (.ref x :: st) t I L R Q := wp_go rfl
theorem i82_1 {k : Nat} (h1 : k < t) (h2 : m_ob k 6 = true) : WP V 82 1 ls (.ref k :: st) t I L R Q = WP V 82 2 ls (m_rv (R k 1) :: st) t I L R Q := wp_getR rfl (by decide) h1 h2
theorem i82_2  : WP V 82 2 ls st t I L R Q = WP V 82 3 ls (.int (nI 15) :: st) t I L R Q := wp_go rfl
theorem i82_3 {w0 w2 w3 : Value} {x : Int32} : WP V 82 3 [w0, .int x, w2, w3] st t I L R Q = WP V 82 4 [w0, .int x, w2, w3] (.int x :: st) t I L R Q := wp_go rfl
theorem i82_4 {x y : Int32} : WP V 82 4 ls (.int y :: .int x :: st) t I L R Q = WP V 82 5 ls (.int (x + y) :: st) t I L R Q := wp_go rfl
theorem i82_5 {k j : Nat} (h2 : m_ar k 2 581 = true) (h1 : k < t) (h3 : j < 581) : WP V 82 5 ls (.int (nI j) :: .ref k :: st) t I L R Q = WP V 82 6 ls (.int (I k j) :: st) t I L R Q := wp_iaload rfl (by decide) h1 h2 h3
theorem i82_6  : WP V 82 6 ls st t I L R Q = WP V 82 7 ls (.int (nI 2) :: st) t I L R Q := wp_go rfl
theorem i82_7 {x y : Int32} : WP V 82 7 ls (.int y :: .int x :: st) t I L R Q = if x = y then WP V 82 10 ls st t I L R Q else WP V 82 8 ls st t I L R Q := wp_br (c := m_cc .eq x y) rfl rfl
theorem i82_8  : WP V 82 8 ls st t I L R Q = WP V 82 9 ls (.int (nI 105) :: st) t I L R Q := wp_go rfl
theorem i82_9 {x : Int32} : WP V 82 9 ls [.int x] t I L R Q = Q (some (.int x)) t I L R := wp_rti rfl rfl
theorem i82_10 {w1 w2 w3 : Value} {x : Nat} : WP V 82 10 [.ref x, w1, w2, w3] st t I L R Q = WP V 82 11 [.ref x, w1, w2, w3] (.ref x :: st) t I L R Q := wp_go rfl
theorem i82_11 {k : Nat} (h1 : k < t) (h2 : m_ob k 6 = true) : WP V 82 11 ls (.ref k :: st) t I L R Q = WP V 82 12 ls (m_rv (R k 1) :: st) t I L R Q := wp_getR rfl (by decide) h1 h2
theorem i82_12  : WP V 82 12 ls st t I L R Q = WP V 82 13 ls (.int (nI 12) :: st) t I L R Q := wp_go rfl
theorem i82_13 {w0 w2 w3 : Value} {x : Int32} : WP V 82 13 [w0, .int x, w2, w3] st t I L R Q = WP V 82 14 [w0, .int x, w2, w3] (.int x :: st) t I L R Q := wp_go rfl
theorem i82_14 {x y : Int32} : WP V 82 14 ls (.int y :: .int x :: st) t I L R Q = WP V 82 15 ls (.int (x + y) :: st) t I L R Q := wp_go rfl
theorem i82_15 {k j : Nat} (h2 : m_ar k 2 581 = true) (h1 : k < t) (h3 : j < 581) : WP V 82 15 ls (.int (nI j) :: .ref k :: st) t I L R Q = WP V 82 16 ls (.int (I k j) :: st) t I L R Q := wp_iaload rfl (by decide) h1 h2 h3
theorem i82_16  : WP V 82 16 ls st t I L R Q = WP V 82 17 ls (.int (nI 1) :: st) t I L R Q := wp_go rfl
theorem i82_17 {x y : Int32} : WP V 82 17 ls (.int y :: .int x :: st) t I L R Q = WP V 82 18 ls (.int (x - y) :: st) t I L R Q := wp_go rfl
theorem i82_18 {p : Int32} {w0 w2 w3 : Value} {x : Int32} : WP V 82 18 [w0, .int p, w2, w3] (.int x :: st) t I L R Q = WP V 82 19 [w0, .int p, .int x, w3] st t I L R Q := wp_go rfl
theorem i82_19 {w0 w1 w3 : Value} {x : Int32} : WP V 82 19 [w0, w1, .int x, w3] st t I L R Q = WP V 82 20 [w0, w1, .int x, w3] (.int x :: st) t I L R Q := wp_go rfl
theorem i82_20 {w1 w2 w3 : Value} {x : Nat} : WP V 82 20 [.ref x, w1, w2, w3] st t I L R Q = WP V 82 21 [.ref x, w1, w2, w3] (.ref x :: st) t I L R Q := wp_go rfl
theorem i82_21 {w0 w2 w3 : Value} {x : Int32} : WP V 82 21 [w0, .int x, w2, w3] st t I L R Q = WP V 82 22 [w0, .int x, w2, w3] (.int x :: st) t I L R Q := wp_go rfl
theorem i82_22 {x0 : Int32} {x1 : Nat} {r0 : Int32} (h1 : x1 < t) (h2 : m_ob x1 6 = true) : WP V 82 22 ls [.int x0, .ref x1, .int r0] t I L R Q = WPC V 78 [.ref x1, .int x0] 82 23 ls [.int r0] t I L R Q := wp_cls (wp_icv rfl rfl h1 h2) (by decide) (Nat.le_of_ble_eq_true rfl) rfl rfl (Nat.le_of_ble_eq_true rfl) (Nat.le_of_ble_eq_true rfl)
theorem i82_23 {x y : Int32} : WP V 82 23 ls (.int y :: .int x :: st) t I L R Q = if x < y then WP V 82 60 ls st t I L R Q else WP V 82 24 ls st t I L R Q := wp_br (c := m_cc .lt x y) rfl rfl
theorem i82_24 {w0 w2 w3 : Value} {x : Int32} : WP V 82 24 [w0, .int x, w2, w3] st t I L R Q = WP V 82 25 [w0, .int x, w2, w3] (.int x :: st) t I L R Q := wp_go rfl
theorem i82_25 {w0 w1 w3 : Value} {x : Int32} : WP V 82 25 [w0, w1, .int x, w3] st t I L R Q = WP V 82 26 [w0, w1, .int x, w3] (.int x :: st) t I L R Q := wp_go rfl
theorem i82_26 {x0 : Int32} {x1 : Int32}  : WP V 82 26 ls [.int x0, .int x1] t I L R Q = WPC V 77 [.int x1, .int x0] 82 27 ls [] t I L R Q := wp_cls (wp_ics rfl (by decide)) (by decide) (Nat.le_of_ble_eq_true rfl) rfl rfl (Nat.le_of_ble_eq_true rfl) (Nat.le_of_ble_eq_true rfl)
theorem i82_27 {p : Int32} {w0 w1 w3 : Value} {x : Int32} : WP V 82 27 [w0, w1, .int p, w3] (.int x :: st) t I L R Q = WP V 82 28 [w0, w1, .int p, .int x] st t I L R Q := wp_go rfl
theorem i82_28 {w1 w2 w3 : Value} {x : Nat} : WP V 82 28 [.ref x, w1, w2, w3] st t I L R Q = WP V 82 29 [.ref x, w1, w2, w3] (.ref x :: st) t I L R Q := wp_go rfl
theorem i82_29 {k : Nat} (h1 : k < t) (h2 : m_ob k 6 = true) : WP V 82 29 ls (.ref k :: st) t I L R Q = WP V 82 30 ls (m_rv (R k 1) :: st) t I L R Q := wp_getR rfl (by decide) h1 h2
theorem i82_30  : WP V 82 30 ls st t I L R Q = WP V 82 31 ls (.int (nI 286) :: st) t I L R Q := wp_go rfl
theorem i82_31 {w0 w1 w2 : Value} {x : Int32} : WP V 82 31 [w0, w1, w2, .int x] st t I L R Q = WP V 82 32 [w0, w1, w2, .int x] (.int x :: st) t I L R Q := wp_go rfl
theorem i82_32 {x y : Int32} : WP V 82 32 ls (.int y :: .int x :: st) t I L R Q = WP V 82 33 ls (.int (x + y) :: st) t I L R Q := wp_go rfl
theorem i82_33 {k j : Nat} (h2 : m_ar k 2 581 = true) (h1 : k < t) (h3 : j < 581) : WP V 82 33 ls (.int (nI j) :: .ref k :: st) t I L R Q = WP V 82 34 ls (.int (I k j) :: st) t I L R Q := wp_iaload rfl (by decide) h1 h2 h3
theorem i82_34  : WP V 82 34 ls st t I L R Q = WP V 82 35 ls (.int (nI 14) :: st) t I L R Q := wp_go rfl
theorem i82_35 {x y : Int32} : WP V 82 35 ls (.int y :: .int x :: st) t I L R Q = if x = y then WP V 82 37 ls st t I L R Q else WP V 82 36 ls st t I L R Q := wp_br (c := m_cc .eq x y) rfl rfl
theorem i82_36  : WP V 82 36 ls st t I L R Q = WP V 82 58 ls st t I L R Q := wp_go rfl
theorem i82_37 {w1 w2 w3 : Value} {x : Nat} : WP V 82 37 [.ref x, w1, w2, w3] st t I L R Q = WP V 82 38 [.ref x, w1, w2, w3] (.ref x :: st) t I L R Q := wp_go rfl
theorem i82_38 {w0 w2 w3 : Value} {x : Int32} : WP V 82 38 [w0, .int x, w2, w3] st t I L R Q = WP V 82 39 [w0, .int x, w2, w3] (.int x :: st) t I L R Q := wp_go rfl
theorem i82_39 {w0 w1 w2 : Value} {x : Int32} : WP V 82 39 [w0, w1, w2, .int x] st t I L R Q = WP V 82 40 [w0, w1, w2, .int x] (.int x :: st) t I L R Q := wp_go rfl
theorem i82_40 {x0 : Int32} {x1 : Int32} {x2 : Nat}  (h1 : x2 < t) (h2 : m_ob x2 6 = true) : WP V 82 40 ls [.int x0, .int x1, .ref x2] t I L R Q = WPC V 81 [.ref x2, .int x1, .int x0] 82 41 ls [] t I L R Q := wp_cls (wp_icv rfl rfl h1 h2) (by decide) (Nat.le_of_ble_eq_true rfl) rfl rfl (Nat.le_of_ble_eq_true rfl) (Nat.le_of_ble_eq_true rfl)
theorem i82_41 {w1 w2 w3 : Value} {x : Nat} : WP V 82 41 [.ref x, w1, w2, w3] st t I L R Q = WP V 82 42 [.ref x, w1, w2, w3] (.ref x :: st) t I L R Q := wp_go rfl
theorem i82_42 {k : Nat} (h1 : k < t) (h2 : m_ob k 6 = true) : WP V 82 42 ls (.ref k :: st) t I L R Q = WP V 82 43 ls (m_rv (R k 1) :: st) t I L R Q := wp_getR rfl (by decide) h1 h2
theorem i82_43  : WP V 82 43 ls st t I L R Q = WP V 82 44 ls (.int (nI 12) :: st) t I L R Q := wp_go rfl
theorem i82_44 {w0 w2 w3 : Value} {x : Int32} : WP V 82 44 [w0, .int x, w2, w3] st t I L R Q = WP V 82 45 [w0, .int x, w2, w3] (.int x :: st) t I L R Q := wp_go rfl
theorem i82_45 {x y : Int32} : WP V 82 45 ls (.int y :: .int x :: st) t I L R Q = WP V 82 46 ls (.int (x + y) :: st) t I L R Q := wp_go rfl
theorem i82_46 {w0 w1 w3 : Value} {x : Int32} : WP V 82 46 [w0, w1, .int x, w3] st t I L R Q = WP V 82 47 [w0, w1, .int x, w3] (.int x :: st) t I L R Q := wp_go rfl
theorem i82_47 {k j : Nat} {x : Int32} (h2 : m_ar k 2 581 = true) (h1 : k < t) (h3 : j < 581) : WP V 82 47 ls (.int x :: .int (nI j) :: .ref k :: st) t I L R Q = WP V 82 48 ls st t (m_sc I k (m_sc (I k) j x)) L R Q := wp_iastore rfl (by decide) h1 h2 h3
theorem i82_48 {w1 w2 w3 : Value} {x : Nat} : WP V 82 48 [.ref x, w1, w2, w3] st t I L R Q = WP V 82 49 [.ref x, w1, w2, w3] (.ref x :: st) t I L R Q := wp_go rfl
theorem i82_49 {w0 w2 w3 : Value} {x : Int32} : WP V 82 49 [w0, .int x, w2, w3] st t I L R Q = WP V 82 50 [w0, .int x, w2, w3] (.int x :: st) t I L R Q := wp_go rfl
theorem i82_50 {w1 w2 w3 : Value} {x : Nat} : WP V 82 50 [.ref x, w1, w2, w3] st t I L R Q = WP V 82 51 [.ref x, w1, w2, w3] (.ref x :: st) t I L R Q := wp_go rfl
theorem i82_51 {k : Nat} (h1 : k < t) (h2 : m_ob k 6 = true) : WP V 82 51 ls (.ref k :: st) t I L R Q = WP V 82 52 ls (m_rv (R k 1) :: st) t I L R Q := wp_getR rfl (by decide) h1 h2
theorem i82_52  : WP V 82 52 ls st t I L R Q = WP V 82 53 ls (.int (nI 287) :: st) t I L R Q := wp_go rfl
theorem i82_53 {w0 w1 w2 : Value} {x : Int32} : WP V 82 53 [w0, w1, w2, .int x] st t I L R Q = WP V 82 54 [w0, w1, w2, .int x] (.int x :: st) t I L R Q := wp_go rfl
theorem i82_54 {x y : Int32} : WP V 82 54 ls (.int y :: .int x :: st) t I L R Q = WP V 82 55 ls (.int (x + y) :: st) t I L R Q := wp_go rfl
theorem i82_55 {k j : Nat} (h2 : m_ar k 2 581 = true) (h1 : k < t) (h3 : j < 581) : WP V 82 55 ls (.int (nI j) :: .ref k :: st) t I L R Q = WP V 82 56 ls (.int (I k j) :: st) t I L R Q := wp_iaload rfl (by decide) h1 h2 h3
theorem i82_56 {x0 : Int32} {x1 : Int32} {x2 : Nat}  (h1 : x2 < t) (h2 : m_ob x2 6 = true) : WP V 82 56 ls [.int x0, .int x1, .ref x2] t I L R Q = WPC V 74 [.ref x2, .int x1, .int x0] 82 57 ls [] t I L R Q := wp_cls (wp_icv rfl rfl h1 h2) (by decide) (Nat.le_of_ble_eq_true rfl) rfl rfl (Nat.le_of_ble_eq_true rfl) (Nat.le_of_ble_eq_true rfl)
theorem i82_57 {x : Int32} : WP V 82 57 ls [.int x] t I L R Q = Q (some (.int x)) t I L R := wp_rti rfl rfl
theorem i82_58 {p : Int32} {w0 w3 : Value} {x : Int32} : WP V 82 58 [w0, .int p, .int x, w3] st t I L R Q = WP V 82 59 [w0, .int p, .int (x + (-1)), w3] st t I L R Q := wp_go rfl
theorem i82_59  : WP V 82 59 ls st t I L R Q = WP V 82 19 ls st t I L R Q := wp_go rfl
theorem i82_60 {w1 w2 w3 : Value} {x : Nat} : WP V 82 60 [.ref x, w1, w2, w3] st t I L R Q = WP V 82 61 [.ref x, w1, w2, w3] (.ref x :: st) t I L R Q := wp_go rfl
theorem i82_61 {k : Nat} (h1 : k < t) (h2 : m_ob k 6 = true) : WP V 82 61 ls (.ref k :: st) t I L R Q = WP V 82 62 ls (m_rv (R k 2) :: st) t I L R Q := wp_getR rfl (by decide) h1 h2
theorem i82_62 {w0 w2 w3 : Value} {x : Int32} : WP V 82 62 [w0, .int x, w2, w3] st t I L R Q = WP V 82 63 [w0, .int x, w2, w3] (.int x :: st) t I L R Q := wp_go rfl
theorem i82_63 {x0 : Int32} {x1 : Nat}  (h1 : x1 < t) (h2 : m_ob x1 1 = true) : WP V 82 63 ls [.int x0, .ref x1] t I L R Q = WPC V 31 [.ref x1, .int x0] 82 64 ls [] t I L R Q := wp_cls (wp_icv rfl rfl h1 h2) (by decide) (Nat.le_of_ble_eq_true rfl) rfl rfl (Nat.le_of_ble_eq_true rfl) (Nat.le_of_ble_eq_true rfl)
theorem i82_64 {x : Int32} : WP V 82 64 ls [.int x] t I L R Q = Q (some (.int x)) t I L R := wp_rti rfl rfl
-- TransactionCells$Steps.fail(II)I
theorem i83_0 {w1 w2 w3 : Value} {x : Nat} : WP V 83 0 [.ref x, w1, w2, w3] st t I L R Q = WP V 83 1 [.ref x, w1, w2, w3] (.ref x :: st) t I L R Q := wp_go rfl
theorem i83_1 {w0 w2 w3 : Value} {x : Int32} : WP V 83 1 [w0, .int x, w2, w3] st t I L R Q = WP V 83 2 [w0, .int x, w2, w3] (.int x :: st) t I L R Q := wp_go rfl
theorem i83_2 {w1 w2 w3 : Value} {x : Nat} : WP V 83 2 [.ref x, w1, w2, w3] st t I L R Q = WP V 83 3 [.ref x, w1, w2, w3] (.ref x :: st) t I L R Q := wp_go rfl
theorem i83_3 {w0 w2 w3 : Value} {x : Int32} : WP V 83 3 [w0, .int x, w2, w3] st t I L R Q = WP V 83 4 [w0, .int x, w2, w3] (.int x :: st) t I L R Q := wp_go rfl
theorem i83_4 {x0 : Int32} {x1 : Nat} {r0 : Int32} {r1 : Nat} (h1 : x1 < t) (h2 : m_ob x1 6 = true) : WP V 83 4 ls [.int x0, .ref x1, .int r0, .ref r1] t I L R Q = WPC V 78 [.ref x1, .int x0] 83 5 ls [.int r0, .ref r1] t I L R Q := wp_cls (wp_icv rfl rfl h1 h2) (by decide) (Nat.le_of_ble_eq_true rfl) rfl rfl (Nat.le_of_ble_eq_true rfl) (Nat.le_of_ble_eq_true rfl)
theorem i83_5 {w0 w1 w3 : Value} {x : Int32} : WP V 83 5 [w0, w1, .int x, w3] st t I L R Q = WP V 83 6 [w0, w1, .int x, w3] (.int x :: st) t I L R Q := wp_go rfl
theorem i83_6 {x0 : Int32} {x1 : Int32} {x2 : Int32} {x3 : Nat}  (h1 : x3 < t) (h2 : m_ob x3 6 = true) : WP V 83 6 ls [.int x0, .int x1, .int x2, .ref x3] t I L R Q = WPC V 84 [.ref x3, .int x2, .int x1, .int x0] 83 7 ls [] t I L R Q := wp_cls (wp_icv rfl rfl h1 h2) (by decide) (Nat.le_of_ble_eq_true rfl) rfl rfl (Nat.le_of_ble_eq_true rfl) (Nat.le_of_ble_eq_true rfl)
theorem i83_7 {x : Int32} : WP V 83 7 ls (.int x :: st) t I L R Q = if x = nI 0 then WP V 83 10 ls st t I L R Q else WP V 83 8 ls st t I L R Q := wp_br (c := m_cc .eq x 0) rfl rfl
theorem i83_8  : WP V 83 8 ls st t I L R Q = WP V 83 9 ls (.int (nI 1) :: st) t I L R Q := wp_go rfl
theorem i83_9 {x : Int32} : WP V 83 9 ls [.int x] t I L R Q = Q (some (.int x)) t I L R := wp_rti rfl rfl
theorem i83_10 {w1 w2 w3 : Value} {x : Nat} : WP V 83 10 [.ref x, w1, w2, w3] st t I L R Q = WP V 83 11 [.ref x, w1, w2, w3] (.ref x :: st) t I L R Q := wp_go rfl
theorem i83_11 {k : Nat} (h1 : k < t) (h2 : m_ob k 6 = true) : WP V 83 11 ls (.ref k :: st) t I L R Q = WP V 83 12 ls (m_rv (R k 1) :: st) t I L R Q := wp_getR rfl (by decide) h1 h2
theorem i83_12  : WP V 83 12 ls st t I L R Q = WP V 83 13 ls (.int (nI 15) :: st) t I L R Q := wp_go rfl
theorem i83_13 {w0 w2 w3 : Value} {x : Int32} : WP V 83 13 [w0, .int x, w2, w3] st t I L R Q = WP V 83 14 [w0, .int x, w2, w3] (.int x :: st) t I L R Q := wp_go rfl
theorem i83_14 {x y : Int32} : WP V 83 14 ls (.int y :: .int x :: st) t I L R Q = WP V 83 15 ls (.int (x + y) :: st) t I L R Q := wp_go rfl
theorem i83_15 {k j : Nat} (h2 : m_ar k 2 581 = true) (h1 : k < t) (h3 : j < 581) : WP V 83 15 ls (.int (nI j) :: .ref k :: st) t I L R Q = WP V 83 16 ls (.int (I k j) :: st) t I L R Q := wp_iaload rfl (by decide) h1 h2 h3
theorem i83_16 {p : Int32} {w0 w1 w3 : Value} {x : Int32} : WP V 83 16 [w0, w1, .int p, w3] (.int x :: st) t I L R Q = WP V 83 17 [w0, w1, .int p, .int x] st t I L R Q := wp_go rfl
theorem i83_17 {w0 w1 w2 : Value} {x : Int32} : WP V 83 17 [w0, w1, w2, .int x] st t I L R Q = WP V 83 18 [w0, w1, w2, .int x] (.int x :: st) t I L R Q := wp_go rfl
theorem i83_18  : WP V 83 18 ls st t I L R Q = WP V 83 19 ls (.int (nI 3) :: st) t I L R Q := wp_go rfl
theorem i83_19 {x y : Int32} : WP V 83 19 ls (.int y :: .int x :: st) t I L R Q = if x = y then WP V 83 20 ls st t I L R Q else WP V 83 25 ls st t I L R Q := wp_brn (c := m_cc .ne x y) rfl rfl
theorem i83_20 {w1 w2 w3 : Value} {x : Nat} : WP V 83 20 [.ref x, w1, w2, w3] st t I L R Q = WP V 83 21 [.ref x, w1, w2, w3] (.ref x :: st) t I L R Q := wp_go rfl
theorem i83_21 {k : Nat} (h1 : k < t) (h2 : m_ob k 6 = true) : WP V 83 21 ls (.ref k :: st) t I L R Q = WP V 83 22 ls (m_rv (R k 2) :: st) t I L R Q := wp_getR rfl (by decide) h1 h2
theorem i83_22 {w0 w2 w3 : Value} {x : Int32} : WP V 83 22 [w0, .int x, w2, w3] st t I L R Q = WP V 83 23 [w0, .int x, w2, w3] (.int x :: st) t I L R Q := wp_go rfl
theorem i83_23 {x0 : Int32} {x1 : Nat}  (h1 : x1 < t) (h2 : m_ob x1 1 = true) : WP V 83 23 ls [.int x0, .ref x1] t I L R Q = WPC V 25 [.ref x1, .int x0] 83 24 ls [] t I L R Q := wp_cls (wp_icv rfl rfl h1 h2) (by decide) (Nat.le_of_ble_eq_true rfl) rfl rfl (Nat.le_of_ble_eq_true rfl) (Nat.le_of_ble_eq_true rfl)
theorem i83_24  : WP V 83 24 ls st t I L R Q = WP V 83 39 ls st t I L R Q := wp_go rfl
theorem i83_25 {w0 w1 w2 : Value} {x : Int32} : WP V 83 25 [w0, w1, w2, .int x] st t I L R Q = WP V 83 26 [w0, w1, w2, .int x] (.int x :: st) t I L R Q := wp_go rfl
theorem i83_26  : WP V 83 26 ls st t I L R Q = WP V 83 27 ls (.int (-1) :: st) t I L R Q := wp_go rfl
theorem i83_27 {x y : Int32} : WP V 83 27 ls (.int y :: .int x :: st) t I L R Q = if x = y then WP V 83 39 ls st t I L R Q else WP V 83 28 ls st t I L R Q := wp_br (c := m_cc .eq x y) rfl rfl
theorem i83_28 {w1 w2 w3 : Value} {x : Nat} : WP V 83 28 [.ref x, w1, w2, w3] st t I L R Q = WP V 83 29 [.ref x, w1, w2, w3] (.ref x :: st) t I L R Q := wp_go rfl
theorem i83_29 {k : Nat} (h1 : k < t) (h2 : m_ob k 6 = true) : WP V 83 29 ls (.ref k :: st) t I L R Q = WP V 83 30 ls (m_rv (R k 2) :: st) t I L R Q := wp_getR rfl (by decide) h1 h2
theorem i83_30 {w0 w2 w3 : Value} {x : Int32} : WP V 83 30 [w0, .int x, w2, w3] st t I L R Q = WP V 83 31 [w0, .int x, w2, w3] (.int x :: st) t I L R Q := wp_go rfl
theorem i83_31 {x0 : Int32} {x1 : Nat}  (h1 : x1 < t) (h2 : m_ob x1 1 = true) : WP V 83 31 ls [.int x0, .ref x1] t I L R Q = WPC V 24 [.ref x1, .int x0] 83 32 ls [] t I L R Q := wp_cls (wp_icv rfl rfl h1 h2) (by decide) (Nat.le_of_ble_eq_true rfl) rfl rfl (Nat.le_of_ble_eq_true rfl) (Nat.le_of_ble_eq_true rfl)
theorem i83_32 {x : Int32} : WP V 83 32 ls (.int x :: st) t I L R Q = if x = nI 0 then WP V 83 35 ls st t I L R Q else WP V 83 33 ls st t I L R Q := wp_br (c := m_cc .eq x 0) rfl rfl
theorem i83_33  : WP V 83 33 ls st t I L R Q = WP V 83 34 ls (.int (nI 2) :: st) t I L R Q := wp_go rfl
theorem i83_34 {x : Int32} : WP V 83 34 ls [.int x] t I L R Q = Q (some (.int x)) t I L R := wp_rti rfl rfl
theorem i83_35 {w1 w2 w3 : Value} {x : Nat} : WP V 83 35 [.ref x, w1, w2, w3] st t I L R Q = WP V 83 36 [.ref x, w1, w2, w3] (.ref x :: st) t I L R Q := wp_go rfl
theorem i83_36 {k : Nat} (h1 : k < t) (h2 : m_ob k 6 = true) : WP V 83 36 ls (.ref k :: st) t I L R Q = WP V 83 37 ls (m_rv (R k 2) :: st) t I L R Q := wp_getR rfl (by decide) h1 h2
theorem i83_37 {w0 w2 w3 : Value} {x : Int32} : WP V 83 37 [w0, .int x, w2, w3] st t I L R Q = WP V 83 38 [w0, .int x, w2, w3] (.int x :: st) t I L R Q := wp_go rfl
theorem i83_38 {x0 : Int32} {x1 : Nat}  (h1 : x1 < t) (h2 : m_ob x1 1 = true) : WP V 83 38 ls [.int x0, .ref x1] t I L R Q = WPC V 26 [.ref x1, .int x0] 83 39 ls [] t I L R Q := wp_cls (wp_icv rfl rfl h1 h2) (by decide) (Nat.le_of_ble_eq_true rfl) rfl rfl (Nat.le_of_ble_eq_true rfl) (Nat.le_of_ble_eq_true rfl)
theorem i83_39 {w0 w1 w2 : Value} {x : Int32} : WP V 83 39 [w0, w1, w2, .int x] st t I L R Q = WP V 83 40 [w0, w1, w2, .int x] (.int x :: st) t I L R Q := wp_go rfl
theorem i83_40  : WP V 83 40 ls st t I L R Q = WP V 83 41 ls (.int (-1) :: st) t I L R Q := wp_go rfl
theorem i83_41 {x y : Int32} : WP V 83 41 ls (.int y :: .int x :: st) t I L R Q = if x = y then WP V 83 46 ls st t I L R Q else WP V 83 42 ls st t I L R Q := wp_br (c := m_cc .eq x y) rfl rfl
theorem i83_42 {w1 w2 w3 : Value} {x : Nat} : WP V 83 42 [.ref x, w1, w2, w3] st t I L R Q = WP V 83 43 [.ref x, w1, w2, w3] (.ref x :: st) t I L R Q := wp_go rfl
theorem i83_43 {k : Nat} (h1 : k < t) (h2 : m_ob k 6 = true) : WP V 83 43 ls (.ref k :: st) t I L R Q = WP V 83 44 ls (m_rv (R k 2) :: st) t I L R Q := wp_getR rfl (by decide) h1 h2
theorem i83_44 {w0 w2 w3 : Value} {x : Int32} : WP V 83 44 [w0, .int x, w2, w3] st t I L R Q = WP V 83 45 [w0, .int x, w2, w3] (.int x :: st) t I L R Q := wp_go rfl
theorem i83_45 {x0 : Int32} {x1 : Nat}  (h1 : x1 < t) (h2 : m_ob x1 1 = true) : WP V 83 45 ls [.int x0, .ref x1] t I L R Q = WPC V 27 [.ref x1, .int x0] 83 46 ls [] t I L R Q := wp_cls (wp_icv rfl rfl h1 h2) (by decide) (Nat.le_of_ble_eq_true rfl) rfl rfl (Nat.le_of_ble_eq_true rfl) (Nat.le_of_ble_eq_true rfl)
theorem i83_46 {w1 w2 w3 : Value} {x : Nat} : WP V 83 46 [.ref x, w1, w2, w3] st t I L R Q = WP V 83 47 [.ref x, w1, w2, w3] (.ref x :: st) t I L R Q := wp_go rfl
theorem i83_47 {w0 w2 w3 : Value} {x : Int32} : WP V 83 47 [w0, .int x, w2, w3] st t I L R Q = WP V 83 48 [w0, .int x, w2, w3] (.int x :: st) t I L R Q := wp_go rfl
theorem i83_48  : WP V 83 48 ls st t I L R Q = WP V 83 49 ls (.int (nI 0) :: st) t I L R Q := wp_go rfl
theorem i83_49 {w0 w1 w3 : Value} {x : Int32} : WP V 83 49 [w0, w1, .int x, w3] st t I L R Q = WP V 83 50 [w0, w1, .int x, w3] (.int x :: st) t I L R Q := wp_go rfl
theorem i83_50 {x0 : Int32} {x1 : Int32} {x2 : Int32} {x3 : Nat}  (h1 : x3 < t) (h2 : m_ob x3 6 = true) : WP V 83 50 ls [.int x0, .int x1, .int x2, .ref x3] t I L R Q = WPC V 84 [.ref x3, .int x2, .int x1, .int x0] 83 51 ls [] t I L R Q := wp_cls (wp_icv rfl rfl h1 h2) (by decide) (Nat.le_of_ble_eq_true rfl) rfl rfl (Nat.le_of_ble_eq_true rfl) (Nat.le_of_ble_eq_true rfl)
theorem i83_51 {x : Int32} : WP V 83 51 ls (.int x :: st) t I L R Q = if x = nI 0 then WP V 83 54 ls st t I L R Q else WP V 83 52 ls st t I L R Q := wp_br (c := m_cc .eq x 0) rfl rfl
theorem i83_52  : WP V 83 52 ls st t I L R Q = WP V 83 53 ls (.int (nI 1) :: st) t I L R Q := wp_go rfl
theorem i83_53 {x : Int32} : WP V 83 53 ls [.int x] t I L R Q = Q (some (.int x)) t I L R := wp_rti rfl rfl
theorem i83_54 {w1 w2 w3 : Value} {x : Nat} : WP V 83 54 [.ref x, w1, w2, w3] st t I L R Q = WP V 83 55 [.ref x, w1, w2, w3] (.ref x :: st) t I L R Q := wp_go rfl
theorem i83_55 {k : Nat} (h1 : k < t) (h2 : m_ob k 6 = true) : WP V 83 55 ls (.ref k :: st) t I L R Q = WP V 83 56 ls (m_rv (R k 1) :: st) t I L R Q := wp_getR rfl (by decide) h1 h2
theorem i83_56  : WP V 83 56 ls st t I L R Q = WP V 83 57 ls (.int (nI 3) :: st) t I L R Q := wp_go rfl
theorem i83_57 {w0 w2 w3 : Value} {x : Int32} : WP V 83 57 [w0, .int x, w2, w3] st t I L R Q = WP V 83 58 [w0, .int x, w2, w3] (.int x :: st) t I L R Q := wp_go rfl
theorem i83_58 {x y : Int32} : WP V 83 58 ls (.int y :: .int x :: st) t I L R Q = WP V 83 59 ls (.int (x + y) :: st) t I L R Q := wp_go rfl
theorem i83_59  : WP V 83 59 ls st t I L R Q = WP V 83 60 ls (.int (nI 3) :: st) t I L R Q := wp_go rfl
theorem i83_60 {k j : Nat} {x : Int32} (h2 : m_ar k 2 581 = true) (h1 : k < t) (h3 : j < 581) : WP V 83 60 ls (.int x :: .int (nI j) :: .ref k :: st) t I L R Q = WP V 83 61 ls st t (m_sc I k (m_sc (I k) j x)) L R Q := wp_iastore rfl (by decide) h1 h2 h3
theorem i83_61 {w1 w2 w3 : Value} {x : Nat} : WP V 83 61 [.ref x, w1, w2, w3] st t I L R Q = WP V 83 62 [.ref x, w1, w2, w3] (.ref x :: st) t I L R Q := wp_go rfl
theorem i83_62 {k : Nat} (h1 : k < t) (h2 : m_ob k 6 = true) : WP V 83 62 ls (.ref k :: st) t I L R Q = WP V 83 63 ls (m_rv (R k 1) :: st) t I L R Q := wp_getR rfl (by decide) h1 h2
theorem i83_63  : WP V 83 63 ls st t I L R Q = WP V 83 64 ls (.int (nI 9) :: st) t I L R Q := wp_go rfl
theorem i83_64 {w0 w2 w3 : Value} {x : Int32} : WP V 83 64 [w0, .int x, w2, w3] st t I L R Q = WP V 83 65 [w0, .int x, w2, w3] (.int x :: st) t I L R Q := wp_go rfl
theorem i83_65 {x y : Int32} : WP V 83 65 ls (.int y :: .int x :: st) t I L R Q = WP V 83 66 ls (.int (x + y) :: st) t I L R Q := wp_go rfl
theorem i83_66 {w0 w1 w3 : Value} {x : Int32} : WP V 83 66 [w0, w1, .int x, w3] st t I L R Q = WP V 83 67 [w0, w1, .int x, w3] (.int x :: st) t I L R Q := wp_go rfl
theorem i83_67 {k j : Nat} {x : Int32} (h2 : m_ar k 2 581 = true) (h1 : k < t) (h3 : j < 581) : WP V 83 67 ls (.int x :: .int (nI j) :: .ref k :: st) t I L R Q = WP V 83 68 ls st t (m_sc I k (m_sc (I k) j x)) L R Q := wp_iastore rfl (by decide) h1 h2 h3
theorem i83_68  : WP V 83 68 ls st t I L R Q = WP V 83 69 ls (.int (nI 3) :: st) t I L R Q := wp_go rfl
theorem i83_69 {x : Int32} : WP V 83 69 ls [.int x] t I L R Q = Q (some (.int x)) t I L R := wp_rti rfl rfl
-- TransactionCells$Steps.isCaught(III)Z
theorem i84_0 {w1 w2 w3 w4 w5 w6 : Value} {x : Nat} : WP V 84 0 [.ref x, w1, w2, w3, w4, w5, w6] st t I L R Q = WP V 84 1 [.ref x, w1, w2, w3, w4, w5, w6] (.ref x :: st) t I L R Q := wp_go rfl
theorem i84_1 {k : Nat} (h1 : k < t) (h2 : m_ob k 6 = true) : WP V 84 1 ls (.ref k :: st) t I L R Q = WP V 84 2 ls (m_rv (R k 1) :: st) t I L R Q := wp_getR rfl (by decide) h1 h2
theorem i84_2  : WP V 84 2 ls st t I L R Q = WP V 84 3 ls (.int (nI 12) :: st) t I L R Q := wp_go rfl
theorem i84_3 {w0 w2 w3 w4 w5 w6 : Value} {x : Int32} : WP V 84 3 [w0, .int x, w2, w3, w4, w5, w6] st t I L R Q = WP V 84 4 [w0, .int x, w2, w3, w4, w5, w6] (.int x :: st) t I L R Q := wp_go rfl
theorem i84_4 {x y : Int32} : WP V 84 4 ls (.int y :: .int x :: st) t I L R Q = WP V 84 5 ls (.int (x + y) :: st) t I L R Q := wp_go rfl
theorem i84_5 {k j : Nat} (h2 : m_ar k 2 581 = true) (h1 : k < t) (h3 : j < 581) : WP V 84 5 ls (.int (nI j) :: .ref k :: st) t I L R Q = WP V 84 6 ls (.int (I k j) :: st) t I L R Q := wp_iaload rfl (by decide) h1 h2 h3
theorem i84_6  : WP V 84 6 ls st t I L R Q = WP V 84 7 ls (.int (nI 1) :: st) t I L R Q := wp_go rfl
theorem i84_7 {x y : Int32} : WP V 84 7 ls (.int y :: .int x :: st) t I L R Q = WP V 84 8 ls (.int (x - y) :: st) t I L R Q := wp_go rfl
theorem i84_8 {p : Int32} {w0 w1 w2 w4 w5 w6 : Value} {x : Int32} : WP V 84 8 [w0, w1, w2, .int p, w4, w5, w6] (.int x :: st) t I L R Q = WP V 84 9 [w0, w1, w2, .int p, .int x, w5, w6] st t I L R Q := wp_go rfl
theorem i84_9 {w0 w1 w2 w3 w5 w6 : Value} {x : Int32} : WP V 84 9 [w0, w1, w2, w3, .int x, w5, w6] st t I L R Q = WP V 84 10 [w0, w1, w2, w3, .int x, w5, w6] (.int x :: st) t I L R Q := wp_go rfl
theorem i84_10 {w0 w1 w3 w4 w5 w6 : Value} {x : Int32} : WP V 84 10 [w0, w1, .int x, w3, w4, w5, w6] st t I L R Q = WP V 84 11 [w0, w1, .int x, w3, w4, w5, w6] (.int x :: st) t I L R Q := wp_go rfl
theorem i84_11 {x y : Int32} : WP V 84 11 ls (.int y :: .int x :: st) t I L R Q = if x < y then WP V 84 66 ls st t I L R Q else WP V 84 12 ls st t I L R Q := wp_br (c := m_cc .lt x y) rfl rfl
theorem i84_12 {w0 w2 w3 w4 w5 w6 : Value} {x : Int32} : WP V 84 12 [w0, .int x, w2, w3, w4, w5, w6] st t I L R Q = WP V 84 13 [w0, .int x, w2, w3, w4, w5, w6] (.int x :: st) t I L R Q := wp_go rfl
theorem i84_13 {w0 w1 w2 w3 w5 w6 : Value} {x : Int32} : WP V 84 13 [w0, w1, w2, w3, .int x, w5, w6] st t I L R Q = WP V 84 14 [w0, w1, w2, w3, .int x, w5, w6] (.int x :: st) t I L R Q := wp_go rfl
theorem i84_14 {x0 : Int32} {x1 : Int32}  : WP V 84 14 ls [.int x0, .int x1] t I L R Q = WPC V 77 [.int x1, .int x0] 84 15 ls [] t I L R Q := wp_cls (wp_ics rfl (by decide)) (by decide) (Nat.le_of_ble_eq_true rfl) rfl rfl (Nat.le_of_ble_eq_true rfl) (Nat.le_of_ble_eq_true rfl)
theorem i84_15 {p : Int32} {w0 w1 w2 w3 w5 w6 : Value} {x : Int32} : WP V 84 15 [w0, w1, w2, w3, .int p, w5, w6] (.int x :: st) t I L R Q = WP V 84 16 [w0, w1, w2, w3, .int p, .int x, w6] st t I L R Q := wp_go rfl
theorem i84_16 {w1 w2 w3 w4 w5 w6 : Value} {x : Nat} : WP V 84 16 [.ref x, w1, w2, w3, w4, w5, w6] st t I L R Q = WP V 84 17 [.ref x, w1, w2, w3, w4, w5, w6] (.ref x :: st) t I L R Q := wp_go rfl
theorem i84_17 {k : Nat} (h1 : k < t) (h2 : m_ob k 6 = true) : WP V 84 17 ls (.ref k :: st) t I L R Q = WP V 84 18 ls (m_rv (R k 1) :: st) t I L R Q := wp_getR rfl (by decide) h1 h2
theorem i84_18  : WP V 84 18 ls st t I L R Q = WP V 84 19 ls (.int (nI 286) :: st) t I L R Q := wp_go rfl
theorem i84_19 {w0 w1 w2 w3 w4 w6 : Value} {x : Int32} : WP V 84 19 [w0, w1, w2, w3, w4, .int x, w6] st t I L R Q = WP V 84 20 [w0, w1, w2, w3, w4, .int x, w6] (.int x :: st) t I L R Q := wp_go rfl
theorem i84_20 {x y : Int32} : WP V 84 20 ls (.int y :: .int x :: st) t I L R Q = WP V 84 21 ls (.int (x + y) :: st) t I L R Q := wp_go rfl
theorem i84_21 {k j : Nat} (h2 : m_ar k 2 581 = true) (h1 : k < t) (h3 : j < 581) : WP V 84 21 ls (.int (nI j) :: .ref k :: st) t I L R Q = WP V 84 22 ls (.int (I k j) :: st) t I L R Q := wp_iaload rfl (by decide) h1 h2 h3
theorem i84_22 {p : Int32} {w0 w1 w2 w3 w4 w6 : Value} {x : Int32} : WP V 84 22 [w0, w1, w2, w3, w4, .int p, w6] (.int x :: st) t I L R Q = WP V 84 23 [w0, w1, w2, w3, w4, .int p, .int x] st t I L R Q := wp_go rfl
theorem i84_23 {w1 w2 w3 w4 w5 w6 : Value} {x : Nat} : WP V 84 23 [.ref x, w1, w2, w3, w4, w5, w6] st t I L R Q = WP V 84 24 [.ref x, w1, w2, w3, w4, w5, w6] (.ref x :: st) t I L R Q := wp_go rfl
theorem i84_24 {k : Nat} (h1 : k < t) (h2 : m_ob k 6 = true) : WP V 84 24 ls (.ref k :: st) t I L R Q = WP V 84 25 ls (m_rv (R k 1) :: st) t I L R Q := wp_getR rfl (by decide) h1 h2
theorem i84_25  : WP V 84 25 ls st t I L R Q = WP V 84 26 ls (.int (nI 12) :: st) t I L R Q := wp_go rfl
theorem i84_26 {w0 w2 w3 w4 w5 w6 : Value} {x : Int32} : WP V 84 26 [w0, .int x, w2, w3, w4, w5, w6] st t I L R Q = WP V 84 27 [w0, .int x, w2, w3, w4, w5, w6] (.int x :: st) t I L R Q := wp_go rfl
theorem i84_27 {x y : Int32} : WP V 84 27 ls (.int y :: .int x :: st) t I L R Q = WP V 84 28 ls (.int (x + y) :: st) t I L R Q := wp_go rfl
theorem i84_28 {w0 w1 w2 w3 w5 w6 : Value} {x : Int32} : WP V 84 28 [w0, w1, w2, w3, .int x, w5, w6] st t I L R Q = WP V 84 29 [w0, w1, w2, w3, .int x, w5, w6] (.int x :: st) t I L R Q := wp_go rfl
theorem i84_29 {k j : Nat} {x : Int32} (h2 : m_ar k 2 581 = true) (h1 : k < t) (h3 : j < 581) : WP V 84 29 ls (.int x :: .int (nI j) :: .ref k :: st) t I L R Q = WP V 84 30 ls st t (m_sc I k (m_sc (I k) j x)) L R Q := wp_iastore rfl (by decide) h1 h2 h3
theorem i84_30 {w0 w1 w2 w3 w4 w5 : Value} {x : Int32} : WP V 84 30 [w0, w1, w2, w3, w4, w5, .int x] st t I L R Q = WP V 84 31 [w0, w1, w2, w3, w4, w5, .int x] (.int x :: st) t I L R Q := wp_go rfl
theorem i84_31  : WP V 84 31 ls st t I L R Q = WP V 84 32 ls (.int (nI 14) :: st) t I L R Q := wp_go rfl
theorem i84_32 {x y : Int32} : WP V 84 32 ls (.int y :: .int x :: st) t I L R Q = if x = y then WP V 84 33 ls st t I L R Q else WP V 84 34 ls st t I L R Q := wp_brn (c := m_cc .ne x y) rfl rfl
theorem i84_33  : WP V 84 33 ls st t I L R Q = WP V 84 64 ls st t I L R Q := wp_go rfl
theorem i84_34 {w0 w1 w2 w3 w4 w5 : Value} {x : Int32} : WP V 84 34 [w0, w1, w2, w3, w4, w5, .int x] st t I L R Q = WP V 84 35 [w0, w1, w2, w3, w4, w5, .int x] (.int x :: st) t I L R Q := wp_go rfl
theorem i84_35  : WP V 84 35 ls st t I L R Q = WP V 84 36 ls (.int (nI 16) :: st) t I L R Q := wp_go rfl
theorem i84_36 {x y : Int32} : WP V 84 36 ls (.int y :: .int x :: st) t I L R Q = if x = y then WP V 84 37 ls st t I L R Q else WP V 84 41 ls st t I L R Q := wp_brn (c := m_cc .ne x y) rfl rfl
theorem i84_37 {w1 w2 w3 w4 w5 w6 : Value} {x : Nat} : WP V 84 37 [.ref x, w1, w2, w3, w4, w5, w6] st t I L R Q = WP V 84 38 [.ref x, w1, w2, w3, w4, w5, w6] (.ref x :: st) t I L R Q := wp_go rfl
theorem i84_38 {w0 w2 w3 w4 w5 w6 : Value} {x : Int32} : WP V 84 38 [w0, .int x, w2, w3, w4, w5, w6] st t I L R Q = WP V 84 39 [w0, .int x, w2, w3, w4, w5, w6] (.int x :: st) t I L R Q := wp_go rfl
theorem i84_39 {w0 w1 w2 w3 w4 w6 : Value} {x : Int32} : WP V 84 39 [w0, w1, w2, w3, w4, .int x, w6] st t I L R Q = WP V 84 40 [w0, w1, w2, w3, w4, .int x, w6] (.int x :: st) t I L R Q := wp_go rfl
theorem i84_40 {x0 : Int32} {x1 : Int32} {x2 : Nat}  (h1 : x2 < t) (h2 : m_ob x2 6 = true) : WP V 84 40 ls [.int x0, .int x1, .ref x2] t I L R Q = WPC V 81 [.ref x2, .int x1, .int x0] 84 41 ls [] t I L R Q := wp_cls (wp_icv rfl rfl h1 h2) (by decide) (Nat.le_of_ble_eq_true rfl) rfl rfl (Nat.le_of_ble_eq_true rfl) (Nat.le_of_ble_eq_true rfl)
theorem i84_41 {w1 w2 w3 w4 w5 w6 : Value} {x : Nat} : WP V 84 41 [.ref x, w1, w2, w3, w4, w5, w6] st t I L R Q = WP V 84 42 [.ref x, w1, w2, w3, w4, w5, w6] (.ref x :: st) t I L R Q := wp_go rfl
theorem i84_42 {k : Nat} (h1 : k < t) (h2 : m_ob k 6 = true) : WP V 84 42 ls (.ref k :: st) t I L R Q = WP V 84 43 ls (m_rv (R k 1) :: st) t I L R Q := wp_getR rfl (by decide) h1 h2
theorem i84_43  : WP V 84 43 ls st t I L R Q = WP V 84 44 ls (.int (nI 21) :: st) t I L R Q := wp_go rfl
theorem i84_44  : WP V 84 44 ls st t I L R Q = WP V 84 45 ls (.int (nI 4) :: st) t I L R Q := wp_go rfl
theorem i84_45 {w0 w2 w3 w4 w5 w6 : Value} {x : Int32} : WP V 84 45 [w0, .int x, w2, w3, w4, w5, w6] st t I L R Q = WP V 84 46 [w0, .int x, w2, w3, w4, w5, w6] (.int x :: st) t I L R Q := wp_go rfl
theorem i84_46 {x y : Int32} : WP V 84 46 ls (.int y :: .int x :: st) t I L R Q = WP V 84 47 ls (.int (x * y) :: st) t I L R Q := wp_go rfl
theorem i84_47 {x y : Int32} : WP V 84 47 ls (.int y :: .int x :: st) t I L R Q = WP V 84 48 ls (.int (x + y) :: st) t I L R Q := wp_go rfl
theorem i84_48 {w0 w1 w2 w4 w5 w6 : Value} {x : Int32} : WP V 84 48 [w0, w1, w2, .int x, w4, w5, w6] st t I L R Q = WP V 84 49 [w0, w1, w2, .int x, w4, w5, w6] (.int x :: st) t I L R Q := wp_go rfl
theorem i84_49 {k j : Nat} {x : Int32} (h2 : m_ar k 2 581 = true) (h1 : k < t) (h3 : j < 581) : WP V 84 49 ls (.int x :: .int (nI j) :: .ref k :: st) t I L R Q = WP V 84 50 ls st t (m_sc I k (m_sc (I k) j x)) L R Q := wp_iastore rfl (by decide) h1 h2 h3
theorem i84_50 {w1 w2 w3 w4 w5 w6 : Value} {x : Nat} : WP V 84 50 [.ref x, w1, w2, w3, w4, w5, w6] st t I L R Q = WP V 84 51 [.ref x, w1, w2, w3, w4, w5, w6] (.ref x :: st) t I L R Q := wp_go rfl
theorem i84_51 {k : Nat} (h1 : k < t) (h2 : m_ob k 6 = true) : WP V 84 51 ls (.ref k :: st) t I L R Q = WP V 84 52 ls (m_rv (R k 1) :: st) t I L R Q := wp_getR rfl (by decide) h1 h2
theorem i84_52  : WP V 84 52 ls st t I L R Q = WP V 84 53 ls (.int (nI 6) :: st) t I L R Q := wp_go rfl
theorem i84_53 {w0 w2 w3 w4 w5 w6 : Value} {x : Int32} : WP V 84 53 [w0, .int x, w2, w3, w4, w5, w6] st t I L R Q = WP V 84 54 [w0, .int x, w2, w3, w4, w5, w6] (.int x :: st) t I L R Q := wp_go rfl
theorem i84_54 {x y : Int32} : WP V 84 54 ls (.int y :: .int x :: st) t I L R Q = WP V 84 55 ls (.int (x + y) :: st) t I L R Q := wp_go rfl
theorem i84_55 {w1 w2 w3 w4 w5 w6 : Value} {x : Nat} : WP V 84 55 [.ref x, w1, w2, w3, w4, w5, w6] st t I L R Q = WP V 84 56 [.ref x, w1, w2, w3, w4, w5, w6] (.ref x :: st) t I L R Q := wp_go rfl
theorem i84_56 {k : Nat} (h1 : k < t) (h2 : m_ob k 6 = true) : WP V 84 56 ls (.ref k :: st) t I L R Q = WP V 84 57 ls (m_rv (R k 1) :: st) t I L R Q := wp_getR rfl (by decide) h1 h2
theorem i84_57  : WP V 84 57 ls st t I L R Q = WP V 84 58 ls (.int (nI 287) :: st) t I L R Q := wp_go rfl
theorem i84_58 {w0 w1 w2 w3 w4 w6 : Value} {x : Int32} : WP V 84 58 [w0, w1, w2, w3, w4, .int x, w6] st t I L R Q = WP V 84 59 [w0, w1, w2, w3, w4, .int x, w6] (.int x :: st) t I L R Q := wp_go rfl
theorem i84_59 {x y : Int32} : WP V 84 59 ls (.int y :: .int x :: st) t I L R Q = WP V 84 60 ls (.int (x + y) :: st) t I L R Q := wp_go rfl
theorem i84_60 {k j : Nat} (h2 : m_ar k 2 581 = true) (h1 : k < t) (h3 : j < 581) : WP V 84 60 ls (.int (nI j) :: .ref k :: st) t I L R Q = WP V 84 61 ls (.int (I k j) :: st) t I L R Q := wp_iaload rfl (by decide) h1 h2 h3
theorem i84_61 {k j : Nat} {x : Int32} (h2 : m_ar k 2 581 = true) (h1 : k < t) (h3 : j < 581) : WP V 84 61 ls (.int x :: .int (nI j) :: .ref k :: st) t I L R Q = WP V 84 62 ls st t (m_sc I k (m_sc (I k) j x)) L R Q := wp_iastore rfl (by decide) h1 h2 h3
theorem i84_62  : WP V 84 62 ls st t I L R Q = WP V 84 63 ls (.int (nI 1) :: st) t I L R Q := wp_go rfl
theorem i84_63 {x : Int32} (h : m_01 x = true) : WP V 84 63 ls [.int x] t I L R Q = Q (some (.int x)) t I L R := wp_rtz rfl rfl h
theorem i84_64 {p : Int32} {w0 w1 w2 w5 w6 : Value} {x : Int32} : WP V 84 64 [w0, w1, w2, .int p, .int x, w5, w6] st t I L R Q = WP V 84 65 [w0, w1, w2, .int p, .int (x + (-1)), w5, w6] st t I L R Q := wp_go rfl
theorem i84_65  : WP V 84 65 ls st t I L R Q = WP V 84 9 ls st t I L R Q := wp_go rfl
theorem i84_66  : WP V 84 66 ls st t I L R Q = WP V 84 67 ls (.int (nI 0) :: st) t I L R Q := wp_go rfl
theorem i84_67 {x : Int32} (h : m_01 x = true) : WP V 84 67 ls [.int x] t I L R Q = Q (some (.int x)) t I L R := wp_rtz rfl rfl h
-- TransactionCells.<init>()V
theorem i85_0 {x : Nat} : WP V 85 0 [.ref x] st t I L R Q = WP V 85 1 [.ref x] (.ref x :: st) t I L R Q := wp_go rfl
theorem i85_1 {k : Nat}  : WP V 85 1 ls [.ref k] t I L R Q = WP V 85 2 ls [] t I L R Q := wp_objI rfl (Nat.le_of_ble_eq_true rfl)
theorem i85_2 {x : Nat} : WP V 85 2 [.ref x] st t I L R Q = WP V 85 3 [.ref x] (.ref x :: st) t I L R Q := wp_go rfl
theorem i85_3 (h : m_ob t 3 = true) : WP V 85 3 ls st t I L R Q = WP V 85 4 ls (.ref t :: st) (t + 1) (m_sc I t (fun _ => 0)) L (m_sc R t (fun _ => none)) Q := wp_new rfl h
theorem i85_4 {v0 : Nat} : WP V 85 4 ls (.ref v0 :: st) t I L R Q = WP V 85 5 ls (.ref v0 :: .ref v0 :: st) t I L R Q := wp_go rfl
theorem i85_5 {x0 : Nat} {r0 : Nat} {r1 : Nat} (h1 : x0 < t) : WP V 85 5 ls [.ref x0, .ref r0, .ref r1] t I L R Q = WPC V 43 [.ref x0] 85 6 ls [.ref r0, .ref r1] t I L R Q := wp_cls (wp_icp rfl (by decide) rfl h1) (by decide) (Nat.le_of_ble_eq_true rfl) rfl rfl (Nat.le_of_ble_eq_true rfl) (Nat.le_of_ble_eq_true rfl)
theorem i85_6 {k x : Nat} (h1 : k < t) (h2 : m_ob k 7 = true) : WP V 85 6 ls (.ref x :: .ref k :: st) t I L R Q = WP V 85 7 ls st t I L (m_sc R k (m_sc (R k) 0 (some x))) Q := wp_putR rfl (by decide) h1 h2
theorem i85_6n {k : Nat} (h1 : k < t) (h2 : m_ob k 7 = true) : WP V 85 6 ls (.null :: .ref k :: st) t I L R Q = WP V 85 7 ls st t I L (m_sc R k (m_sc (R k) 0 none)) Q := wp_putN rfl (by decide) h1 h2
theorem i85_7 {x : Nat} : WP V 85 7 [.ref x] st t I L R Q = WP V 85 8 [.ref x] (.ref x :: st) t I L R Q := wp_go rfl
theorem i85_8 (h : m_ob t 3 = true) : WP V 85 8 ls st t I L R Q = WP V 85 9 ls (.ref t :: st) (t + 1) (m_sc I t (fun _ => 0)) L (m_sc R t (fun _ => none)) Q := wp_new rfl h
theorem i85_9 {v0 : Nat} : WP V 85 9 ls (.ref v0 :: st) t I L R Q = WP V 85 10 ls (.ref v0 :: .ref v0 :: st) t I L R Q := wp_go rfl
theorem i85_10 {x0 : Nat} {r0 : Nat} {r1 : Nat} (h1 : x0 < t) : WP V 85 10 ls [.ref x0, .ref r0, .ref r1] t I L R Q = WPC V 43 [.ref x0] 85 11 ls [.ref r0, .ref r1] t I L R Q := wp_cls (wp_icp rfl (by decide) rfl h1) (by decide) (Nat.le_of_ble_eq_true rfl) rfl rfl (Nat.le_of_ble_eq_true rfl) (Nat.le_of_ble_eq_true rfl)
theorem i85_11 {k x : Nat} (h1 : k < t) (h2 : m_ob k 7 = true) : WP V 85 11 ls (.ref x :: .ref k :: st) t I L R Q = WP V 85 12 ls st t I L (m_sc R k (m_sc (R k) 1 (some x))) Q := wp_putR rfl (by decide) h1 h2
theorem i85_11n {k : Nat} (h1 : k < t) (h2 : m_ob k 7 = true) : WP V 85 11 ls (.null :: .ref k :: st) t I L R Q = WP V 85 12 ls st t I L (m_sc R k (m_sc (R k) 1 none)) Q := wp_putN rfl (by decide) h1 h2
theorem i85_12 {x : Nat} : WP V 85 12 [.ref x] st t I L R Q = WP V 85 13 [.ref x] (.ref x :: st) t I L R Q := wp_go rfl
theorem i85_13 (h : m_ob t 6 = true) : WP V 85 13 ls st t I L R Q = WP V 85 14 ls (.ref t :: st) (t + 1) (m_sc I t (fun _ => 0)) L (m_sc R t (fun _ => none)) Q := wp_new rfl h
theorem i85_14 {v0 : Nat} : WP V 85 14 ls (.ref v0 :: st) t I L R Q = WP V 85 15 ls (.ref v0 :: .ref v0 :: st) t I L R Q := wp_go rfl
theorem i85_15 {x : Nat} : WP V 85 15 [.ref x] st t I L R Q = WP V 85 16 [.ref x] (.ref x :: st) t I L R Q := wp_go rfl
theorem i85_16 {k : Nat} (h1 : k < t) (h2 : m_ob k 7 = true) : WP V 85 16 ls (.ref k :: st) t I L R Q = WP V 85 17 ls (m_rv (R k 0) :: st) t I L R Q := wp_getR rfl (by decide) h1 h2
theorem i85_17 {x0 : Nat} {x1 : Nat} {r0 : Nat} {r1 : Nat} (h1 : x1 < t) : WP V 85 17 ls [.ref x0, .ref x1, .ref r0, .ref r1] t I L R Q = WPC V 69 [.ref x1, .ref x0] 85 18 ls [.ref r0, .ref r1] t I L R Q := wp_cls (wp_icp rfl (by decide) rfl h1) (by decide) (Nat.le_of_ble_eq_true rfl) rfl rfl (Nat.le_of_ble_eq_true rfl) (Nat.le_of_ble_eq_true rfl)
theorem i85_18 {k x : Nat} (h1 : k < t) (h2 : m_ob k 7 = true) : WP V 85 18 ls (.ref x :: .ref k :: st) t I L R Q = WP V 85 19 ls st t I L (m_sc R k (m_sc (R k) 2 (some x))) Q := wp_putR rfl (by decide) h1 h2
theorem i85_18n {k : Nat} (h1 : k < t) (h2 : m_ob k 7 = true) : WP V 85 18 ls (.null :: .ref k :: st) t I L R Q = WP V 85 19 ls st t I L (m_sc R k (m_sc (R k) 2 none)) Q := wp_putN rfl (by decide) h1 h2
theorem i85_19 {x : Nat} : WP V 85 19 [.ref x] st t I L R Q = WP V 85 20 [.ref x] (.ref x :: st) t I L R Q := wp_go rfl
theorem i85_20  : WP V 85 20 ls st t I L R Q = WP V 85 21 ls (.int (nI 0) :: st) t I L R Q := wp_go rfl
theorem i85_21 {k : Nat} {x : Int32} (h1 : k < t) (h2 : m_ob k 7 = true) (h3 : m_01 x = true) : WP V 85 21 ls (.int x :: .ref k :: st) t I L R Q = WP V 85 22 ls st t (m_sc I k (m_sc (I k) 3 x)) L R Q := wp_putZ rfl (by decide) h1 h2 h3
theorem i85_22 {x : Nat} : WP V 85 22 [.ref x] st t I L R Q = WP V 85 23 [.ref x] (.ref x :: st) t I L R Q := wp_go rfl
theorem i85_23  : WP V 85 23 ls st t I L R Q = WP V 85 24 ls (.null :: st) t I L R Q := wp_go rfl
theorem i85_24 {k x : Nat} (h1 : k < t) (h2 : m_ob k 7 = true) : WP V 85 24 ls (.ref x :: .ref k :: st) t I L R Q = WP V 85 25 ls st t I L (m_sc R k (m_sc (R k) 4 (some x))) Q := wp_putR rfl (by decide) h1 h2
theorem i85_24n {k : Nat} (h1 : k < t) (h2 : m_ob k 7 = true) : WP V 85 24 ls (.null :: .ref k :: st) t I L R Q = WP V 85 25 ls st t I L (m_sc R k (m_sc (R k) 4 none)) Q := wp_putN rfl (by decide) h1 h2
theorem i85_25 {x : Nat} : WP V 85 25 [.ref x] st t I L R Q = WP V 85 26 [.ref x] (.ref x :: st) t I L R Q := wp_go rfl
theorem i85_26  : WP V 85 26 ls st t I L R Q = WP V 85 27 ls (.int (nI 4000) :: st) t I L R Q := wp_go rfl
theorem i85_27 {k : Nat} {x : Int32} (h1 : k < t) (h2 : m_ob k 7 = true) : WP V 85 27 ls (.int x :: .ref k :: st) t I L R Q = WP V 85 28 ls st t (m_sc I k (m_sc (I k) 5 x)) L R Q := wp_putI rfl (by decide) h1 h2
theorem i85_28  : WP V 85 28 ls [] t I L R Q = Q none t I L R := wp_rtv rfl rfl
-- TransactionCells.act(IIIII)I
theorem i86_0 {w0 w2 w3 w4 w5 : Value} {x : Int32} : WP V 86 0 [w0, .int x, w2, w3, w4, w5] st t I L R Q = WP V 86 1 [w0, .int x, w2, w3, w4, w5] (.int x :: st) t I L R Q := wp_go rfl
theorem i86_1  : WP V 86 1 ls st t I L R Q = WP V 86 2 ls (.int (nI 6) :: st) t I L R Q := wp_go rfl
theorem i86_2 {x0 : Int32} {x1 : Int32}  : WP V 86 2 ls [.int x0, .int x1] t I L R Q = WPC V 109 [.int x1, .int x0] 86 3 ls [] t I L R Q := wp_cls (wp_ics rfl (by decide)) (by decide) (Nat.le_of_ble_eq_true rfl) rfl rfl (Nat.le_of_ble_eq_true rfl) (Nat.le_of_ble_eq_true rfl)
theorem i86_3 {x : Int32} : WP V 86 3 ls (.int x :: st) t I L R Q = if x = nI 0 then WP V 86 4 ls st t I L R Q else WP V 86 6 ls st t I L R Q := wp_brn (c := m_cc .ne x 0) rfl rfl
theorem i86_4  : WP V 86 4 ls st t I L R Q = WP V 86 5 ls (.int (-101) :: st) t I L R Q := wp_go rfl
theorem i86_5 {x : Int32} : WP V 86 5 ls [.int x] t I L R Q = Q (some (.int x)) t I L R := wp_rti rfl rfl
theorem i86_6 {w0 w1 w3 w4 w5 : Value} {x : Int32} : WP V 86 6 [w0, w1, .int x, w3, w4, w5] st t I L R Q = WP V 86 7 [w0, w1, .int x, w3, w4, w5] (.int x :: st) t I L R Q := wp_go rfl
theorem i86_7 {w0 w1 w2 w4 w5 : Value} {x : Int32} : WP V 86 7 [w0, w1, w2, .int x, w4, w5] st t I L R Q = WP V 86 8 [w0, w1, w2, .int x, w4, w5] (.int x :: st) t I L R Q := wp_go rfl
theorem i86_8 {w0 w1 w2 w3 w5 : Value} {x : Int32} : WP V 86 8 [w0, w1, w2, w3, .int x, w5] st t I L R Q = WP V 86 9 [w0, w1, w2, w3, .int x, w5] (.int x :: st) t I L R Q := wp_go rfl
theorem i86_9 {w0 w1 w2 w3 w4 : Value} {x : Int32} : WP V 86 9 [w0, w1, w2, w3, w4, .int x] st t I L R Q = WP V 86 10 [w0, w1, w2, w3, w4, .int x] (.int x :: st) t I L R Q := wp_go rfl
theorem i86_10 {x0 : Int32} {x1 : Int32} {x2 : Int32} {x3 : Int32}  : WP V 86 10 ls [.int x0, .int x1, .int x2, .int x3] t I L R Q = WPC V 1 [.int x3, .int x2, .int x1, .int x0] 86 11 ls [] t I L R Q := wp_cls (wp_ics rfl (by decide)) (by decide) (Nat.le_of_ble_eq_true rfl) rfl rfl (Nat.le_of_ble_eq_true rfl) (Nat.le_of_ble_eq_true rfl)
theorem i86_11 {x : Int32} : WP V 86 11 ls (.int x :: st) t I L R Q = if x = nI 0 then WP V 86 12 ls st t I L R Q else WP V 86 14 ls st t I L R Q := wp_brn (c := m_cc .ne x 0) rfl rfl
theorem i86_12  : WP V 86 12 ls st t I L R Q = WP V 86 13 ls (.int (-102) :: st) t I L R Q := wp_go rfl
theorem i86_13 {x : Int32} : WP V 86 13 ls [.int x] t I L R Q = Q (some (.int x)) t I L R := wp_rti rfl rfl
theorem i86_14 {w1 w2 w3 w4 w5 : Value} {x : Nat} : WP V 86 14 [.ref x, w1, w2, w3, w4, w5] st t I L R Q = WP V 86 15 [.ref x, w1, w2, w3, w4, w5] (.ref x :: st) t I L R Q := wp_go rfl
theorem i86_15 {k : Nat} (h1 : k < t) (h2 : m_ob k 7 = true) : WP V 86 15 ls (.ref k :: st) t I L R Q = WP V 86 16 ls (m_rv (R k 0) :: st) t I L R Q := wp_getR rfl (by decide) h1 h2
theorem i86_16 {x0 : Nat}  (h1 : x0 < t) (h2 : m_ob x0 3 = true) : WP V 86 16 ls [.ref x0] t I L R Q = WPC V 49 [.ref x0] 86 17 ls [] t I L R Q := wp_cls (wp_icv rfl rfl h1 h2) (by decide) (Nat.le_of_ble_eq_true rfl) rfl rfl (Nat.le_of_ble_eq_true rfl) (Nat.le_of_ble_eq_true rfl)
theorem i86_17 {x : Int32} : WP V 86 17 ls (.int x :: st) t I L R Q = if x = nI 0 then WP V 86 20 ls st t I L R Q else WP V 86 18 ls st t I L R Q := wp_br (c := m_cc .eq x 0) rfl rfl
theorem i86_18  : WP V 86 18 ls st t I L R Q = WP V 86 19 ls (.int (-103) :: st) t I L R Q := wp_go rfl
theorem i86_19 {x : Int32} : WP V 86 19 ls [.int x] t I L R Q = Q (some (.int x)) t I L R := wp_rti rfl rfl
theorem i86_20 {w1 w2 w3 w4 w5 : Value} {x : Nat} : WP V 86 20 [.ref x, w1, w2, w3, w4, w5] st t I L R Q = WP V 86 21 [.ref x, w1, w2, w3, w4, w5] (.ref x :: st) t I L R Q := wp_go rfl
theorem i86_21 {k : Nat} (h1 : k < t) (h2 : m_ob k 7 = true) : WP V 86 21 ls (.ref k :: st) t I L R Q = WP V 86 22 ls (m_rv (R k 0) :: st) t I L R Q := wp_getR rfl (by decide) h1 h2
theorem i86_22 {k : Nat} (h1 : k < t) (h2 : m_ob k 3 = true) : WP V 86 22 ls (.ref k :: st) t I L R Q = WP V 86 23 ls (m_rv (R k 1) :: st) t I L R Q := wp_getR rfl (by decide) h1 h2
theorem i86_23 {k : Nat} (h1 : k < t) (h2 : m_ob k 0 = true) : WP V 86 23 ls (.ref k :: st) t I L R Q = WP V 86 24 ls (m_rv (R k 1) :: st) t I L R Q := wp_getR rfl (by decide) h1 h2
theorem i86_24 {w0 w2 w3 w4 w5 : Value} {x : Int32} : WP V 86 24 [w0, .int x, w2, w3, w4, w5] st t I L R Q = WP V 86 25 [w0, .int x, w2, w3, w4, w5] (.int x :: st) t I L R Q := wp_go rfl
theorem i86_25 {k j : Nat} (h2 : m_ar k 2 6 = true) (h1 : k < t) (h3 : j < 6) : WP V 86 25 ls (.int (nI j) :: .ref k :: st) t I L R Q = WP V 86 26 ls (.int (I k j) :: st) t I L R Q := wp_iaload rfl (by decide) h1 h2 h3
theorem i86_26  : WP V 86 26 ls st t I L R Q = WP V 86 27 ls (.int (nI 40) :: st) t I L R Q := wp_go rfl
theorem i86_27 {x y : Int32} : WP V 86 27 ls (.int y :: .int x :: st) t I L R Q = if x < y then WP V 86 30 ls st t I L R Q else WP V 86 28 ls st t I L R Q := wp_br (c := m_cc .lt x y) rfl rfl
theorem i86_28  : WP V 86 28 ls st t I L R Q = WP V 86 29 ls (.int (-104) :: st) t I L R Q := wp_go rfl
theorem i86_29 {x : Int32} : WP V 86 29 ls [.int x] t I L R Q = Q (some (.int x)) t I L R := wp_rti rfl rfl
theorem i86_30 {w1 w2 w3 w4 w5 : Value} {x : Nat} : WP V 86 30 [.ref x, w1, w2, w3, w4, w5] st t I L R Q = WP V 86 31 [.ref x, w1, w2, w3, w4, w5] (.ref x :: st) t I L R Q := wp_go rfl
theorem i86_31 {k : Nat} (h1 : k < t) (h2 : m_ob k 7 = true) : WP V 86 31 ls (.ref k :: st) t I L R Q = WP V 86 32 ls (m_rv (R k 0) :: st) t I L R Q := wp_getR rfl (by decide) h1 h2
theorem i86_32 {k : Nat} (h1 : k < t) (h2 : m_ob k 3 = true) : WP V 86 32 ls (.ref k :: st) t I L R Q = WP V 86 33 ls (m_rv (R k 1) :: st) t I L R Q := wp_getR rfl (by decide) h1 h2
theorem i86_33 {w0 w2 w3 w4 w5 : Value} {x : Int32} : WP V 86 33 [w0, .int x, w2, w3, w4, w5] st t I L R Q = WP V 86 34 [w0, .int x, w2, w3, w4, w5] (.int x :: st) t I L R Q := wp_go rfl
theorem i86_34 {w0 w1 w3 w4 w5 : Value} {x : Int32} : WP V 86 34 [w0, w1, .int x, w3, w4, w5] st t I L R Q = WP V 86 35 [w0, w1, .int x, w3, w4, w5] (.int x :: st) t I L R Q := wp_go rfl
theorem i86_35 {w0 w1 w2 w4 w5 : Value} {x : Int32} : WP V 86 35 [w0, w1, w2, .int x, w4, w5] st t I L R Q = WP V 86 36 [w0, w1, w2, .int x, w4, w5] (.int x :: st) t I L R Q := wp_go rfl
theorem i86_36 {w0 w1 w2 w3 w5 : Value} {x : Int32} : WP V 86 36 [w0, w1, w2, w3, .int x, w5] st t I L R Q = WP V 86 37 [w0, w1, w2, w3, .int x, w5] (.int x :: st) t I L R Q := wp_go rfl
theorem i86_37 {w0 w1 w2 w3 w4 : Value} {x : Int32} : WP V 86 37 [w0, w1, w2, w3, w4, .int x] st t I L R Q = WP V 86 38 [w0, w1, w2, w3, w4, .int x] (.int x :: st) t I L R Q := wp_go rfl
theorem i86_38 {x0 : Int32} {x1 : Int32} {x2 : Int32} {x3 : Int32} {x4 : Int32} {x5 : Nat}  (h1 : x5 < t) (h2 : m_ob x5 0 = true) : WP V 86 38 ls [.int x0, .int x1, .int x2, .int x3, .int x4, .ref x5] t I L R Q = WPC V 4 [.ref x5, .int x4, .int x3, .int x2, .int x1, .int x0] 86 39 ls [] t I L R Q := wp_cls (wp_icv rfl rfl h1 h2) (by decide) (Nat.le_of_ble_eq_true rfl) rfl rfl (Nat.le_of_ble_eq_true rfl) (Nat.le_of_ble_eq_true rfl)
theorem i86_39 {x : Int32} : WP V 86 39 ls [.int x] t I L R Q = Q (some (.int x)) t I L R := wp_rti rfl rfl
-- TransactionCells.wipe()I
theorem i87_0 {x : Nat} : WP V 87 0 [.ref x] st t I L R Q = WP V 87 1 [.ref x] (.ref x :: st) t I L R Q := wp_go rfl
theorem i87_1 {k : Nat} (h1 : k < t) (h2 : m_ob k 7 = true) : WP V 87 1 ls (.ref k :: st) t I L R Q = WP V 87 2 ls (m_rv (R k 0) :: st) t I L R Q := wp_getR rfl (by decide) h1 h2
theorem i87_2 {x0 : Nat}  (h1 : x0 < t) (h2 : m_ob x0 3 = true) : WP V 87 2 ls [.ref x0] t I L R Q = WPC V 49 [.ref x0] 87 3 ls [] t I L R Q := wp_cls (wp_icv rfl rfl h1 h2) (by decide) (Nat.le_of_ble_eq_true rfl) rfl rfl (Nat.le_of_ble_eq_true rfl) (Nat.le_of_ble_eq_true rfl)
theorem i87_3 {x : Int32} : WP V 87 3 ls (.int x :: st) t I L R Q = if x = nI 0 then WP V 87 6 ls st t I L R Q else WP V 87 4 ls st t I L R Q := wp_br (c := m_cc .eq x 0) rfl rfl
theorem i87_4  : WP V 87 4 ls st t I L R Q = WP V 87 5 ls (.int (-103) :: st) t I L R Q := wp_go rfl
theorem i87_5  : WP V 87 5 ls st t I L R Q = WP V 87 10 ls st t I L R Q := wp_go rfl
theorem i87_6 {x : Nat} : WP V 87 6 [.ref x] st t I L R Q = WP V 87 7 [.ref x] (.ref x :: st) t I L R Q := wp_go rfl
theorem i87_7 {k : Nat} (h1 : k < t) (h2 : m_ob k 7 = true) : WP V 87 7 ls (.ref k :: st) t I L R Q = WP V 87 8 ls (m_rv (R k 0) :: st) t I L R Q := wp_getR rfl (by decide) h1 h2
theorem i87_8 {k : Nat} (h1 : k < t) (h2 : m_ob k 3 = true) : WP V 87 8 ls (.ref k :: st) t I L R Q = WP V 87 9 ls (m_rv (R k 1) :: st) t I L R Q := wp_getR rfl (by decide) h1 h2
theorem i87_9 {x0 : Nat}  (h1 : x0 < t) (h2 : m_ob x0 0 = true) : WP V 87 9 ls [.ref x0] t I L R Q = WPC V 5 [.ref x0] 87 10 ls [] t I L R Q := wp_cls (wp_icv rfl rfl h1 h2) (by decide) (Nat.le_of_ble_eq_true rfl) rfl rfl (Nat.le_of_ble_eq_true rfl) (Nat.le_of_ble_eq_true rfl)
theorem i87_10 {x : Int32} : WP V 87 10 ls [.int x] t I L R Q = Q (some (.int x)) t I L R := wp_rti rfl rfl
-- TransactionCells.row(III)I
theorem i88_0 {w0 w2 w3 : Value} {x : Int32} : WP V 88 0 [w0, .int x, w2, w3] st t I L R Q = WP V 88 1 [w0, .int x, w2, w3] (.int x :: st) t I L R Q := wp_go rfl
theorem i88_1  : WP V 88 1 ls st t I L R Q = WP V 88 2 ls (.int (nI 6) :: st) t I L R Q := wp_go rfl
theorem i88_2 {x0 : Int32} {x1 : Int32}  : WP V 88 2 ls [.int x0, .int x1] t I L R Q = WPC V 109 [.int x1, .int x0] 88 3 ls [] t I L R Q := wp_cls (wp_ics rfl (by decide)) (by decide) (Nat.le_of_ble_eq_true rfl) rfl rfl (Nat.le_of_ble_eq_true rfl) (Nat.le_of_ble_eq_true rfl)
theorem i88_3 {x : Int32} : WP V 88 3 ls (.int x :: st) t I L R Q = if x = nI 0 then WP V 88 4 ls st t I L R Q else WP V 88 6 ls st t I L R Q := wp_brn (c := m_cc .ne x 0) rfl rfl
theorem i88_4  : WP V 88 4 ls st t I L R Q = WP V 88 5 ls (.int (-101) :: st) t I L R Q := wp_go rfl
theorem i88_5 {x : Int32} : WP V 88 5 ls [.int x] t I L R Q = Q (some (.int x)) t I L R := wp_rti rfl rfl
theorem i88_6 {w0 w1 w3 : Value} {x : Int32} : WP V 88 6 [w0, w1, .int x, w3] st t I L R Q = WP V 88 7 [w0, w1, .int x, w3] (.int x :: st) t I L R Q := wp_go rfl
theorem i88_7  : WP V 88 7 ls st t I L R Q = WP V 88 8 ls (.int (nI 5) :: st) t I L R Q := wp_go rfl
theorem i88_8 {x0 : Int32} {x1 : Int32}  : WP V 88 8 ls [.int x0, .int x1] t I L R Q = WPC V 109 [.int x1, .int x0] 88 9 ls [] t I L R Q := wp_cls (wp_ics rfl (by decide)) (by decide) (Nat.le_of_ble_eq_true rfl) rfl rfl (Nat.le_of_ble_eq_true rfl) (Nat.le_of_ble_eq_true rfl)
theorem i88_9 {x : Int32} : WP V 88 9 ls (.int x :: st) t I L R Q = if x = nI 0 then WP V 88 13 ls st t I L R Q else WP V 88 10 ls st t I L R Q := wp_br (c := m_cc .eq x 0) rfl rfl
theorem i88_10 {w0 w1 w2 : Value} {x : Int32} : WP V 88 10 [w0, w1, w2, .int x] st t I L R Q = WP V 88 11 [w0, w1, w2, .int x] (.int x :: st) t I L R Q := wp_go rfl
theorem i88_11  : WP V 88 11 ls st t I L R Q = WP V 88 12 ls (.int (nI 16) :: st) t I L R Q := wp_go rfl
theorem i88_12 {x y : Int32} : WP V 88 12 ls (.int y :: .int x :: st) t I L R Q = if x ≤ y then WP V 88 15 ls st t I L R Q else WP V 88 13 ls st t I L R Q := wp_br (c := m_cc .le x y) rfl rfl
theorem i88_13  : WP V 88 13 ls st t I L R Q = WP V 88 14 ls (.int (-102) :: st) t I L R Q := wp_go rfl
theorem i88_14 {x : Int32} : WP V 88 14 ls [.int x] t I L R Q = Q (some (.int x)) t I L R := wp_rti rfl rfl
theorem i88_15 {w0 w1 w2 : Value} {x : Int32} : WP V 88 15 [w0, w1, w2, .int x] st t I L R Q = WP V 88 16 [w0, w1, w2, .int x] (.int x :: st) t I L R Q := wp_go rfl
theorem i88_16 {x : Int32} : WP V 88 16 ls (.int x :: st) t I L R Q = if nI 0 ≤ x then WP V 88 19 ls st t I L R Q else WP V 88 17 ls st t I L R Q := wp_br (c := m_cc .ge x 0) rfl rfl
theorem i88_17  : WP V 88 17 ls st t I L R Q = WP V 88 18 ls (.int (-15) :: st) t I L R Q := wp_go rfl
theorem i88_18 {x : Int32} : WP V 88 18 ls [.int x] t I L R Q = Q (some (.int x)) t I L R := wp_rti rfl rfl
theorem i88_19 {w1 w2 w3 : Value} {x : Nat} : WP V 88 19 [.ref x, w1, w2, w3] st t I L R Q = WP V 88 20 [.ref x, w1, w2, w3] (.ref x :: st) t I L R Q := wp_go rfl
theorem i88_20 {k : Nat} (h1 : k < t) (h2 : m_ob k 7 = true) : WP V 88 20 ls (.ref k :: st) t I L R Q = WP V 88 21 ls (m_rv (R k 0) :: st) t I L R Q := wp_getR rfl (by decide) h1 h2
theorem i88_21 {k : Nat} (h1 : k < t) (h2 : m_ob k 3 = true) : WP V 88 21 ls (.ref k :: st) t I L R Q = WP V 88 22 ls (m_rv (R k 2) :: st) t I L R Q := wp_getR rfl (by decide) h1 h2
theorem i88_22 {w0 w2 w3 : Value} {x : Int32} : WP V 88 22 [w0, .int x, w2, w3] st t I L R Q = WP V 88 23 [w0, .int x, w2, w3] (.int x :: st) t I L R Q := wp_go rfl
theorem i88_23 {w0 w1 w3 : Value} {x : Int32} : WP V 88 23 [w0, w1, .int x, w3] st t I L R Q = WP V 88 24 [w0, w1, .int x, w3] (.int x :: st) t I L R Q := wp_go rfl
theorem i88_24 {w0 w1 w2 : Value} {x : Int32} : WP V 88 24 [w0, w1, w2, .int x] st t I L R Q = WP V 88 25 [w0, w1, w2, .int x] (.int x :: st) t I L R Q := wp_go rfl
theorem i88_25 {x0 : Int32} {x1 : Int32} {x2 : Int32} {x3 : Nat}  (h1 : x3 < t) (h2 : m_ob x3 5 = true) : WP V 88 25 ls [.int x0, .int x1, .int x2, .ref x3] t I L R Q = WPC V 65 [.ref x3, .int x2, .int x1, .int x0] 88 26 ls [] t I L R Q := wp_cls (wp_icv rfl rfl h1 h2) (by decide) (Nat.le_of_ble_eq_true rfl) rfl rfl (Nat.le_of_ble_eq_true rfl) (Nat.le_of_ble_eq_true rfl)
theorem i88_26  : WP V 88 26 ls st t I L R Q = WP V 88 27 ls (.int (nI 0) :: st) t I L R Q := wp_go rfl
theorem i88_27 {x : Int32} : WP V 88 27 ls [.int x] t I L R Q = Q (some (.int x)) t I L R := wp_rti rfl rfl
-- TransactionCells.item(IIJ)I
theorem i89_0 {w0 w2 w3 w4 : Value} {x : Int32} : WP V 89 0 [w0, .int x, w2, w3, w4] st t I L R Q = WP V 89 1 [w0, .int x, w2, w3, w4] (.int x :: st) t I L R Q := wp_go rfl
theorem i89_1  : WP V 89 1 ls st t I L R Q = WP V 89 2 ls (.int (nI 6) :: st) t I L R Q := wp_go rfl
theorem i89_2 {x0 : Int32} {x1 : Int32}  : WP V 89 2 ls [.int x0, .int x1] t I L R Q = WPC V 109 [.int x1, .int x0] 89 3 ls [] t I L R Q := wp_cls (wp_ics rfl (by decide)) (by decide) (Nat.le_of_ble_eq_true rfl) rfl rfl (Nat.le_of_ble_eq_true rfl) (Nat.le_of_ble_eq_true rfl)
theorem i89_3 {x : Int32} : WP V 89 3 ls (.int x :: st) t I L R Q = if x = nI 0 then WP V 89 4 ls st t I L R Q else WP V 89 6 ls st t I L R Q := wp_brn (c := m_cc .ne x 0) rfl rfl
theorem i89_4  : WP V 89 4 ls st t I L R Q = WP V 89 5 ls (.int (-101) :: st) t I L R Q := wp_go rfl
theorem i89_5 {x : Int32} : WP V 89 5 ls [.int x] t I L R Q = Q (some (.int x)) t I L R := wp_rti rfl rfl
theorem i89_6 {w1 w2 w3 w4 : Value} {x : Nat} : WP V 89 6 [.ref x, w1, w2, w3, w4] st t I L R Q = WP V 89 7 [.ref x, w1, w2, w3, w4] (.ref x :: st) t I L R Q := wp_go rfl
theorem i89_7 {k : Nat} (h1 : k < t) (h2 : m_ob k 7 = true) : WP V 89 7 ls (.ref k :: st) t I L R Q = WP V 89 8 ls (m_rv (R k 0) :: st) t I L R Q := wp_getR rfl (by decide) h1 h2
theorem i89_8 {k : Nat} (h1 : k < t) (h2 : m_ob k 3 = true) : WP V 89 8 ls (.ref k :: st) t I L R Q = WP V 89 9 ls (m_rv (R k 2) :: st) t I L R Q := wp_getR rfl (by decide) h1 h2
theorem i89_9 {w0 w2 w3 w4 : Value} {x : Int32} : WP V 89 9 [w0, .int x, w2, w3, w4] st t I L R Q = WP V 89 10 [w0, .int x, w2, w3, w4] (.int x :: st) t I L R Q := wp_go rfl
theorem i89_10 {x0 : Int32} {x1 : Nat}  (h1 : x1 < t) (h2 : m_ob x1 5 = true) : WP V 89 10 ls [.int x0, .ref x1] t I L R Q = WPC V 64 [.ref x1, .int x0] 89 11 ls [] t I L R Q := wp_cls (wp_icv rfl rfl h1 h2) (by decide) (Nat.le_of_ble_eq_true rfl) rfl rfl (Nat.le_of_ble_eq_true rfl) (Nat.le_of_ble_eq_true rfl)
theorem i89_11 {x : Int32} : WP V 89 11 ls (.int x :: st) t I L R Q = if x = nI 0 then WP V 89 14 ls st t I L R Q else WP V 89 12 ls st t I L R Q := wp_br (c := m_cc .eq x 0) rfl rfl
theorem i89_12  : WP V 89 12 ls st t I L R Q = WP V 89 13 ls (.int (-103) :: st) t I L R Q := wp_go rfl
theorem i89_13 {x : Int32} : WP V 89 13 ls [.int x] t I L R Q = Q (some (.int x)) t I L R := wp_rti rfl rfl
theorem i89_14 {w0 w1 w3 w4 : Value} {x : Int32} : WP V 89 14 [w0, w1, .int x, w3, w4] st t I L R Q = WP V 89 15 [w0, w1, .int x, w3, w4] (.int x :: st) t I L R Q := wp_go rfl
theorem i89_15 {w1 w2 w3 w4 : Value} {x : Nat} : WP V 89 15 [.ref x, w1, w2, w3, w4] st t I L R Q = WP V 89 16 [.ref x, w1, w2, w3, w4] (.ref x :: st) t I L R Q := wp_go rfl
theorem i89_16 {k : Nat} (h1 : k < t) (h2 : m_ob k 7 = true) : WP V 89 16 ls (.ref k :: st) t I L R Q = WP V 89 17 ls (m_rv (R k 0) :: st) t I L R Q := wp_getR rfl (by decide) h1 h2
theorem i89_17 {k : Nat} (h1 : k < t) (h2 : m_ob k 3 = true) : WP V 89 17 ls (.ref k :: st) t I L R Q = WP V 89 18 ls (m_rv (R k 2) :: st) t I L R Q := wp_getR rfl (by decide) h1 h2
theorem i89_18 {k : Nat} (h1 : k < t) (h2 : m_ob k 5 = true) : WP V 89 18 ls (.ref k :: st) t I L R Q = WP V 89 19 ls (m_rv (R k 1) :: st) t I L R Q := wp_getR rfl (by decide) h1 h2
theorem i89_19 {w0 w2 w3 w4 : Value} {x : Int32} : WP V 89 19 [w0, .int x, w2, w3, w4] st t I L R Q = WP V 89 20 [w0, .int x, w2, w3, w4] (.int x :: st) t I L R Q := wp_go rfl
theorem i89_20 {k j : Nat} (h2 : m_ar k 2 6 = true) (h1 : k < t) (h3 : j < 6) : WP V 89 20 ls (.int (nI j) :: .ref k :: st) t I L R Q = WP V 89 21 ls (.int (I k j) :: st) t I L R Q := wp_iaload rfl (by decide) h1 h2 h3
theorem i89_21 {x0 : Int32} {x1 : Int32}  : WP V 89 21 ls [.int x0, .int x1] t I L R Q = WPC V 109 [.int x1, .int x0] 89 22 ls [] t I L R Q := wp_cls (wp_ics rfl (by decide)) (by decide) (Nat.le_of_ble_eq_true rfl) rfl rfl (Nat.le_of_ble_eq_true rfl) (Nat.le_of_ble_eq_true rfl)
theorem i89_22 {x : Int32} : WP V 89 22 ls (.int x :: st) t I L R Q = if x = nI 0 then WP V 89 23 ls st t I L R Q else WP V 89 25 ls st t I L R Q := wp_brn (c := m_cc .ne x 0) rfl rfl
theorem i89_23  : WP V 89 23 ls st t I L R Q = WP V 89 24 ls (.int (-102) :: st) t I L R Q := wp_go rfl
theorem i89_24 {x : Int32} : WP V 89 24 ls [.int x] t I L R Q = Q (some (.int x)) t I L R := wp_rti rfl rfl
theorem i89_25 {w1 w2 w3 w4 : Value} {x : Nat} : WP V 89 25 [.ref x, w1, w2, w3, w4] st t I L R Q = WP V 89 26 [.ref x, w1, w2, w3, w4] (.ref x :: st) t I L R Q := wp_go rfl
theorem i89_26 {k : Nat} (h1 : k < t) (h2 : m_ob k 7 = true) : WP V 89 26 ls (.ref k :: st) t I L R Q = WP V 89 27 ls (m_rv (R k 0) :: st) t I L R Q := wp_getR rfl (by decide) h1 h2
theorem i89_27 {k : Nat} (h1 : k < t) (h2 : m_ob k 3 = true) : WP V 89 27 ls (.ref k :: st) t I L R Q = WP V 89 28 ls (m_rv (R k 2) :: st) t I L R Q := wp_getR rfl (by decide) h1 h2
theorem i89_28 {w0 w2 w3 w4 : Value} {x : Int32} : WP V 89 28 [w0, .int x, w2, w3, w4] st t I L R Q = WP V 89 29 [w0, .int x, w2, w3, w4] (.int x :: st) t I L R Q := wp_go rfl
theorem i89_29 {w0 w1 w3 w4 : Value} {x : Int32} : WP V 89 29 [w0, w1, .int x, w3, w4] st t I L R Q = WP V 89 30 [w0, w1, .int x, w3, w4] (.int x :: st) t I L R Q := wp_go rfl
theorem i89_30 {w0 w1 w2 w4 : Value} {x : Int64} : WP V 89 30 [w0, w1, w2, .long x, w4] st t I L R Q = WP V 89 31 [w0, w1, w2, .long x, w4] (.long x :: st) t I L R Q := wp_go rfl
theorem i89_31 {x0 : Int64} {x1 : Int32} {x2 : Int32} {x3 : Nat}  (h1 : x3 < t) (h2 : m_ob x3 5 = true) : WP V 89 31 ls [.long x0, .int x1, .int x2, .ref x3] t I L R Q = WPC V 66 [.ref x3, .int x2, .int x1, .long x0] 89 32 ls [] t I L R Q := wp_cls (wp_icv rfl rfl h1 h2) (by decide) (Nat.le_of_ble_eq_true rfl) rfl rfl (Nat.le_of_ble_eq_true rfl) (Nat.le_of_ble_eq_true rfl)
theorem i89_32  : WP V 89 32 ls st t I L R Q = WP V 89 33 ls (.int (nI 0) :: st) t I L R Q := wp_go rfl
theorem i89_33 {x : Int32} : WP V 89 33 ls [.int x] t I L R Q = Q (some (.int x)) t I L R := wp_rti rfl rfl
-- TransactionCells.tear(I)I
theorem i90_0 {w0 : Value} {x : Int32} : WP V 90 0 [w0, .int x] st t I L R Q = WP V 90 1 [w0, .int x] (.int x :: st) t I L R Q := wp_go rfl
theorem i90_1  : WP V 90 1 ls st t I L R Q = WP V 90 2 ls (.int (nI 6) :: st) t I L R Q := wp_go rfl
theorem i90_2 {x0 : Int32} {x1 : Int32}  : WP V 90 2 ls [.int x0, .int x1] t I L R Q = WPC V 109 [.int x1, .int x0] 90 3 ls [] t I L R Q := wp_cls (wp_ics rfl (by decide)) (by decide) (Nat.le_of_ble_eq_true rfl) rfl rfl (Nat.le_of_ble_eq_true rfl) (Nat.le_of_ble_eq_true rfl)
theorem i90_3 {x : Int32} : WP V 90 3 ls (.int x :: st) t I L R Q = if x = nI 0 then WP V 90 4 ls st t I L R Q else WP V 90 6 ls st t I L R Q := wp_brn (c := m_cc .ne x 0) rfl rfl
theorem i90_4  : WP V 90 4 ls st t I L R Q = WP V 90 5 ls (.int (-101) :: st) t I L R Q := wp_go rfl
theorem i90_5 {x : Int32} : WP V 90 5 ls [.int x] t I L R Q = Q (some (.int x)) t I L R := wp_rti rfl rfl
theorem i90_6 {w1 : Value} {x : Nat} : WP V 90 6 [.ref x, w1] st t I L R Q = WP V 90 7 [.ref x, w1] (.ref x :: st) t I L R Q := wp_go rfl
theorem i90_7 {k : Nat} (h1 : k < t) (h2 : m_ob k 7 = true) : WP V 90 7 ls (.ref k :: st) t I L R Q = WP V 90 8 ls (m_rv (R k 0) :: st) t I L R Q := wp_getR rfl (by decide) h1 h2
theorem i90_8 {k : Nat} (h1 : k < t) (h2 : m_ob k 3 = true) : WP V 90 8 ls (.ref k :: st) t I L R Q = WP V 90 9 ls (m_rv (R k 2) :: st) t I L R Q := wp_getR rfl (by decide) h1 h2
theorem i90_9 {w0 : Value} {x : Int32} : WP V 90 9 [w0, .int x] st t I L R Q = WP V 90 10 [w0, .int x] (.int x :: st) t I L R Q := wp_go rfl
theorem i90_10 {x0 : Int32} {x1 : Nat}  (h1 : x1 < t) (h2 : m_ob x1 5 = true) : WP V 90 10 ls [.int x0, .ref x1] t I L R Q = WPC V 64 [.ref x1, .int x0] 90 11 ls [] t I L R Q := wp_cls (wp_icv rfl rfl h1 h2) (by decide) (Nat.le_of_ble_eq_true rfl) rfl rfl (Nat.le_of_ble_eq_true rfl) (Nat.le_of_ble_eq_true rfl)
theorem i90_11 {x : Int32} : WP V 90 11 ls (.int x :: st) t I L R Q = if x = nI 0 then WP V 90 14 ls st t I L R Q else WP V 90 12 ls st t I L R Q := wp_br (c := m_cc .eq x 0) rfl rfl
theorem i90_12  : WP V 90 12 ls st t I L R Q = WP V 90 13 ls (.int (nI 0) :: st) t I L R Q := wp_go rfl
theorem i90_13 {x : Int32} : WP V 90 13 ls [.int x] t I L R Q = Q (some (.int x)) t I L R := wp_rti rfl rfl
theorem i90_14 {w1 : Value} {x : Nat} : WP V 90 14 [.ref x, w1] st t I L R Q = WP V 90 15 [.ref x, w1] (.ref x :: st) t I L R Q := wp_go rfl
theorem i90_15 {k : Nat} (h1 : k < t) (h2 : m_ob k 7 = true) : WP V 90 15 ls (.ref k :: st) t I L R Q = WP V 90 16 ls (m_rv (R k 0) :: st) t I L R Q := wp_getR rfl (by decide) h1 h2
theorem i90_16 {k : Nat} (h1 : k < t) (h2 : m_ob k 3 = true) : WP V 90 16 ls (.ref k :: st) t I L R Q = WP V 90 17 ls (m_rv (R k 2) :: st) t I L R Q := wp_getR rfl (by decide) h1 h2
theorem i90_17 {k : Nat} (h1 : k < t) (h2 : m_ob k 5 = true) : WP V 90 17 ls (.ref k :: st) t I L R Q = WP V 90 18 ls (m_rv (R k 0) :: st) t I L R Q := wp_getR rfl (by decide) h1 h2
theorem i90_18 {w0 : Value} {x : Int32} : WP V 90 18 [w0, .int x] st t I L R Q = WP V 90 19 [w0, .int x] (.int x :: st) t I L R Q := wp_go rfl
theorem i90_19  : WP V 90 19 ls st t I L R Q = WP V 90 20 ls (.int (-1) :: st) t I L R Q := wp_go rfl
theorem i90_20 {k j : Nat} {x : Int32} (h2 : m_ar k 2 6 = true) (h1 : k < t) (h3 : j < 6) : WP V 90 20 ls (.int x :: .int (nI j) :: .ref k :: st) t I L R Q = WP V 90 21 ls st t (m_sc I k (m_sc (I k) j x)) L R Q := wp_iastore rfl (by decide) h1 h2 h3
theorem i90_21  : WP V 90 21 ls st t I L R Q = WP V 90 22 ls (.int (nI 1) :: st) t I L R Q := wp_go rfl
theorem i90_22 {x : Int32} : WP V 90 22 ls [.int x] t I L R Q = Q (some (.int x)) t I L R := wp_rti rfl rfl
-- TransactionCells.cell(III)I
theorem i91_0 {w0 w2 w3 : Value} {x : Int32} : WP V 91 0 [w0, .int x, w2, w3] st t I L R Q = WP V 91 1 [w0, .int x, w2, w3] (.int x :: st) t I L R Q := wp_go rfl
theorem i91_1  : WP V 91 1 ls st t I L R Q = WP V 91 2 ls (.int (nI 8) :: st) t I L R Q := wp_go rfl
theorem i91_2 {x0 : Int32} {x1 : Int32}  : WP V 91 2 ls [.int x0, .int x1] t I L R Q = WPC V 109 [.int x1, .int x0] 91 3 ls [] t I L R Q := wp_cls (wp_ics rfl (by decide)) (by decide) (Nat.le_of_ble_eq_true rfl) rfl rfl (Nat.le_of_ble_eq_true rfl) (Nat.le_of_ble_eq_true rfl)
theorem i91_3 {x : Int32} : WP V 91 3 ls (.int x :: st) t I L R Q = if x = nI 0 then WP V 91 11 ls st t I L R Q else WP V 91 4 ls st t I L R Q := wp_br (c := m_cc .eq x 0) rfl rfl
theorem i91_4 {w0 w1 w3 : Value} {x : Int32} : WP V 91 4 [w0, w1, .int x, w3] st t I L R Q = WP V 91 5 [w0, w1, .int x, w3] (.int x :: st) t I L R Q := wp_go rfl
theorem i91_5  : WP V 91 5 ls st t I L R Q = WP V 91 6 ls (.int (nI 2) :: st) t I L R Q := wp_go rfl
theorem i91_6 {x y : Int32} : WP V 91 6 ls (.int y :: .int x :: st) t I L R Q = if x = y then WP V 91 7 ls st t I L R Q else WP V 91 13 ls st t I L R Q := wp_brn (c := m_cc .ne x y) rfl rfl
theorem i91_7 {w0 w1 w2 : Value} {x : Int32} : WP V 91 7 [w0, w1, w2, .int x] st t I L R Q = WP V 91 8 [w0, w1, w2, .int x] (.int x :: st) t I L R Q := wp_go rfl
theorem i91_8  : WP V 91 8 ls st t I L R Q = WP V 91 9 ls (.int (nI 6) :: st) t I L R Q := wp_go rfl
theorem i91_9 {x0 : Int32} {x1 : Int32}  : WP V 91 9 ls [.int x0, .int x1] t I L R Q = WPC V 109 [.int x1, .int x0] 91 10 ls [] t I L R Q := wp_cls (wp_ics rfl (by decide)) (by decide) (Nat.le_of_ble_eq_true rfl) rfl rfl (Nat.le_of_ble_eq_true rfl) (Nat.le_of_ble_eq_true rfl)
theorem i91_10 {x : Int32} : WP V 91 10 ls (.int x :: st) t I L R Q = if x = nI 0 then WP V 91 11 ls st t I L R Q else WP V 91 13 ls st t I L R Q := wp_brn (c := m_cc .ne x 0) rfl rfl
theorem i91_11  : WP V 91 11 ls st t I L R Q = WP V 91 12 ls (.int (-101) :: st) t I L R Q := wp_go rfl
theorem i91_12 {x : Int32} : WP V 91 12 ls [.int x] t I L R Q = Q (some (.int x)) t I L R := wp_rti rfl rfl
theorem i91_13 {w0 w1 w3 : Value} {x : Int32} : WP V 91 13 [w0, w1, .int x, w3] st t I L R Q = WP V 91 14 [w0, w1, .int x, w3] (.int x :: st) t I L R Q := wp_go rfl
theorem i91_14 {x0 : Int32}  : WP V 91 14 ls [.int x0] t I L R Q = WPC V 44 [.int x0] 91 15 ls [] t I L R Q := wp_cls (wp_ics rfl (by decide)) (by decide) (Nat.le_of_ble_eq_true rfl) rfl rfl (Nat.le_of_ble_eq_true rfl) (Nat.le_of_ble_eq_true rfl)
theorem i91_15 {x : Int32} : WP V 91 15 ls (.int x :: st) t I L R Q = if x = nI 0 then WP V 91 16 ls st t I L R Q else WP V 91 18 ls st t I L R Q := wp_brn (c := m_cc .ne x 0) rfl rfl
theorem i91_16  : WP V 91 16 ls st t I L R Q = WP V 91 17 ls (.int (-102) :: st) t I L R Q := wp_go rfl
theorem i91_17 {x : Int32} : WP V 91 17 ls [.int x] t I L R Q = Q (some (.int x)) t I L R := wp_rti rfl rfl
theorem i91_18 {w1 w2 w3 : Value} {x : Nat} : WP V 91 18 [.ref x, w1, w2, w3] st t I L R Q = WP V 91 19 [.ref x, w1, w2, w3] (.ref x :: st) t I L R Q := wp_go rfl
theorem i91_19 {k : Nat} (h1 : k < t) (h2 : m_ob k 7 = true) : WP V 91 19 ls (.ref k :: st) t I L R Q = WP V 91 20 ls (m_rv (R k 0) :: st) t I L R Q := wp_getR rfl (by decide) h1 h2
theorem i91_20 {x0 : Nat}  (h1 : x0 < t) (h2 : m_ob x0 3 = true) : WP V 91 20 ls [.ref x0] t I L R Q = WPC V 49 [.ref x0] 91 21 ls [] t I L R Q := wp_cls (wp_icv rfl rfl h1 h2) (by decide) (Nat.le_of_ble_eq_true rfl) rfl rfl (Nat.le_of_ble_eq_true rfl) (Nat.le_of_ble_eq_true rfl)
theorem i91_21 {x : Int32} : WP V 91 21 ls (.int x :: st) t I L R Q = if x = nI 0 then WP V 91 24 ls st t I L R Q else WP V 91 22 ls st t I L R Q := wp_br (c := m_cc .eq x 0) rfl rfl
theorem i91_22  : WP V 91 22 ls st t I L R Q = WP V 91 23 ls (.int (-103) :: st) t I L R Q := wp_go rfl
theorem i91_23 {x : Int32} : WP V 91 23 ls [.int x] t I L R Q = Q (some (.int x)) t I L R := wp_rti rfl rfl
theorem i91_24 {w1 w2 w3 : Value} {x : Nat} : WP V 91 24 [.ref x, w1, w2, w3] st t I L R Q = WP V 91 25 [.ref x, w1, w2, w3] (.ref x :: st) t I L R Q := wp_go rfl
theorem i91_25 {k : Nat} (h1 : k < t) (h2 : m_ob k 7 = true) : WP V 91 25 ls (.ref k :: st) t I L R Q = WP V 91 26 ls (m_rv (R k 0) :: st) t I L R Q := wp_getR rfl (by decide) h1 h2
theorem i91_26 {k : Nat} (h1 : k < t) (h2 : m_ob k 3 = true) : WP V 91 26 ls (.ref k :: st) t I L R Q = WP V 91 27 ls (m_rv (R k 0) :: st) t I L R Q := wp_getR rfl (by decide) h1 h2
theorem i91_27  : WP V 91 27 ls st t I L R Q = WP V 91 28 ls (.int (nI 49) :: st) t I L R Q := wp_go rfl
theorem i91_28 {w0 w2 w3 : Value} {x : Int32} : WP V 91 28 [w0, .int x, w2, w3] st t I L R Q = WP V 91 29 [w0, .int x, w2, w3] (.int x :: st) t I L R Q := wp_go rfl
theorem i91_29 {x y : Int32} : WP V 91 29 ls (.int y :: .int x :: st) t I L R Q = WP V 91 30 ls (.int (x + y) :: st) t I L R Q := wp_go rfl
theorem i91_30 {w0 w1 w3 : Value} {x : Int32} : WP V 91 30 [w0, w1, .int x, w3] st t I L R Q = WP V 91 31 [w0, w1, .int x, w3] (.int x :: st) t I L R Q := wp_go rfl
theorem i91_31 {k j : Nat} {x : Int32} (h2 : m_ar k 2 581 = true) (h1 : k < t) (h3 : j < 581) : WP V 91 31 ls (.int x :: .int (nI j) :: .ref k :: st) t I L R Q = WP V 91 32 ls st t (m_sc I k (m_sc (I k) j x)) L R Q := wp_iastore rfl (by decide) h1 h2 h3
theorem i91_32 {w1 w2 w3 : Value} {x : Nat} : WP V 91 32 [.ref x, w1, w2, w3] st t I L R Q = WP V 91 33 [.ref x, w1, w2, w3] (.ref x :: st) t I L R Q := wp_go rfl
theorem i91_33 {k : Nat} (h1 : k < t) (h2 : m_ob k 7 = true) : WP V 91 33 ls (.ref k :: st) t I L R Q = WP V 91 34 ls (m_rv (R k 0) :: st) t I L R Q := wp_getR rfl (by decide) h1 h2
theorem i91_34 {k : Nat} (h1 : k < t) (h2 : m_ob k 3 = true) : WP V 91 34 ls (.ref k :: st) t I L R Q = WP V 91 35 ls (m_rv (R k 0) :: st) t I L R Q := wp_getR rfl (by decide) h1 h2
theorem i91_35  : WP V 91 35 ls st t I L R Q = WP V 91 36 ls (.int (nI 57) :: st) t I L R Q := wp_go rfl
theorem i91_36 {w0 w2 w3 : Value} {x : Int32} : WP V 91 36 [w0, .int x, w2, w3] st t I L R Q = WP V 91 37 [w0, .int x, w2, w3] (.int x :: st) t I L R Q := wp_go rfl
theorem i91_37 {x y : Int32} : WP V 91 37 ls (.int y :: .int x :: st) t I L R Q = WP V 91 38 ls (.int (x + y) :: st) t I L R Q := wp_go rfl
theorem i91_38 {w0 w1 w3 : Value} {x : Int32} : WP V 91 38 [w0, w1, .int x, w3] st t I L R Q = WP V 91 39 [w0, w1, .int x, w3] (.int x :: st) t I L R Q := wp_go rfl
theorem i91_39 {x : Int32} : WP V 91 39 ls (.int x :: st) t I L R Q = if x = nI 0 then WP V 91 40 ls st t I L R Q else WP V 91 42 ls st t I L R Q := wp_brn (c := m_cc .ne x 0) rfl rfl
theorem i91_40  : WP V 91 40 ls st t I L R Q = WP V 91 41 ls (.int (nI 0) :: st) t I L R Q := wp_go rfl
theorem i91_41  : WP V 91 41 ls st t I L R Q = WP V 91 43 ls st t I L R Q := wp_go rfl
theorem i91_42 {w0 w1 w2 : Value} {x : Int32} : WP V 91 42 [w0, w1, w2, .int x] st t I L R Q = WP V 91 43 [w0, w1, w2, .int x] (.int x :: st) t I L R Q := wp_go rfl
theorem i91_43 {k j : Nat} {x : Int32} (h2 : m_ar k 2 581 = true) (h1 : k < t) (h3 : j < 581) : WP V 91 43 ls (.int x :: .int (nI j) :: .ref k :: st) t I L R Q = WP V 91 44 ls st t (m_sc I k (m_sc (I k) j x)) L R Q := wp_iastore rfl (by decide) h1 h2 h3
theorem i91_44 {w1 w2 w3 : Value} {x : Nat} : WP V 91 44 [.ref x, w1, w2, w3] st t I L R Q = WP V 91 45 [.ref x, w1, w2, w3] (.ref x :: st) t I L R Q := wp_go rfl
theorem i91_45 {k : Nat} (h1 : k < t) (h2 : m_ob k 7 = true) : WP V 91 45 ls (.ref k :: st) t I L R Q = WP V 91 46 ls (m_rv (R k 0) :: st) t I L R Q := wp_getR rfl (by decide) h1 h2
theorem i91_46 {x0 : Nat}  (h1 : x0 < t) (h2 : m_ob x0 3 = true) : WP V 91 46 ls [.ref x0] t I L R Q = WPC V 47 [.ref x0] 91 47 ls [] t I L R Q := wp_cls (wp_icv rfl rfl h1 h2) (by decide) (Nat.le_of_ble_eq_true rfl) rfl rfl (Nat.le_of_ble_eq_true rfl) (Nat.le_of_ble_eq_true rfl)
theorem i91_47  : WP V 91 47 ls st t I L R Q = WP V 91 48 ls (.int (nI 0) :: st) t I L R Q := wp_go rfl
theorem i91_48 {x : Int32} : WP V 91 48 ls [.int x] t I L R Q = Q (some (.int x)) t I L R := wp_rti rfl rfl
-- TransactionCells.way(I)I
theorem i92_0 {w0 w2 : Value} {x : Int32} : WP V 92 0 [w0, .int x, w2] st t I L R Q = WP V 92 1 [w0, .int x, w2] (.int x :: st) t I L R Q := wp_go rfl
theorem i92_1  : WP V 92 1 ls st t I L R Q = WP V 92 2 ls (.int (nI 4) :: st) t I L R Q := wp_go rfl
theorem i92_2 {x0 : Int32} {x1 : Int32}  : WP V 92 2 ls [.int x0, .int x1] t I L R Q = WPC V 109 [.int x1, .int x0] 92 3 ls [] t I L R Q := wp_cls (wp_ics rfl (by decide)) (by decide) (Nat.le_of_ble_eq_true rfl) rfl rfl (Nat.le_of_ble_eq_true rfl) (Nat.le_of_ble_eq_true rfl)
theorem i92_3 {x : Int32} : WP V 92 3 ls (.int x :: st) t I L R Q = if x = nI 0 then WP V 92 4 ls st t I L R Q else WP V 92 6 ls st t I L R Q := wp_brn (c := m_cc .ne x 0) rfl rfl
theorem i92_4  : WP V 92 4 ls st t I L R Q = WP V 92 5 ls (.int (-102) :: st) t I L R Q := wp_go rfl
theorem i92_5 {x : Int32} : WP V 92 5 ls [.int x] t I L R Q = Q (some (.int x)) t I L R := wp_rti rfl rfl
theorem i92_6 {w1 w2 : Value} {x : Nat} : WP V 92 6 [.ref x, w1, w2] st t I L R Q = WP V 92 7 [.ref x, w1, w2] (.ref x :: st) t I L R Q := wp_go rfl
theorem i92_7 {k : Nat} (h1 : k < t) (h2 : m_ob k 7 = true) : WP V 92 7 ls (.ref k :: st) t I L R Q = WP V 92 8 ls (m_rv (R k 0) :: st) t I L R Q := wp_getR rfl (by decide) h1 h2
theorem i92_8 {x0 : Nat}  (h1 : x0 < t) (h2 : m_ob x0 3 = true) : WP V 92 8 ls [.ref x0] t I L R Q = WPC V 49 [.ref x0] 92 9 ls [] t I L R Q := wp_cls (wp_icv rfl rfl h1 h2) (by decide) (Nat.le_of_ble_eq_true rfl) rfl rfl (Nat.le_of_ble_eq_true rfl) (Nat.le_of_ble_eq_true rfl)
theorem i92_9 {x : Int32} : WP V 92 9 ls (.int x :: st) t I L R Q = if x = nI 0 then WP V 92 12 ls st t I L R Q else WP V 92 10 ls st t I L R Q := wp_br (c := m_cc .eq x 0) rfl rfl
theorem i92_10  : WP V 92 10 ls st t I L R Q = WP V 92 11 ls (.int (-103) :: st) t I L R Q := wp_go rfl
theorem i92_11 {x : Int32} : WP V 92 11 ls [.int x] t I L R Q = Q (some (.int x)) t I L R := wp_rti rfl rfl
theorem i92_12 {w1 w2 : Value} {x : Nat} : WP V 92 12 [.ref x, w1, w2] st t I L R Q = WP V 92 13 [.ref x, w1, w2] (.ref x :: st) t I L R Q := wp_go rfl
theorem i92_13 {k : Nat} (h1 : k < t) (h2 : m_ob k 7 = true) : WP V 92 13 ls (.ref k :: st) t I L R Q = WP V 92 14 ls (m_rv (R k 0) :: st) t I L R Q := wp_getR rfl (by decide) h1 h2
theorem i92_14 {k : Nat} (h1 : k < t) (h2 : m_ob k 3 = true) : WP V 92 14 ls (.ref k :: st) t I L R Q = WP V 92 15 ls (m_rv (R k 0) :: st) t I L R Q := wp_getR rfl (by decide) h1 h2
theorem i92_15  : WP V 92 15 ls st t I L R Q = WP V 92 16 ls (.int (nI 564) :: st) t I L R Q := wp_go rfl
theorem i92_16 {k j : Nat} (h2 : m_ar k 2 581 = true) (h1 : k < t) (h3 : j < 581) : WP V 92 16 ls (.int (nI j) :: .ref k :: st) t I L R Q = WP V 92 17 ls (.int (I k j) :: st) t I L R Q := wp_iaload rfl (by decide) h1 h2 h3
theorem i92_17 {p : Int32} {w0 w2 : Value} {x : Int32} : WP V 92 17 [w0, .int p, w2] (.int x :: st) t I L R Q = WP V 92 18 [w0, .int p, .int x] st t I L R Q := wp_go rfl
theorem i92_18 {w1 w2 : Value} {x : Nat} : WP V 92 18 [.ref x, w1, w2] st t I L R Q = WP V 92 19 [.ref x, w1, w2] (.ref x :: st) t I L R Q := wp_go rfl
theorem i92_19 {k : Nat} (h1 : k < t) (h2 : m_ob k 7 = true) : WP V 92 19 ls (.ref k :: st) t I L R Q = WP V 92 20 ls (m_rv (R k 0) :: st) t I L R Q := wp_getR rfl (by decide) h1 h2
theorem i92_20 {k : Nat} (h1 : k < t) (h2 : m_ob k 3 = true) : WP V 92 20 ls (.ref k :: st) t I L R Q = WP V 92 21 ls (m_rv (R k 0) :: st) t I L R Q := wp_getR rfl (by decide) h1 h2
theorem i92_21  : WP V 92 21 ls st t I L R Q = WP V 92 22 ls (.int (nI 564) :: st) t I L R Q := wp_go rfl
theorem i92_22 {w0 w2 : Value} {x : Int32} : WP V 92 22 [w0, .int x, w2] st t I L R Q = WP V 92 23 [w0, .int x, w2] (.int x :: st) t I L R Q := wp_go rfl
theorem i92_23 {k j : Nat} {x : Int32} (h2 : m_ar k 2 581 = true) (h1 : k < t) (h3 : j < 581) : WP V 92 23 ls (.int x :: .int (nI j) :: .ref k :: st) t I L R Q = WP V 92 24 ls st t (m_sc I k (m_sc (I k) j x)) L R Q := wp_iastore rfl (by decide) h1 h2 h3
theorem i92_24 {w0 w1 : Value} {x : Int32} : WP V 92 24 [w0, w1, .int x] st t I L R Q = WP V 92 25 [w0, w1, .int x] (.int x :: st) t I L R Q := wp_go rfl
theorem i92_25 {x : Int32} : WP V 92 25 ls [.int x] t I L R Q = Q (some (.int x)) t I L R := wp_rti rfl rfl
-- TransactionCells.code(II)I
theorem i93_0 {w0 w2 : Value} {x : Int32} : WP V 93 0 [w0, .int x, w2] st t I L R Q = WP V 93 1 [w0, .int x, w2] (.int x :: st) t I L R Q := wp_go rfl
theorem i93_1  : WP V 93 1 ls st t I L R Q = WP V 93 2 ls (.int (nI 3) :: st) t I L R Q := wp_go rfl
theorem i93_2 {x0 : Int32} {x1 : Int32}  : WP V 93 2 ls [.int x0, .int x1] t I L R Q = WPC V 109 [.int x1, .int x0] 93 3 ls [] t I L R Q := wp_cls (wp_ics rfl (by decide)) (by decide) (Nat.le_of_ble_eq_true rfl) rfl rfl (Nat.le_of_ble_eq_true rfl) (Nat.le_of_ble_eq_true rfl)
theorem i93_3 {x : Int32} : WP V 93 3 ls (.int x :: st) t I L R Q = if x = nI 0 then WP V 93 8 ls st t I L R Q else WP V 93 4 ls st t I L R Q := wp_br (c := m_cc .eq x 0) rfl rfl
theorem i93_4 {w0 w1 : Value} {x : Int32} : WP V 93 4 [w0, w1, .int x] st t I L R Q = WP V 93 5 [w0, w1, .int x] (.int x :: st) t I L R Q := wp_go rfl
theorem i93_5  : WP V 93 5 ls st t I L R Q = WP V 93 6 ls (.int (nI 6) :: st) t I L R Q := wp_go rfl
theorem i93_6 {x0 : Int32} {x1 : Int32}  : WP V 93 6 ls [.int x0, .int x1] t I L R Q = WPC V 109 [.int x1, .int x0] 93 7 ls [] t I L R Q := wp_cls (wp_ics rfl (by decide)) (by decide) (Nat.le_of_ble_eq_true rfl) rfl rfl (Nat.le_of_ble_eq_true rfl) (Nat.le_of_ble_eq_true rfl)
theorem i93_7 {x : Int32} : WP V 93 7 ls (.int x :: st) t I L R Q = if x = nI 0 then WP V 93 8 ls st t I L R Q else WP V 93 10 ls st t I L R Q := wp_brn (c := m_cc .ne x 0) rfl rfl
theorem i93_8  : WP V 93 8 ls st t I L R Q = WP V 93 9 ls (.int (-101) :: st) t I L R Q := wp_go rfl
theorem i93_9 {x : Int32} : WP V 93 9 ls [.int x] t I L R Q = Q (some (.int x)) t I L R := wp_rti rfl rfl
theorem i93_10 {w1 w2 : Value} {x : Nat} : WP V 93 10 [.ref x, w1, w2] st t I L R Q = WP V 93 11 [.ref x, w1, w2] (.ref x :: st) t I L R Q := wp_go rfl
theorem i93_11 {k : Nat} (h1 : k < t) (h2 : m_ob k 7 = true) : WP V 93 11 ls (.ref k :: st) t I L R Q = WP V 93 12 ls (m_rv (R k 0) :: st) t I L R Q := wp_getR rfl (by decide) h1 h2
theorem i93_12 {k : Nat} (h1 : k < t) (h2 : m_ob k 3 = true) : WP V 93 12 ls (.ref k :: st) t I L R Q = WP V 93 13 ls (m_rv (R k 0) :: st) t I L R Q := wp_getR rfl (by decide) h1 h2
theorem i93_13  : WP V 93 13 ls st t I L R Q = WP V 93 14 ls (.int (nI 3) :: st) t I L R Q := wp_go rfl
theorem i93_14 {w0 w2 : Value} {x : Int32} : WP V 93 14 [w0, .int x, w2] st t I L R Q = WP V 93 15 [w0, .int x, w2] (.int x :: st) t I L R Q := wp_go rfl
theorem i93_15 {x y : Int32} : WP V 93 15 ls (.int y :: .int x :: st) t I L R Q = WP V 93 16 ls (.int (x + y) :: st) t I L R Q := wp_go rfl
theorem i93_16 {k j : Nat} (h2 : m_ar k 2 581 = true) (h1 : k < t) (h3 : j < 581) : WP V 93 16 ls (.int (nI j) :: .ref k :: st) t I L R Q = WP V 93 17 ls (.int (I k j) :: st) t I L R Q := wp_iaload rfl (by decide) h1 h2 h3
theorem i93_17 {x : Int32} : WP V 93 17 ls (.int x :: st) t I L R Q = if x = nI 0 then WP V 93 20 ls st t I L R Q else WP V 93 18 ls st t I L R Q := wp_br (c := m_cc .eq x 0) rfl rfl
theorem i93_18  : WP V 93 18 ls st t I L R Q = WP V 93 19 ls (.int (-103) :: st) t I L R Q := wp_go rfl
theorem i93_19 {x : Int32} : WP V 93 19 ls [.int x] t I L R Q = Q (some (.int x)) t I L R := wp_rti rfl rfl
theorem i93_20 {w1 w2 : Value} {x : Nat} : WP V 93 20 [.ref x, w1, w2] st t I L R Q = WP V 93 21 [.ref x, w1, w2] (.ref x :: st) t I L R Q := wp_go rfl
theorem i93_21 {k : Nat} (h1 : k < t) (h2 : m_ob k 7 = true) : WP V 93 21 ls (.ref k :: st) t I L R Q = WP V 93 22 ls (m_rv (R k 0) :: st) t I L R Q := wp_getR rfl (by decide) h1 h2
theorem i93_22 {k : Nat} (h1 : k < t) (h2 : m_ob k 3 = true) : WP V 93 22 ls (.ref k :: st) t I L R Q = WP V 93 23 ls (m_rv (R k 0) :: st) t I L R Q := wp_getR rfl (by decide) h1 h2
theorem i93_23  : WP V 93 23 ls st t I L R Q = WP V 93 24 ls (.int (nI 561) :: st) t I L R Q := wp_go rfl
theorem i93_24 {w0 w2 : Value} {x : Int32} : WP V 93 24 [w0, .int x, w2] st t I L R Q = WP V 93 25 [w0, .int x, w2] (.int x :: st) t I L R Q := wp_go rfl
theorem i93_25 {x y : Int32} : WP V 93 25 ls (.int y :: .int x :: st) t I L R Q = WP V 93 26 ls (.int (x + y) :: st) t I L R Q := wp_go rfl
theorem i93_26 {w0 w1 : Value} {x : Int32} : WP V 93 26 [w0, w1, .int x] st t I L R Q = WP V 93 27 [w0, w1, .int x] (.int x :: st) t I L R Q := wp_go rfl
theorem i93_27 {k j : Nat} {x : Int32} (h2 : m_ar k 2 581 = true) (h1 : k < t) (h3 : j < 581) : WP V 93 27 ls (.int x :: .int (nI j) :: .ref k :: st) t I L R Q = WP V 93 28 ls st t (m_sc I k (m_sc (I k) j x)) L R Q := wp_iastore rfl (by decide) h1 h2 h3
theorem i93_28  : WP V 93 28 ls st t I L R Q = WP V 93 29 ls (.int (nI 0) :: st) t I L R Q := wp_go rfl
theorem i93_29 {x : Int32} : WP V 93 29 ls [.int x] t I L R Q = Q (some (.int x)) t I L R := wp_rti rfl rfl
-- TransactionCells.start(I)I
theorem i94_0 {w0 : Value} {x : Int32} : WP V 94 0 [w0, .int x] st t I L R Q = WP V 94 1 [w0, .int x] (.int x :: st) t I L R Q := wp_go rfl
theorem i94_1  : WP V 94 1 ls st t I L R Q = WP V 94 2 ls (.int (nI 3) :: st) t I L R Q := wp_go rfl
theorem i94_2 {x0 : Int32} {x1 : Int32}  : WP V 94 2 ls [.int x0, .int x1] t I L R Q = WPC V 109 [.int x1, .int x0] 94 3 ls [] t I L R Q := wp_cls (wp_ics rfl (by decide)) (by decide) (Nat.le_of_ble_eq_true rfl) rfl rfl (Nat.le_of_ble_eq_true rfl) (Nat.le_of_ble_eq_true rfl)
theorem i94_3 {x : Int32} : WP V 94 3 ls (.int x :: st) t I L R Q = if x = nI 0 then WP V 94 4 ls st t I L R Q else WP V 94 6 ls st t I L R Q := wp_brn (c := m_cc .ne x 0) rfl rfl
theorem i94_4  : WP V 94 4 ls st t I L R Q = WP V 94 5 ls (.int (-101) :: st) t I L R Q := wp_go rfl
theorem i94_5 {x : Int32} : WP V 94 5 ls [.int x] t I L R Q = Q (some (.int x)) t I L R := wp_rti rfl rfl
theorem i94_6 {w1 : Value} {x : Nat} : WP V 94 6 [.ref x, w1] st t I L R Q = WP V 94 7 [.ref x, w1] (.ref x :: st) t I L R Q := wp_go rfl
theorem i94_7 {k : Nat} (h1 : k < t) (h2 : m_ob k 7 = true) : WP V 94 7 ls (.ref k :: st) t I L R Q = WP V 94 8 ls (m_rv (R k 0) :: st) t I L R Q := wp_getR rfl (by decide) h1 h2
theorem i94_8 {k : Nat} (h1 : k < t) (h2 : m_ob k 3 = true) : WP V 94 8 ls (.ref k :: st) t I L R Q = WP V 94 9 ls (m_rv (R k 0) :: st) t I L R Q := wp_getR rfl (by decide) h1 h2
theorem i94_9  : WP V 94 9 ls st t I L R Q = WP V 94 10 ls (.int (nI 3) :: st) t I L R Q := wp_go rfl
theorem i94_10 {w0 : Value} {x : Int32} : WP V 94 10 [w0, .int x] st t I L R Q = WP V 94 11 [w0, .int x] (.int x :: st) t I L R Q := wp_go rfl
theorem i94_11 {x y : Int32} : WP V 94 11 ls (.int y :: .int x :: st) t I L R Q = WP V 94 12 ls (.int (x + y) :: st) t I L R Q := wp_go rfl
theorem i94_12 {k j : Nat} (h2 : m_ar k 2 581 = true) (h1 : k < t) (h3 : j < 581) : WP V 94 12 ls (.int (nI j) :: .ref k :: st) t I L R Q = WP V 94 13 ls (.int (I k j) :: st) t I L R Q := wp_iaload rfl (by decide) h1 h2 h3
theorem i94_13 {x : Int32} : WP V 94 13 ls (.int x :: st) t I L R Q = if x = nI 0 then WP V 94 16 ls st t I L R Q else WP V 94 14 ls st t I L R Q := wp_br (c := m_cc .eq x 0) rfl rfl
theorem i94_14  : WP V 94 14 ls st t I L R Q = WP V 94 15 ls (.int (-103) :: st) t I L R Q := wp_go rfl
theorem i94_15 {x : Int32} : WP V 94 15 ls [.int x] t I L R Q = Q (some (.int x)) t I L R := wp_rti rfl rfl
theorem i94_16 {w1 : Value} {x : Nat} : WP V 94 16 [.ref x, w1] st t I L R Q = WP V 94 17 [.ref x, w1] (.ref x :: st) t I L R Q := wp_go rfl
theorem i94_17 {k : Nat} (h1 : k < t) (h2 : m_ob k 7 = true) : WP V 94 17 ls (.ref k :: st) t I L R Q = WP V 94 18 ls (m_rv (R k 0) :: st) t I L R Q := wp_getR rfl (by decide) h1 h2
theorem i94_18 {k : Nat} (h1 : k < t) (h2 : m_ob k 3 = true) : WP V 94 18 ls (.ref k :: st) t I L R Q = WP V 94 19 ls (m_rv (R k 0) :: st) t I L R Q := wp_getR rfl (by decide) h1 h2
theorem i94_19  : WP V 94 19 ls st t I L R Q = WP V 94 20 ls (.int (nI 3) :: st) t I L R Q := wp_go rfl
theorem i94_20 {w0 : Value} {x : Int32} : WP V 94 20 [w0, .int x] st t I L R Q = WP V 94 21 [w0, .int x] (.int x :: st) t I L R Q := wp_go rfl
theorem i94_21 {x y : Int32} : WP V 94 21 ls (.int y :: .int x :: st) t I L R Q = WP V 94 22 ls (.int (x + y) :: st) t I L R Q := wp_go rfl
theorem i94_22  : WP V 94 22 ls st t I L R Q = WP V 94 23 ls (.int (nI 1) :: st) t I L R Q := wp_go rfl
theorem i94_23 {k j : Nat} {x : Int32} (h2 : m_ar k 2 581 = true) (h1 : k < t) (h3 : j < 581) : WP V 94 23 ls (.int x :: .int (nI j) :: .ref k :: st) t I L R Q = WP V 94 24 ls st t (m_sc I k (m_sc (I k) j x)) L R Q := wp_iastore rfl (by decide) h1 h2 h3
theorem i94_24  : WP V 94 24 ls st t I L R Q = WP V 94 25 ls (.int (nI 0) :: st) t I L R Q := wp_go rfl
theorem i94_25 {x : Int32} : WP V 94 25 ls [.int x] t I L R Q = Q (some (.int x)) t I L R := wp_rti rfl rfl
-- TransactionCells.reset()I
theorem i95_0 {w1 : Value} {x : Nat} : WP V 95 0 [.ref x, w1] st t I L R Q = WP V 95 1 [.ref x, w1] (.ref x :: st) t I L R Q := wp_go rfl
theorem i95_1 {k : Nat} (h1 : k < t) (h2 : m_ob k 7 = true) : WP V 95 1 ls (.ref k :: st) t I L R Q = WP V 95 2 ls (m_rv (R k 0) :: st) t I L R Q := wp_getR rfl (by decide) h1 h2
theorem i95_2 {x0 : Nat}  (h1 : x0 < t) (h2 : m_ob x0 3 = true) : WP V 95 2 ls [.ref x0] t I L R Q = WPC V 48 [.ref x0] 95 3 ls [] t I L R Q := wp_cls (wp_icv rfl rfl h1 h2) (by decide) (Nat.le_of_ble_eq_true rfl) rfl rfl (Nat.le_of_ble_eq_true rfl) (Nat.le_of_ble_eq_true rfl)
theorem i95_3 {p : Nat} {w1 : Value} {x : Int32} : WP V 95 3 [.ref p, w1] (.int x :: st) t I L R Q = WP V 95 4 [.ref p, .int x] st t I L R Q := wp_go rfl
theorem i95_4 {w1 : Value} {x : Nat} : WP V 95 4 [.ref x, w1] st t I L R Q = WP V 95 5 [.ref x, w1] (.ref x :: st) t I L R Q := wp_go rfl
theorem i95_5 {k : Nat} (h1 : k < t) (h2 : m_ob k 7 = true) : WP V 95 5 ls (.ref k :: st) t I L R Q = WP V 95 6 ls (m_rv (R k 0) :: st) t I L R Q := wp_getR rfl (by decide) h1 h2
theorem i95_6 {x0 : Nat}  (h1 : x0 < t) (h2 : m_ob x0 3 = true) : WP V 95 6 ls [.ref x0] t I L R Q = WPC V 46 [.ref x0] 95 7 ls [] t I L R Q := wp_cls (wp_icv rfl rfl h1 h2) (by decide) (Nat.le_of_ble_eq_true rfl) rfl rfl (Nat.le_of_ble_eq_true rfl) (Nat.le_of_ble_eq_true rfl)
theorem i95_7 {w0 : Value} {x : Int32} : WP V 95 7 [w0, .int x] st t I L R Q = WP V 95 8 [w0, .int x] (.int x :: st) t I L R Q := wp_go rfl
theorem i95_8 {x : Int32} : WP V 95 8 ls [.int x] t I L R Q = Q (some (.int x)) t I L R := wp_rti rfl rfl
-- TransactionCells.step(I)I
theorem i96_0 {w0 : Value} {x : Int32} : WP V 96 0 [w0, .int x] st t I L R Q = WP V 96 1 [w0, .int x] (.int x :: st) t I L R Q := wp_go rfl
theorem i96_1  : WP V 96 1 ls st t I L R Q = WP V 96 2 ls (.int (nI 3) :: st) t I L R Q := wp_go rfl
theorem i96_2 {x0 : Int32} {x1 : Int32}  : WP V 96 2 ls [.int x0, .int x1] t I L R Q = WPC V 109 [.int x1, .int x0] 96 3 ls [] t I L R Q := wp_cls (wp_ics rfl (by decide)) (by decide) (Nat.le_of_ble_eq_true rfl) rfl rfl (Nat.le_of_ble_eq_true rfl) (Nat.le_of_ble_eq_true rfl)
theorem i96_3 {x : Int32} : WP V 96 3 ls (.int x :: st) t I L R Q = if x = nI 0 then WP V 96 4 ls st t I L R Q else WP V 96 6 ls st t I L R Q := wp_brn (c := m_cc .ne x 0) rfl rfl
theorem i96_4  : WP V 96 4 ls st t I L R Q = WP V 96 5 ls (.int (-101) :: st) t I L R Q := wp_go rfl
theorem i96_5 {x : Int32} : WP V 96 5 ls [.int x] t I L R Q = Q (some (.int x)) t I L R := wp_rti rfl rfl
theorem i96_6 {w1 : Value} {x : Nat} : WP V 96 6 [.ref x, w1] st t I L R Q = WP V 96 7 [.ref x, w1] (.ref x :: st) t I L R Q := wp_go rfl
theorem i96_7 {k : Nat} (h1 : k < t) (h2 : m_ob k 7 = true) : WP V 96 7 ls (.ref k :: st) t I L R Q = WP V 96 8 ls (m_rv (R k 0) :: st) t I L R Q := wp_getR rfl (by decide) h1 h2
theorem i96_8 {w0 : Value} {x : Int32} : WP V 96 8 [w0, .int x] st t I L R Q = WP V 96 9 [w0, .int x] (.int x :: st) t I L R Q := wp_go rfl
theorem i96_9 {x0 : Int32} {x1 : Nat}  (h1 : x1 < t) (h2 : m_ob x1 3 = true) : WP V 96 9 ls [.int x0, .ref x1] t I L R Q = WPC V 50 [.ref x1, .int x0] 96 10 ls [] t I L R Q := wp_cls (wp_icv rfl rfl h1 h2) (by decide) (Nat.le_of_ble_eq_true rfl) rfl rfl (Nat.le_of_ble_eq_true rfl) (Nat.le_of_ble_eq_true rfl)
theorem i96_10 {x : Int32} : WP V 96 10 ls (.int x :: st) t I L R Q = if x = nI 0 then WP V 96 16 ls st t I L R Q else WP V 96 11 ls st t I L R Q := wp_br (c := m_cc .eq x 0) rfl rfl
theorem i96_11 {w1 : Value} {x : Nat} : WP V 96 11 [.ref x, w1] st t I L R Q = WP V 96 12 [.ref x, w1] (.ref x :: st) t I L R Q := wp_go rfl
theorem i96_12 {k : Nat} (h1 : k < t) (h2 : m_ob k 7 = true) : WP V 96 12 ls (.ref k :: st) t I L R Q = WP V 96 13 ls (m_rv (R k 2) :: st) t I L R Q := wp_getR rfl (by decide) h1 h2
theorem i96_13 {w0 : Value} {x : Int32} : WP V 96 13 [w0, .int x] st t I L R Q = WP V 96 14 [w0, .int x] (.int x :: st) t I L R Q := wp_go rfl
theorem i96_14 {x0 : Int32} {x1 : Nat}  (h1 : x1 < t) (h2 : m_ob x1 6 = true) : WP V 96 14 ls [.int x0, .ref x1] t I L R Q = WPC V 70 [.ref x1, .int x0] 96 15 ls [] t I L R Q := wp_cls (wp_icv rfl rfl h1 h2) (by decide) (Nat.le_of_ble_eq_true rfl) rfl rfl (Nat.le_of_ble_eq_true rfl) (Nat.le_of_ble_eq_true rfl)
theorem i96_15  : WP V 96 15 ls st t I L R Q = WP V 96 17 ls st t I L R Q := wp_go rfl
theorem i96_16  : WP V 96 16 ls st t I L R Q = WP V 96 17 ls (.int (-103) :: st) t I L R Q := wp_go rfl
theorem i96_17 {x : Int32} : WP V 96 17 ls [.int x] t I L R Q = Q (some (.int x)) t I L R := wp_rti rfl rfl
-- TransactionCells.run(II)I
theorem i97_0 {w0 w2 w3 w4 w5 w6 w7 : Value} {x : Int32} : WP V 97 0 [w0, .int x, w2, w3, w4, w5, w6, w7] st t I L R Q = WP V 97 1 [w0, .int x, w2, w3, w4, w5, w6, w7] (.int x :: st) t I L R Q := wp_go rfl
theorem i97_1  : WP V 97 1 ls st t I L R Q = WP V 97 2 ls (.int (nI 3) :: st) t I L R Q := wp_go rfl
theorem i97_2 {x0 : Int32} {x1 : Int32}  : WP V 97 2 ls [.int x0, .int x1] t I L R Q = WPC V 109 [.int x1, .int x0] 97 3 ls [] t I L R Q := wp_cls (wp_ics rfl (by decide)) (by decide) (Nat.le_of_ble_eq_true rfl) rfl rfl (Nat.le_of_ble_eq_true rfl) (Nat.le_of_ble_eq_true rfl)
theorem i97_3 {x : Int32} : WP V 97 3 ls (.int x :: st) t I L R Q = if x = nI 0 then WP V 97 4 ls st t I L R Q else WP V 97 6 ls st t I L R Q := wp_brn (c := m_cc .ne x 0) rfl rfl
theorem i97_4  : WP V 97 4 ls st t I L R Q = WP V 97 5 ls (.int (-101) :: st) t I L R Q := wp_go rfl
theorem i97_5 {x : Int32} : WP V 97 5 ls [.int x] t I L R Q = Q (some (.int x)) t I L R := wp_rti rfl rfl
theorem i97_6 {w0 w1 w3 w4 w5 w6 w7 : Value} {x : Int32} : WP V 97 6 [w0, w1, .int x, w3, w4, w5, w6, w7] st t I L R Q = WP V 97 7 [w0, w1, .int x, w3, w4, w5, w6, w7] (.int x :: st) t I L R Q := wp_go rfl
theorem i97_7 {x : Int32} : WP V 97 7 ls (.int x :: st) t I L R Q = if x < nI 0 then WP V 97 11 ls st t I L R Q else WP V 97 8 ls st t I L R Q := wp_br (c := m_cc .lt x 0) rfl rfl
theorem i97_8 {w0 w1 w3 w4 w5 w6 w7 : Value} {x : Int32} : WP V 97 8 [w0, w1, .int x, w3, w4, w5, w6, w7] st t I L R Q = WP V 97 9 [w0, w1, .int x, w3, w4, w5, w6, w7] (.int x :: st) t I L R Q := wp_go rfl
theorem i97_9  : WP V 97 9 ls st t I L R Q = WP V 97 10 ls (.int (nI 200) :: st) t I L R Q := wp_go rfl
theorem i97_10 {x y : Int32} : WP V 97 10 ls (.int y :: .int x :: st) t I L R Q = if x ≤ y then WP V 97 13 ls st t I L R Q else WP V 97 11 ls st t I L R Q := wp_br (c := m_cc .le x y) rfl rfl
theorem i97_11  : WP V 97 11 ls st t I L R Q = WP V 97 12 ls (.int (-102) :: st) t I L R Q := wp_go rfl
theorem i97_12 {x : Int32} : WP V 97 12 ls [.int x] t I L R Q = Q (some (.int x)) t I L R := wp_rti rfl rfl
theorem i97_13  : WP V 97 13 ls st t I L R Q = WP V 97 14 ls (.int (nI 0) :: st) t I L R Q := wp_go rfl
theorem i97_14 {p : Int32} {w0 w1 w3 w4 w5 w6 w7 : Value} {x : Int32} : WP V 97 14 [w0, w1, .int p, w3, w4, w5, w6, w7] (.int x :: st) t I L R Q = WP V 97 15 [w0, w1, .int p, .int x, w4, w5, w6, w7] st t I L R Q := wp_go rfl
theorem i97_15  : WP V 97 15 ls st t I L R Q = WP V 97 16 ls (.int (nI 0) :: st) t I L R Q := wp_go rfl
theorem i97_16 {p : Int32} {w0 w1 w2 w4 w5 w6 w7 : Value} {x : Int32} : WP V 97 16 [w0, w1, w2, .int p, w4, w5, w6, w7] (.int x :: st) t I L R Q = WP V 97 17 [w0, w1, w2, .int p, .int x, w5, w6, w7] st t I L R Q := wp_go rfl
theorem i97_17  : WP V 97 17 ls st t I L R Q = WP V 97 18 ls (.int (nI 0) :: st) t I L R Q := wp_go rfl
theorem i97_18 {p : Int32} {w0 w1 w2 w3 w5 w6 w7 : Value} {x : Int32} : WP V 97 18 [w0, w1, w2, w3, .int p, w5, w6, w7] (.int x :: st) t I L R Q = WP V 97 19 [w0, w1, w2, w3, .int p, .int x, w6, w7] st t I L R Q := wp_go rfl
theorem i97_19  : WP V 97 19 ls st t I L R Q = WP V 97 20 ls (.int (nI 0) :: st) t I L R Q := wp_go rfl
theorem i97_20 {p : Int32} {w0 w1 w2 w3 w4 w6 w7 : Value} {x : Int32} : WP V 97 20 [w0, w1, w2, w3, w4, .int p, w6, w7] (.int x :: st) t I L R Q = WP V 97 21 [w0, w1, w2, w3, w4, .int p, .int x, w7] st t I L R Q := wp_go rfl
theorem i97_21 {w0 w1 w2 w3 w4 w5 w7 : Value} {x : Int32} : WP V 97 21 [w0, w1, w2, w3, w4, w5, .int x, w7] st t I L R Q = WP V 97 22 [w0, w1, w2, w3, w4, w5, .int x, w7] (.int x :: st) t I L R Q := wp_go rfl
theorem i97_22  : WP V 97 22 ls st t I L R Q = WP V 97 23 ls (.int (nI 603) :: st) t I L R Q := wp_go rfl
theorem i97_23 {x y : Int32} : WP V 97 23 ls (.int y :: .int x :: st) t I L R Q = if y ≤ x then WP V 97 55 ls st t I L R Q else WP V 97 24 ls st t I L R Q := wp_br (c := m_cc .ge x y) rfl rfl
theorem i97_24 {w0 w1 w2 w3 w4 w6 w7 : Value} {x : Int32} : WP V 97 24 [w0, w1, w2, w3, w4, .int x, w6, w7] st t I L R Q = WP V 97 25 [w0, w1, w2, w3, w4, .int x, w6, w7] (.int x :: st) t I L R Q := wp_go rfl
theorem i97_25 {w0 w1 w3 w4 w5 w6 w7 : Value} {x : Int32} : WP V 97 25 [w0, w1, .int x, w3, w4, w5, w6, w7] st t I L R Q = WP V 97 26 [w0, w1, .int x, w3, w4, w5, w6, w7] (.int x :: st) t I L R Q := wp_go rfl
theorem i97_26 {x y : Int32} : WP V 97 26 ls (.int y :: .int x :: st) t I L R Q = if y ≤ x then WP V 97 55 ls st t I L R Q else WP V 97 27 ls st t I L R Q := wp_br (c := m_cc .ge x y) rfl rfl
theorem i97_27 {w0 w1 w2 w3 w5 w6 w7 : Value} {x : Int32} : WP V 97 27 [w0, w1, w2, w3, .int x, w5, w6, w7] st t I L R Q = WP V 97 28 [w0, w1, w2, w3, .int x, w5, w6, w7] (.int x :: st) t I L R Q := wp_go rfl
theorem i97_28  : WP V 97 28 ls st t I L R Q = WP V 97 29 ls (.int (nI 3) :: st) t I L R Q := wp_go rfl
theorem i97_29 {x y : Int32} : WP V 97 29 ls (.int y :: .int x :: st) t I L R Q = if y ≤ x then WP V 97 55 ls st t I L R Q else WP V 97 30 ls st t I L R Q := wp_br (c := m_cc .ge x y) rfl rfl
theorem i97_30 {w0 w2 w3 w4 w5 w6 w7 : Value} {x : Int32} : WP V 97 30 [w0, .int x, w2, w3, w4, w5, w6, w7] st t I L R Q = WP V 97 31 [w0, .int x, w2, w3, w4, w5, w6, w7] (.int x :: st) t I L R Q := wp_go rfl
theorem i97_31 {w0 w1 w2 w3 w4 w5 w7 : Value} {x : Int32} : WP V 97 31 [w0, w1, w2, w3, w4, w5, .int x, w7] st t I L R Q = WP V 97 32 [w0, w1, w2, w3, w4, w5, .int x, w7] (.int x :: st) t I L R Q := wp_go rfl
theorem i97_32 {x y : Int32} : WP V 97 32 ls (.int y :: .int x :: st) t I L R Q = WP V 97 33 ls (.int (x + y) :: st) t I L R Q := wp_go rfl
theorem i97_33  : WP V 97 33 ls st t I L R Q = WP V 97 34 ls (.int (nI 3) :: st) t I L R Q := wp_go rfl
theorem i97_34 {x y : Int32} (h : ¬ y = 0) : WP V 97 34 ls (.int y :: .int x :: st) t I L R Q = WP V 97 35 ls (.int (x - x / y * y) :: st) t I L R Q := wp_irem rfl h
theorem i97_35 {p : Int32} {w0 w1 w2 w3 w4 w5 w7 : Value} {x : Int32} : WP V 97 35 [w0, w1, w2, w3, w4, w5, .int p, w7] (.int x :: st) t I L R Q = WP V 97 36 [w0, w1, w2, w3, w4, w5, .int p, .int x] st t I L R Q := wp_go rfl
theorem i97_36 {p : Int32} {w0 w1 w2 w5 w6 w7 : Value} {x : Int32} : WP V 97 36 [w0, w1, w2, .int p, .int x, w5, w6, w7] st t I L R Q = WP V 97 37 [w0, w1, w2, .int p, .int (x + (nI 1)), w5, w6, w7] st t I L R Q := wp_go rfl
theorem i97_37 {w1 w2 w3 w4 w5 w6 w7 : Value} {x : Nat} : WP V 97 37 [.ref x, w1, w2, w3, w4, w5, w6, w7] st t I L R Q = WP V 97 38 [.ref x, w1, w2, w3, w4, w5, w6, w7] (.ref x :: st) t I L R Q := wp_go rfl
theorem i97_38 {k : Nat} (h1 : k < t) (h2 : m_ob k 7 = true) : WP V 97 38 ls (.ref k :: st) t I L R Q = WP V 97 39 ls (m_rv (R k 0) :: st) t I L R Q := wp_getR rfl (by decide) h1 h2
theorem i97_39 {w0 w1 w2 w3 w4 w5 w6 : Value} {x : Int32} : WP V 97 39 [w0, w1, w2, w3, w4, w5, w6, .int x] st t I L R Q = WP V 97 40 [w0, w1, w2, w3, w4, w5, w6, .int x] (.int x :: st) t I L R Q := wp_go rfl
theorem i97_40 {x0 : Int32} {x1 : Nat}  (h1 : x1 < t) (h2 : m_ob x1 3 = true) : WP V 97 40 ls [.int x0, .ref x1] t I L R Q = WPC V 50 [.ref x1, .int x0] 97 41 ls [] t I L R Q := wp_cls (wp_icv rfl rfl h1 h2) (by decide) (Nat.le_of_ble_eq_true rfl) rfl rfl (Nat.le_of_ble_eq_true rfl) (Nat.le_of_ble_eq_true rfl)
theorem i97_41 {x : Int32} : WP V 97 41 ls (.int x :: st) t I L R Q = if x = nI 0 then WP V 97 42 ls st t I L R Q else WP V 97 43 ls st t I L R Q := wp_brn (c := m_cc .ne x 0) rfl rfl
theorem i97_42  : WP V 97 42 ls st t I L R Q = WP V 97 53 ls st t I L R Q := wp_go rfl
theorem i97_43 {p : Int32} {w0 w1 w2 w3 w6 w7 : Value} {x : Int32} : WP V 97 43 [w0, w1, w2, w3, .int p, .int x, w6, w7] st t I L R Q = WP V 97 44 [w0, w1, w2, w3, .int p, .int (x + (nI 1)), w6, w7] st t I L R Q := wp_go rfl
theorem i97_44 {w1 w2 w3 w4 w5 w6 w7 : Value} {x : Nat} : WP V 97 44 [.ref x, w1, w2, w3, w4, w5, w6, w7] st t I L R Q = WP V 97 45 [.ref x, w1, w2, w3, w4, w5, w6, w7] (.ref x :: st) t I L R Q := wp_go rfl
theorem i97_45 {k : Nat} (h1 : k < t) (h2 : m_ob k 7 = true) : WP V 97 45 ls (.ref k :: st) t I L R Q = WP V 97 46 ls (m_rv (R k 2) :: st) t I L R Q := wp_getR rfl (by decide) h1 h2
theorem i97_46 {w0 w1 w2 w3 w4 w5 w6 : Value} {x : Int32} : WP V 97 46 [w0, w1, w2, w3, w4, w5, w6, .int x] st t I L R Q = WP V 97 47 [w0, w1, w2, w3, w4, w5, w6, .int x] (.int x :: st) t I L R Q := wp_go rfl
theorem i97_47 {x0 : Int32} {x1 : Nat}  (h1 : x1 < t) (h2 : m_ob x1 6 = true) : WP V 97 47 ls [.int x0, .ref x1] t I L R Q = WPC V 70 [.ref x1, .int x0] 97 48 ls [] t I L R Q := wp_cls (wp_icv rfl rfl h1 h2) (by decide) (Nat.le_of_ble_eq_true rfl) rfl rfl (Nat.le_of_ble_eq_true rfl) (Nat.le_of_ble_eq_true rfl)
theorem i97_48 {x : Int32} : WP V 97 48 ls (.int x :: st) t I L R Q = if x = nI 0 then WP V 97 49 ls st t I L R Q else WP V 97 50 ls st t I L R Q := wp_brn (c := m_cc .ne x 0) rfl rfl
theorem i97_49  : WP V 97 49 ls st t I L R Q = WP V 97 53 ls st t I L R Q := wp_go rfl
theorem i97_50 {p : Int32} {w0 w1 w4 w5 w6 w7 : Value} {x : Int32} : WP V 97 50 [w0, w1, .int p, .int x, w4, w5, w6, w7] st t I L R Q = WP V 97 51 [w0, w1, .int p, .int (x + (nI 1)), w4, w5, w6, w7] st t I L R Q := wp_go rfl
theorem i97_51  : WP V 97 51 ls st t I L R Q = WP V 97 52 ls (.int (nI 0) :: st) t I L R Q := wp_go rfl
theorem i97_52 {p : Int32} {w0 w1 w2 w4 w5 w6 w7 : Value} {x : Int32} : WP V 97 52 [w0, w1, w2, .int p, w4, w5, w6, w7] (.int x :: st) t I L R Q = WP V 97 53 [w0, w1, w2, .int p, .int x, w5, w6, w7] st t I L R Q := wp_go rfl
theorem i97_53 {p : Int32} {w0 w1 w2 w3 w4 w7 : Value} {x : Int32} : WP V 97 53 [w0, w1, w2, w3, w4, .int p, .int x, w7] st t I L R Q = WP V 97 54 [w0, w1, w2, w3, w4, .int p, .int (x + (nI 1)), w7] st t I L R Q := wp_go rfl
theorem i97_54  : WP V 97 54 ls st t I L R Q = WP V 97 21 ls st t I L R Q := wp_go rfl
theorem i97_55 {w0 w1 w2 w4 w5 w6 w7 : Value} {x : Int32} : WP V 97 55 [w0, w1, w2, .int x, w4, w5, w6, w7] st t I L R Q = WP V 97 56 [w0, w1, w2, .int x, w4, w5, w6, w7] (.int x :: st) t I L R Q := wp_go rfl
theorem i97_56 {x : Int32} : WP V 97 56 ls [.int x] t I L R Q = Q (some (.int x)) t I L R := wp_rti rfl rfl
-- TransactionCells.explore(I)I
theorem i98_0 {w0 : Value} {x : Int32} : WP V 98 0 [w0, .int x] st t I L R Q = WP V 98 1 [w0, .int x] (.int x :: st) t I L R Q := wp_go rfl
theorem i98_1  : WP V 98 1 ls st t I L R Q = WP V 98 2 ls (.int (nI 1) :: st) t I L R Q := wp_go rfl
theorem i98_2 {x y : Int32} : WP V 98 2 ls (.int y :: .int x :: st) t I L R Q = if x < y then WP V 98 6 ls st t I L R Q else WP V 98 3 ls st t I L R Q := wp_br (c := m_cc .lt x y) rfl rfl
theorem i98_3 {w0 : Value} {x : Int32} : WP V 98 3 [w0, .int x] st t I L R Q = WP V 98 4 [w0, .int x] (.int x :: st) t I L R Q := wp_go rfl
theorem i98_4  : WP V 98 4 ls st t I L R Q = WP V 98 5 ls (.int (nI 400) :: st) t I L R Q := wp_go rfl
theorem i98_5 {x y : Int32} : WP V 98 5 ls (.int y :: .int x :: st) t I L R Q = if x ≤ y then WP V 98 8 ls st t I L R Q else WP V 98 6 ls st t I L R Q := wp_br (c := m_cc .le x y) rfl rfl
theorem i98_6  : WP V 98 6 ls st t I L R Q = WP V 98 7 ls (.int (-102) :: st) t I L R Q := wp_go rfl
theorem i98_7 {x : Int32} : WP V 98 7 ls [.int x] t I L R Q = Q (some (.int x)) t I L R := wp_rti rfl rfl
theorem i98_8 {w1 : Value} {x : Nat} : WP V 98 8 [.ref x, w1] st t I L R Q = WP V 98 9 [.ref x, w1] (.ref x :: st) t I L R Q := wp_go rfl
theorem i98_9 {k : Nat} (h1 : k < t) (h2 : m_ob k 7 = true) : WP V 98 9 ls (.ref k :: st) t I L R Q = WP V 98 10 ls (.int (I k 5) :: st) t I L R Q := wp_getI rfl (by decide) h1 h2
theorem i98_10 {w0 : Value} {x : Int32} : WP V 98 10 [w0, .int x] st t I L R Q = WP V 98 11 [w0, .int x] (.int x :: st) t I L R Q := wp_go rfl
theorem i98_11 {x y : Int32} : WP V 98 11 ls (.int y :: .int x :: st) t I L R Q = if y ≤ x then WP V 98 14 ls st t I L R Q else WP V 98 12 ls st t I L R Q := wp_br (c := m_cc .ge x y) rfl rfl
theorem i98_12  : WP V 98 12 ls st t I L R Q = WP V 98 13 ls (.int (-103) :: st) t I L R Q := wp_go rfl
theorem i98_13 {x : Int32} : WP V 98 13 ls [.int x] t I L R Q = Q (some (.int x)) t I L R := wp_rti rfl rfl
theorem i98_14 {w1 : Value} {x : Nat} : WP V 98 14 [.ref x, w1] st t I L R Q = WP V 98 15 [.ref x, w1] (.ref x :: st) t I L R Q := wp_go rfl
theorem i98_15 {v0 : Nat} : WP V 98 15 ls (.ref v0 :: st) t I L R Q = WP V 98 16 ls (.ref v0 :: .ref v0 :: st) t I L R Q := wp_go rfl
theorem i98_16 {k : Nat} (h1 : k < t) (h2 : m_ob k 7 = true) : WP V 98 16 ls (.ref k :: st) t I L R Q = WP V 98 17 ls (.int (I k 5) :: st) t I L R Q := wp_getI rfl (by decide) h1 h2
theorem i98_17 {w0 : Value} {x : Int32} : WP V 98 17 [w0, .int x] st t I L R Q = WP V 98 18 [w0, .int x] (.int x :: st) t I L R Q := wp_go rfl
theorem i98_18 {x y : Int32} : WP V 98 18 ls (.int y :: .int x :: st) t I L R Q = WP V 98 19 ls (.int (x - y) :: st) t I L R Q := wp_go rfl
theorem i98_19 {k : Nat} {x : Int32} (h1 : k < t) (h2 : m_ob k 7 = true) : WP V 98 19 ls (.int x :: .ref k :: st) t I L R Q = WP V 98 20 ls st t (m_sc I k (m_sc (I k) 5 x)) L R Q := wp_putI rfl (by decide) h1 h2
theorem i98_20 {w1 : Value} {x : Nat} : WP V 98 20 [.ref x, w1] st t I L R Q = WP V 98 21 [.ref x, w1] (.ref x :: st) t I L R Q := wp_go rfl
theorem i98_21 {k : Nat} (h1 : k < t) (h2 : m_ob k 7 = true) : WP V 98 21 ls (.ref k :: st) t I L R Q = WP V 98 22 ls (m_rv (R k 4) :: st) t I L R Q := wp_getR rfl (by decide) h1 h2
theorem i98_22n  : WP V 98 22 ls (.null :: st) t I L R Q = WP V 98 23 ls st t I L R Q := wp_go rfl
theorem i98_22r {k : Nat} : WP V 98 22 ls (.ref k :: st) t I L R Q = WP V 98 32 ls st t I L R Q := wp_go rfl
theorem i98_23 {w1 : Value} {x : Nat} : WP V 98 23 [.ref x, w1] st t I L R Q = WP V 98 24 [.ref x, w1] (.ref x :: st) t I L R Q := wp_go rfl
theorem i98_24 (h : m_ob t 2 = true) : WP V 98 24 ls st t I L R Q = WP V 98 25 ls (.ref t :: st) (t + 1) (m_sc I t (fun _ => 0)) L (m_sc R t (fun _ => none)) Q := wp_new rfl h
theorem i98_25 {v0 : Nat} : WP V 98 25 ls (.ref v0 :: st) t I L R Q = WP V 98 26 ls (.ref v0 :: .ref v0 :: st) t I L R Q := wp_go rfl
theorem i98_26 {w1 : Value} {x : Nat} : WP V 98 26 [.ref x, w1] st t I L R Q = WP V 98 27 [.ref x, w1] (.ref x :: st) t I L R Q := wp_go rfl
theorem i98_27 {k : Nat} (h1 : k < t) (h2 : m_ob k 7 = true) : WP V 98 27 ls (.ref k :: st) t I L R Q = WP V 98 28 ls (m_rv (R k 0) :: st) t I L R Q := wp_getR rfl (by decide) h1 h2
theorem i98_28 {w1 : Value} {x : Nat} : WP V 98 28 [.ref x, w1] st t I L R Q = WP V 98 29 [.ref x, w1] (.ref x :: st) t I L R Q := wp_go rfl
theorem i98_29 {k : Nat} (h1 : k < t) (h2 : m_ob k 7 = true) : WP V 98 29 ls (.ref k :: st) t I L R Q = WP V 98 30 ls (m_rv (R k 2) :: st) t I L R Q := wp_getR rfl (by decide) h1 h2
theorem i98_30 {x0 : Nat} {x1 : Nat} {x2 : Nat} {r0 : Nat} {r1 : Nat} (h1 : x2 < t) : WP V 98 30 ls [.ref x0, .ref x1, .ref x2, .ref r0, .ref r1] t I L R Q = WPC V 33 [.ref x2, .ref x1, .ref x0] 98 31 ls [.ref r0, .ref r1] t I L R Q := wp_cls (wp_icp rfl (by decide) rfl h1) (by decide) (Nat.le_of_ble_eq_true rfl) rfl rfl (Nat.le_of_ble_eq_true rfl) (Nat.le_of_ble_eq_true rfl)
theorem i98_31 {k x : Nat} (h1 : k < t) (h2 : m_ob k 7 = true) : WP V 98 31 ls (.ref x :: .ref k :: st) t I L R Q = WP V 98 32 ls st t I L (m_sc R k (m_sc (R k) 4 (some x))) Q := wp_putR rfl (by decide) h1 h2
theorem i98_31n {k : Nat} (h1 : k < t) (h2 : m_ob k 7 = true) : WP V 98 31 ls (.null :: .ref k :: st) t I L R Q = WP V 98 32 ls st t I L (m_sc R k (m_sc (R k) 4 none)) Q := wp_putN rfl (by decide) h1 h2
theorem i98_32 {w1 : Value} {x : Nat} : WP V 98 32 [.ref x, w1] st t I L R Q = WP V 98 33 [.ref x, w1] (.ref x :: st) t I L R Q := wp_go rfl
theorem i98_33 {k : Nat} (h1 : k < t) (h2 : m_ob k 7 = true) : WP V 98 33 ls (.ref k :: st) t I L R Q = WP V 98 34 ls (m_rv (R k 4) :: st) t I L R Q := wp_getR rfl (by decide) h1 h2
theorem i98_34 {w0 : Value} {x : Int32} : WP V 98 34 [w0, .int x] st t I L R Q = WP V 98 35 [w0, .int x] (.int x :: st) t I L R Q := wp_go rfl
theorem i98_35 {x0 : Int32} {x1 : Nat}  (h1 : x1 < t) (h2 : m_ob x1 2 = true) : WP V 98 35 ls [.int x0, .ref x1] t I L R Q = WPC V 34 [.ref x1, .int x0] 98 36 ls [] t I L R Q := wp_cls (wp_icv rfl rfl h1 h2) (by decide) (Nat.le_of_ble_eq_true rfl) rfl rfl (Nat.le_of_ble_eq_true rfl) (Nat.le_of_ble_eq_true rfl)
theorem i98_36 {x : Int32} : WP V 98 36 ls [.int x] t I L R Q = Q (some (.int x)) t I L R := wp_rti rfl rfl
-- TransactionCells.end(II)I
theorem i99_0 {w1 w2 : Value} {x : Nat} : WP V 99 0 [.ref x, w1, w2] st t I L R Q = WP V 99 1 [.ref x, w1, w2] (.ref x :: st) t I L R Q := wp_go rfl
theorem i99_1 {k : Nat} (h1 : k < t) (h2 : m_ob k 7 = true) : WP V 99 1 ls (.ref k :: st) t I L R Q = WP V 99 2 ls (m_rv (R k 4) :: st) t I L R Q := wp_getR rfl (by decide) h1 h2
theorem i99_2n  : WP V 99 2 ls (.null :: st) t I L R Q = WP V 99 11 ls st t I L R Q := wp_go rfl
theorem i99_2r {k : Nat} : WP V 99 2 ls (.ref k :: st) t I L R Q = WP V 99 3 ls st t I L R Q := wp_go rfl
theorem i99_3 {w0 w2 : Value} {x : Int32} : WP V 99 3 [w0, .int x, w2] st t I L R Q = WP V 99 4 [w0, .int x, w2] (.int x :: st) t I L R Q := wp_go rfl
theorem i99_4  : WP V 99 4 ls st t I L R Q = WP V 99 5 ls (.int (-1) :: st) t I L R Q := wp_go rfl
theorem i99_5 {x y : Int32} : WP V 99 5 ls (.int y :: .int x :: st) t I L R Q = if x < y then WP V 99 11 ls st t I L R Q else WP V 99 6 ls st t I L R Q := wp_br (c := m_cc .lt x y) rfl rfl
theorem i99_6 {w0 w2 : Value} {x : Int32} : WP V 99 6 [w0, .int x, w2] st t I L R Q = WP V 99 7 [w0, .int x, w2] (.int x :: st) t I L R Q := wp_go rfl
theorem i99_7 {w1 w2 : Value} {x : Nat} : WP V 99 7 [.ref x, w1, w2] st t I L R Q = WP V 99 8 [.ref x, w1, w2] (.ref x :: st) t I L R Q := wp_go rfl
theorem i99_8 {k : Nat} (h1 : k < t) (h2 : m_ob k 7 = true) : WP V 99 8 ls (.ref k :: st) t I L R Q = WP V 99 9 ls (m_rv (R k 4) :: st) t I L R Q := wp_getR rfl (by decide) h1 h2
theorem i99_9 {k : Nat} (h1 : k < t) (h2 : m_ob k 2 = true) : WP V 99 9 ls (.ref k :: st) t I L R Q = WP V 99 10 ls (.int (I k 10) :: st) t I L R Q := wp_getI rfl (by decide) h1 h2
theorem i99_10 {x y : Int32} : WP V 99 10 ls (.int y :: .int x :: st) t I L R Q = if x < y then WP V 99 13 ls st t I L R Q else WP V 99 11 ls st t I L R Q := wp_br (c := m_cc .lt x y) rfl rfl
theorem i99_11  : WP V 99 11 ls st t I L R Q = WP V 99 12 ls (.int (-101) :: st) t I L R Q := wp_go rfl
theorem i99_12 {x : Int32} : WP V 99 12 ls [.int x] t I L R Q = Q (some (.int x)) t I L R := wp_rti rfl rfl
theorem i99_13 {w0 w2 : Value} {x : Int32} : WP V 99 13 [w0, .int x, w2] st t I L R Q = WP V 99 14 [w0, .int x, w2] (.int x :: st) t I L R Q := wp_go rfl
theorem i99_14  : WP V 99 14 ls st t I L R Q = WP V 99 15 ls (.int (-1) :: st) t I L R Q := wp_go rfl
theorem i99_15 {x y : Int32} : WP V 99 15 ls (.int y :: .int x :: st) t I L R Q = if x = y then WP V 99 16 ls st t I L R Q else WP V 99 20 ls st t I L R Q := wp_brn (c := m_cc .ne x y) rfl rfl
theorem i99_16 {w1 w2 : Value} {x : Nat} : WP V 99 16 [.ref x, w1, w2] st t I L R Q = WP V 99 17 [.ref x, w1, w2] (.ref x :: st) t I L R Q := wp_go rfl
theorem i99_17 {k : Nat} (h1 : k < t) (h2 : m_ob k 7 = true) : WP V 99 17 ls (.ref k :: st) t I L R Q = WP V 99 18 ls (m_rv (R k 4) :: st) t I L R Q := wp_getR rfl (by decide) h1 h2
theorem i99_18 {k : Nat} (h1 : k < t) (h2 : m_ob k 2 = true) : WP V 99 18 ls (.ref k :: st) t I L R Q = WP V 99 19 ls (.int (I k 10) :: st) t I L R Q := wp_getI rfl (by decide) h1 h2
theorem i99_19 {x : Int32} : WP V 99 19 ls [.int x] t I L R Q = Q (some (.int x)) t I L R := wp_rti rfl rfl
theorem i99_20 {w0 w1 : Value} {x : Int32} : WP V 99 20 [w0, w1, .int x] st t I L R Q = WP V 99 21 [w0, w1, .int x] (.int x :: st) t I L R Q := wp_go rfl
theorem i99_21  : WP V 99 21 ls st t I L R Q = WP V 99 22 ls (.int (nI 19) :: st) t I L R Q := wp_go rfl
theorem i99_22 {x0 : Int32} {x1 : Int32}  : WP V 99 22 ls [.int x0, .int x1] t I L R Q = WPC V 109 [.int x1, .int x0] 99 23 ls [] t I L R Q := wp_cls (wp_ics rfl (by decide)) (by decide) (Nat.le_of_ble_eq_true rfl) rfl rfl (Nat.le_of_ble_eq_true rfl) (Nat.le_of_ble_eq_true rfl)
theorem i99_23 {x : Int32} : WP V 99 23 ls (.int x :: st) t I L R Q = if x = nI 0 then WP V 99 24 ls st t I L R Q else WP V 99 26 ls st t I L R Q := wp_brn (c := m_cc .ne x 0) rfl rfl
theorem i99_24  : WP V 99 24 ls st t I L R Q = WP V 99 25 ls (.int (-102) :: st) t I L R Q := wp_go rfl
theorem i99_25 {x : Int32} : WP V 99 25 ls [.int x] t I L R Q = Q (some (.int x)) t I L R := wp_rti rfl rfl
theorem i99_26 {w1 w2 : Value} {x : Nat} : WP V 99 26 [.ref x, w1, w2] st t I L R Q = WP V 99 27 [.ref x, w1, w2] (.ref x :: st) t I L R Q := wp_go rfl
theorem i99_27 {k : Nat} (h1 : k < t) (h2 : m_ob k 7 = true) : WP V 99 27 ls (.ref k :: st) t I L R Q = WP V 99 28 ls (m_rv (R k 4) :: st) t I L R Q := wp_getR rfl (by decide) h1 h2
theorem i99_28 {k : Nat} (h1 : k < t) (h2 : m_ob k 2 = true) : WP V 99 28 ls (.ref k :: st) t I L R Q = WP V 99 29 ls (m_rv (R k 9) :: st) t I L R Q := wp_getR rfl (by decide) h1 h2
theorem i99_29 {w0 w2 : Value} {x : Int32} : WP V 99 29 [w0, .int x, w2] st t I L R Q = WP V 99 30 [w0, .int x, w2] (.int x :: st) t I L R Q := wp_go rfl
theorem i99_30  : WP V 99 30 ls st t I L R Q = WP V 99 31 ls (.int (nI 19) :: st) t I L R Q := wp_go rfl
theorem i99_31 {x y : Int32} : WP V 99 31 ls (.int y :: .int x :: st) t I L R Q = WP V 99 32 ls (.int (x * y) :: st) t I L R Q := wp_go rfl
theorem i99_32 {w0 w1 : Value} {x : Int32} : WP V 99 32 [w0, w1, .int x] st t I L R Q = WP V 99 33 [w0, w1, .int x] (.int x :: st) t I L R Q := wp_go rfl
theorem i99_33 {x y : Int32} : WP V 99 33 ls (.int y :: .int x :: st) t I L R Q = WP V 99 34 ls (.int (x + y) :: st) t I L R Q := wp_go rfl
theorem i99_34 {k j : Nat} (h2 : m_ar k 2 7600 = true) (h1 : k < t) (h3 : j < 7600) : WP V 99 34 ls (.int (nI j) :: .ref k :: st) t I L R Q = WP V 99 35 ls (.int (I k j) :: st) t I L R Q := wp_iaload rfl (by decide) h1 h2 h3
theorem i99_35 {x : Int32} : WP V 99 35 ls [.int x] t I L R Q = Q (some (.int x)) t I L R := wp_rti rfl rfl
-- TransactionCells.thread(II)I
theorem i100_0 {w0 w2 w3 : Value} {x : Int32} : WP V 100 0 [w0, .int x, w2, w3] st t I L R Q = WP V 100 1 [w0, .int x, w2, w3] (.int x :: st) t I L R Q := wp_go rfl
theorem i100_1  : WP V 100 1 ls st t I L R Q = WP V 100 2 ls (.int (nI 3) :: st) t I L R Q := wp_go rfl
theorem i100_2 {x0 : Int32} {x1 : Int32}  : WP V 100 2 ls [.int x0, .int x1] t I L R Q = WPC V 109 [.int x1, .int x0] 100 3 ls [] t I L R Q := wp_cls (wp_ics rfl (by decide)) (by decide) (Nat.le_of_ble_eq_true rfl) rfl rfl (Nat.le_of_ble_eq_true rfl) (Nat.le_of_ble_eq_true rfl)
theorem i100_3 {x : Int32} : WP V 100 3 ls (.int x :: st) t I L R Q = if x = nI 0 then WP V 100 4 ls st t I L R Q else WP V 100 6 ls st t I L R Q := wp_brn (c := m_cc .ne x 0) rfl rfl
theorem i100_4  : WP V 100 4 ls st t I L R Q = WP V 100 5 ls (.int (-101) :: st) t I L R Q := wp_go rfl
theorem i100_5 {x : Int32} : WP V 100 5 ls [.int x] t I L R Q = Q (some (.int x)) t I L R := wp_rti rfl rfl
theorem i100_6 {w1 w2 w3 : Value} {x : Nat} : WP V 100 6 [.ref x, w1, w2, w3] st t I L R Q = WP V 100 7 [.ref x, w1, w2, w3] (.ref x :: st) t I L R Q := wp_go rfl
theorem i100_7 {k : Nat} (h1 : k < t) (h2 : m_ob k 7 = true) : WP V 100 7 ls (.ref k :: st) t I L R Q = WP V 100 8 ls (m_rv (R k 0) :: st) t I L R Q := wp_getR rfl (by decide) h1 h2
theorem i100_8 {k : Nat} (h1 : k < t) (h2 : m_ob k 3 = true) : WP V 100 8 ls (.ref k :: st) t I L R Q = WP V 100 9 ls (m_rv (R k 0) :: st) t I L R Q := wp_getR rfl (by decide) h1 h2
theorem i100_9 {p : Int32} {w0 w1 w3 : Value} {x : Nat} : WP V 100 9 [w0, w1, .int p, w3] (.ref x :: st) t I L R Q = WP V 100 10 [w0, w1, .int p, .ref x] st t I L R Q := wp_go rfl
theorem i100_10 {w0 w1 w3 : Value} {x : Int32} : WP V 100 10 [w0, w1, .int x, w3] st t I L R Q = WP V 100 11 [w0, w1, .int x, w3] (.int x :: st) t I L R Q := wp_go rfl
theorem i100_11s0  : WP V 100 11 ls (.int (nI 0) :: st) t I L R Q = WP V 100 12 ls st t I L R Q := wp_sw rfl (by decide) (by decide) (by decide) rfl
theorem i100_11s1  : WP V 100 11 ls (.int (nI 1) :: st) t I L R Q = WP V 100 18 ls st t I L R Q := wp_sw rfl (by decide) (by decide) (by decide) rfl
theorem i100_11s2  : WP V 100 11 ls (.int (nI 2) :: st) t I L R Q = WP V 100 24 ls st t I L R Q := wp_sw rfl (by decide) (by decide) (by decide) rfl
theorem i100_11s3  : WP V 100 11 ls (.int (nI 3) :: st) t I L R Q = WP V 100 30 ls st t I L R Q := wp_sw rfl (by decide) (by decide) (by decide) rfl
theorem i100_11s4  : WP V 100 11 ls (.int (nI 4) :: st) t I L R Q = WP V 100 36 ls st t I L R Q := wp_sw rfl (by decide) (by decide) (by decide) rfl
theorem i100_11s5  : WP V 100 11 ls (.int (nI 5) :: st) t I L R Q = WP V 100 42 ls st t I L R Q := wp_sw rfl (by decide) (by decide) (by decide) rfl
theorem i100_11s6  : WP V 100 11 ls (.int (nI 6) :: st) t I L R Q = WP V 100 48 ls st t I L R Q := wp_sw rfl (by decide) (by decide) (by decide) rfl
theorem i100_11s7  : WP V 100 11 ls (.int (nI 7) :: st) t I L R Q = WP V 100 54 ls st t I L R Q := wp_sw rfl (by decide) (by decide) (by decide) rfl
theorem i100_11sd {x : Int32} (h : x.toInt < 0 ∨ 7 < x.toInt) : WP V 100 11 ls (.int x :: st) t I L R Q = WP V 100 60 ls st t I L R Q := wp_swd rfl h
theorem i100_12 {w0 w1 w2 : Value} {x : Nat} : WP V 100 12 [w0, w1, w2, .ref x] st t I L R Q = WP V 100 13 [w0, w1, w2, .ref x] (.ref x :: st) t I L R Q := wp_go rfl
theorem i100_13  : WP V 100 13 ls st t I L R Q = WP V 100 14 ls (.int (nI 3) :: st) t I L R Q := wp_go rfl
theorem i100_14 {w0 w2 w3 : Value} {x : Int32} : WP V 100 14 [w0, .int x, w2, w3] st t I L R Q = WP V 100 15 [w0, .int x, w2, w3] (.int x :: st) t I L R Q := wp_go rfl
theorem i100_15 {x y : Int32} : WP V 100 15 ls (.int y :: .int x :: st) t I L R Q = WP V 100 16 ls (.int (x + y) :: st) t I L R Q := wp_go rfl
theorem i100_16 {k j : Nat} (h2 : m_ar k 2 581 = true) (h1 : k < t) (h3 : j < 581) : WP V 100 16 ls (.int (nI j) :: .ref k :: st) t I L R Q = WP V 100 17 ls (.int (I k j) :: st) t I L R Q := wp_iaload rfl (by decide) h1 h2 h3
theorem i100_17 {x : Int32} : WP V 100 17 ls [.int x] t I L R Q = Q (some (.int x)) t I L R := wp_rti rfl rfl
theorem i100_18 {w0 w1 w2 : Value} {x : Nat} : WP V 100 18 [w0, w1, w2, .ref x] st t I L R Q = WP V 100 19 [w0, w1, w2, .ref x] (.ref x :: st) t I L R Q := wp_go rfl
theorem i100_19  : WP V 100 19 ls st t I L R Q = WP V 100 20 ls (.int (nI 6) :: st) t I L R Q := wp_go rfl
theorem i100_20 {w0 w2 w3 : Value} {x : Int32} : WP V 100 20 [w0, .int x, w2, w3] st t I L R Q = WP V 100 21 [w0, .int x, w2, w3] (.int x :: st) t I L R Q := wp_go rfl
theorem i100_21 {x y : Int32} : WP V 100 21 ls (.int y :: .int x :: st) t I L R Q = WP V 100 22 ls (.int (x + y) :: st) t I L R Q := wp_go rfl
theorem i100_22 {k j : Nat} (h2 : m_ar k 2 581 = true) (h1 : k < t) (h3 : j < 581) : WP V 100 22 ls (.int (nI j) :: .ref k :: st) t I L R Q = WP V 100 23 ls (.int (I k j) :: st) t I L R Q := wp_iaload rfl (by decide) h1 h2 h3
theorem i100_23 {x : Int32} : WP V 100 23 ls [.int x] t I L R Q = Q (some (.int x)) t I L R := wp_rti rfl rfl
theorem i100_24 {w0 w1 w2 : Value} {x : Nat} : WP V 100 24 [w0, w1, w2, .ref x] st t I L R Q = WP V 100 25 [w0, w1, w2, .ref x] (.ref x :: st) t I L R Q := wp_go rfl
theorem i100_25  : WP V 100 25 ls st t I L R Q = WP V 100 26 ls (.int (nI 9) :: st) t I L R Q := wp_go rfl
theorem i100_26 {w0 w2 w3 : Value} {x : Int32} : WP V 100 26 [w0, .int x, w2, w3] st t I L R Q = WP V 100 27 [w0, .int x, w2, w3] (.int x :: st) t I L R Q := wp_go rfl
theorem i100_27 {x y : Int32} : WP V 100 27 ls (.int y :: .int x :: st) t I L R Q = WP V 100 28 ls (.int (x + y) :: st) t I L R Q := wp_go rfl
theorem i100_28 {k j : Nat} (h2 : m_ar k 2 581 = true) (h1 : k < t) (h3 : j < 581) : WP V 100 28 ls (.int (nI j) :: .ref k :: st) t I L R Q = WP V 100 29 ls (.int (I k j) :: st) t I L R Q := wp_iaload rfl (by decide) h1 h2 h3
theorem i100_29 {x : Int32} : WP V 100 29 ls [.int x] t I L R Q = Q (some (.int x)) t I L R := wp_rti rfl rfl
theorem i100_30 {w0 w1 w2 : Value} {x : Nat} : WP V 100 30 [w0, w1, w2, .ref x] st t I L R Q = WP V 100 31 [w0, w1, w2, .ref x] (.ref x :: st) t I L R Q := wp_go rfl
theorem i100_31  : WP V 100 31 ls st t I L R Q = WP V 100 32 ls (.int (nI 15) :: st) t I L R Q := wp_go rfl
theorem i100_32 {w0 w2 w3 : Value} {x : Int32} : WP V 100 32 [w0, .int x, w2, w3] st t I L R Q = WP V 100 33 [w0, .int x, w2, w3] (.int x :: st) t I L R Q := wp_go rfl
theorem i100_33 {x y : Int32} : WP V 100 33 ls (.int y :: .int x :: st) t I L R Q = WP V 100 34 ls (.int (x + y) :: st) t I L R Q := wp_go rfl
theorem i100_34 {k j : Nat} (h2 : m_ar k 2 581 = true) (h1 : k < t) (h3 : j < 581) : WP V 100 34 ls (.int (nI j) :: .ref k :: st) t I L R Q = WP V 100 35 ls (.int (I k j) :: st) t I L R Q := wp_iaload rfl (by decide) h1 h2 h3
theorem i100_35 {x : Int32} : WP V 100 35 ls [.int x] t I L R Q = Q (some (.int x)) t I L R := wp_rti rfl rfl
theorem i100_36 {w0 w1 w2 : Value} {x : Nat} : WP V 100 36 [w0, w1, w2, .ref x] st t I L R Q = WP V 100 37 [w0, w1, w2, .ref x] (.ref x :: st) t I L R Q := wp_go rfl
theorem i100_37  : WP V 100 37 ls st t I L R Q = WP V 100 38 ls (.int (nI 550) :: st) t I L R Q := wp_go rfl
theorem i100_38 {w0 w2 w3 : Value} {x : Int32} : WP V 100 38 [w0, .int x, w2, w3] st t I L R Q = WP V 100 39 [w0, .int x, w2, w3] (.int x :: st) t I L R Q := wp_go rfl
theorem i100_39 {x y : Int32} : WP V 100 39 ls (.int y :: .int x :: st) t I L R Q = WP V 100 40 ls (.int (x + y) :: st) t I L R Q := wp_go rfl
theorem i100_40 {k j : Nat} (h2 : m_ar k 2 581 = true) (h1 : k < t) (h3 : j < 581) : WP V 100 40 ls (.int (nI j) :: .ref k :: st) t I L R Q = WP V 100 41 ls (.int (I k j) :: st) t I L R Q := wp_iaload rfl (by decide) h1 h2 h3
theorem i100_41 {x : Int32} : WP V 100 41 ls [.int x] t I L R Q = Q (some (.int x)) t I L R := wp_rti rfl rfl
theorem i100_42 {w0 w1 w2 : Value} {x : Nat} : WP V 100 42 [w0, w1, w2, .ref x] st t I L R Q = WP V 100 43 [w0, w1, w2, .ref x] (.ref x :: st) t I L R Q := wp_go rfl
theorem i100_43  : WP V 100 43 ls st t I L R Q = WP V 100 44 ls (.int (nI 553) :: st) t I L R Q := wp_go rfl
theorem i100_44 {w0 w2 w3 : Value} {x : Int32} : WP V 100 44 [w0, .int x, w2, w3] st t I L R Q = WP V 100 45 [w0, .int x, w2, w3] (.int x :: st) t I L R Q := wp_go rfl
theorem i100_45 {x y : Int32} : WP V 100 45 ls (.int y :: .int x :: st) t I L R Q = WP V 100 46 ls (.int (x + y) :: st) t I L R Q := wp_go rfl
theorem i100_46 {k j : Nat} (h2 : m_ar k 2 581 = true) (h1 : k < t) (h3 : j < 581) : WP V 100 46 ls (.int (nI j) :: .ref k :: st) t I L R Q = WP V 100 47 ls (.int (I k j) :: st) t I L R Q := wp_iaload rfl (by decide) h1 h2 h3
theorem i100_47 {x : Int32} : WP V 100 47 ls [.int x] t I L R Q = Q (some (.int x)) t I L R := wp_rti rfl rfl
theorem i100_48 {w0 w1 w2 : Value} {x : Nat} : WP V 100 48 [w0, w1, w2, .ref x] st t I L R Q = WP V 100 49 [w0, w1, w2, .ref x] (.ref x :: st) t I L R Q := wp_go rfl
theorem i100_49  : WP V 100 49 ls st t I L R Q = WP V 100 50 ls (.int (nI 556) :: st) t I L R Q := wp_go rfl
theorem i100_50 {w0 w2 w3 : Value} {x : Int32} : WP V 100 50 [w0, .int x, w2, w3] st t I L R Q = WP V 100 51 [w0, .int x, w2, w3] (.int x :: st) t I L R Q := wp_go rfl
theorem i100_51 {x y : Int32} : WP V 100 51 ls (.int y :: .int x :: st) t I L R Q = WP V 100 52 ls (.int (x + y) :: st) t I L R Q := wp_go rfl
theorem i100_52 {k j : Nat} (h2 : m_ar k 2 581 = true) (h1 : k < t) (h3 : j < 581) : WP V 100 52 ls (.int (nI j) :: .ref k :: st) t I L R Q = WP V 100 53 ls (.int (I k j) :: st) t I L R Q := wp_iaload rfl (by decide) h1 h2 h3
theorem i100_53 {x : Int32} : WP V 100 53 ls [.int x] t I L R Q = Q (some (.int x)) t I L R := wp_rti rfl rfl
theorem i100_54 {w0 w1 w2 : Value} {x : Nat} : WP V 100 54 [w0, w1, w2, .ref x] st t I L R Q = WP V 100 55 [w0, w1, w2, .ref x] (.ref x :: st) t I L R Q := wp_go rfl
theorem i100_55  : WP V 100 55 ls st t I L R Q = WP V 100 56 ls (.int (nI 12) :: st) t I L R Q := wp_go rfl
theorem i100_56 {w0 w2 w3 : Value} {x : Int32} : WP V 100 56 [w0, .int x, w2, w3] st t I L R Q = WP V 100 57 [w0, .int x, w2, w3] (.int x :: st) t I L R Q := wp_go rfl
theorem i100_57 {x y : Int32} : WP V 100 57 ls (.int y :: .int x :: st) t I L R Q = WP V 100 58 ls (.int (x + y) :: st) t I L R Q := wp_go rfl
theorem i100_58 {k j : Nat} (h2 : m_ar k 2 581 = true) (h1 : k < t) (h3 : j < 581) : WP V 100 58 ls (.int (nI j) :: .ref k :: st) t I L R Q = WP V 100 59 ls (.int (I k j) :: st) t I L R Q := wp_iaload rfl (by decide) h1 h2 h3
theorem i100_59 {x : Int32} : WP V 100 59 ls [.int x] t I L R Q = Q (some (.int x)) t I L R := wp_rti rfl rfl
theorem i100_60 {w0 w1 w3 : Value} {x : Int32} : WP V 100 60 [w0, w1, .int x, w3] st t I L R Q = WP V 100 61 [w0, w1, .int x, w3] (.int x :: st) t I L R Q := wp_go rfl
theorem i100_61  : WP V 100 61 ls st t I L R Q = WP V 100 62 ls (.int (nI 8) :: st) t I L R Q := wp_go rfl
theorem i100_62 {x y : Int32} : WP V 100 62 ls (.int y :: .int x :: st) t I L R Q = WP V 100 63 ls (.int (x - y) :: st) t I L R Q := wp_go rfl
theorem i100_63  : WP V 100 63 ls st t I L R Q = WP V 100 64 ls (.int (nI 4) :: st) t I L R Q := wp_go rfl
theorem i100_64 {x0 : Int32} {x1 : Int32}  : WP V 100 64 ls [.int x0, .int x1] t I L R Q = WPC V 109 [.int x1, .int x0] 100 65 ls [] t I L R Q := wp_cls (wp_ics rfl (by decide)) (by decide) (Nat.le_of_ble_eq_true rfl) rfl rfl (Nat.le_of_ble_eq_true rfl) (Nat.le_of_ble_eq_true rfl)
theorem i100_65 {x : Int32} : WP V 100 65 ls (.int x :: st) t I L R Q = if x = nI 0 then WP V 100 78 ls st t I L R Q else WP V 100 66 ls st t I L R Q := wp_br (c := m_cc .eq x 0) rfl rfl
theorem i100_66 {w0 w1 w2 : Value} {x : Nat} : WP V 100 66 [w0, w1, w2, .ref x] st t I L R Q = WP V 100 67 [w0, w1, w2, .ref x] (.ref x :: st) t I L R Q := wp_go rfl
theorem i100_67  : WP V 100 67 ls st t I L R Q = WP V 100 68 ls (.int (nI 21) :: st) t I L R Q := wp_go rfl
theorem i100_68  : WP V 100 68 ls st t I L R Q = WP V 100 69 ls (.int (nI 4) :: st) t I L R Q := wp_go rfl
theorem i100_69 {w0 w2 w3 : Value} {x : Int32} : WP V 100 69 [w0, .int x, w2, w3] st t I L R Q = WP V 100 70 [w0, .int x, w2, w3] (.int x :: st) t I L R Q := wp_go rfl
theorem i100_70 {x y : Int32} : WP V 100 70 ls (.int y :: .int x :: st) t I L R Q = WP V 100 71 ls (.int (x * y) :: st) t I L R Q := wp_go rfl
theorem i100_71 {x y : Int32} : WP V 100 71 ls (.int y :: .int x :: st) t I L R Q = WP V 100 72 ls (.int (x + y) :: st) t I L R Q := wp_go rfl
theorem i100_72 {w0 w1 w3 : Value} {x : Int32} : WP V 100 72 [w0, w1, .int x, w3] st t I L R Q = WP V 100 73 [w0, w1, .int x, w3] (.int x :: st) t I L R Q := wp_go rfl
theorem i100_73 {x y : Int32} : WP V 100 73 ls (.int y :: .int x :: st) t I L R Q = WP V 100 74 ls (.int (x + y) :: st) t I L R Q := wp_go rfl
theorem i100_74  : WP V 100 74 ls st t I L R Q = WP V 100 75 ls (.int (nI 8) :: st) t I L R Q := wp_go rfl
theorem i100_75 {x y : Int32} : WP V 100 75 ls (.int y :: .int x :: st) t I L R Q = WP V 100 76 ls (.int (x - y) :: st) t I L R Q := wp_go rfl
theorem i100_76 {k j : Nat} (h2 : m_ar k 2 581 = true) (h1 : k < t) (h3 : j < 581) : WP V 100 76 ls (.int (nI j) :: .ref k :: st) t I L R Q = WP V 100 77 ls (.int (I k j) :: st) t I L R Q := wp_iaload rfl (by decide) h1 h2 h3
theorem i100_77  : WP V 100 77 ls st t I L R Q = WP V 100 79 ls st t I L R Q := wp_go rfl
theorem i100_78  : WP V 100 78 ls st t I L R Q = WP V 100 79 ls (.int (-102) :: st) t I L R Q := wp_go rfl
theorem i100_79 {x : Int32} : WP V 100 79 ls [.int x] t I L R Q = Q (some (.int x)) t I L R := wp_rti rfl rfl
-- TransactionCells.told(II)I
theorem i101_0 {w0 w2 w3 : Value} {x : Int32} : WP V 101 0 [w0, .int x, w2, w3] st t I L R Q = WP V 101 1 [w0, .int x, w2, w3] (.int x :: st) t I L R Q := wp_go rfl
theorem i101_1  : WP V 101 1 ls st t I L R Q = WP V 101 2 ls (.int (nI 8) :: st) t I L R Q := wp_go rfl
theorem i101_2 {x0 : Int32} {x1 : Int32}  : WP V 101 2 ls [.int x0, .int x1] t I L R Q = WPC V 109 [.int x1, .int x0] 101 3 ls [] t I L R Q := wp_cls (wp_ics rfl (by decide)) (by decide) (Nat.le_of_ble_eq_true rfl) rfl rfl (Nat.le_of_ble_eq_true rfl) (Nat.le_of_ble_eq_true rfl)
theorem i101_3 {x : Int32} : WP V 101 3 ls (.int x :: st) t I L R Q = if x = nI 0 then WP V 101 4 ls st t I L R Q else WP V 101 6 ls st t I L R Q := wp_brn (c := m_cc .ne x 0) rfl rfl
theorem i101_4  : WP V 101 4 ls st t I L R Q = WP V 101 5 ls (.int (-101) :: st) t I L R Q := wp_go rfl
theorem i101_5 {x : Int32} : WP V 101 5 ls [.int x] t I L R Q = Q (some (.int x)) t I L R := wp_rti rfl rfl
theorem i101_6 {w0 w1 w3 : Value} {x : Int32} : WP V 101 6 [w0, w1, .int x, w3] st t I L R Q = WP V 101 7 [w0, w1, .int x, w3] (.int x :: st) t I L R Q := wp_go rfl
theorem i101_7  : WP V 101 7 ls st t I L R Q = WP V 101 8 ls (.int (nI 14) :: st) t I L R Q := wp_go rfl
theorem i101_8 {x0 : Int32} {x1 : Int32}  : WP V 101 8 ls [.int x0, .int x1] t I L R Q = WPC V 109 [.int x1, .int x0] 101 9 ls [] t I L R Q := wp_cls (wp_ics rfl (by decide)) (by decide) (Nat.le_of_ble_eq_true rfl) rfl rfl (Nat.le_of_ble_eq_true rfl) (Nat.le_of_ble_eq_true rfl)
theorem i101_9 {x : Int32} : WP V 101 9 ls (.int x :: st) t I L R Q = if x = nI 0 then WP V 101 10 ls st t I L R Q else WP V 101 12 ls st t I L R Q := wp_brn (c := m_cc .ne x 0) rfl rfl
theorem i101_10  : WP V 101 10 ls st t I L R Q = WP V 101 11 ls (.int (-102) :: st) t I L R Q := wp_go rfl
theorem i101_11 {x : Int32} : WP V 101 11 ls [.int x] t I L R Q = Q (some (.int x)) t I L R := wp_rti rfl rfl
theorem i101_12 {w1 w2 w3 : Value} {x : Nat} : WP V 101 12 [.ref x, w1, w2, w3] st t I L R Q = WP V 101 13 [.ref x, w1, w2, w3] (.ref x :: st) t I L R Q := wp_go rfl
theorem i101_13 {k : Nat} (h1 : k < t) (h2 : m_ob k 7 = true) : WP V 101 13 ls (.ref k :: st) t I L R Q = WP V 101 14 ls (m_rv (R k 0) :: st) t I L R Q := wp_getR rfl (by decide) h1 h2
theorem i101_14 {k : Nat} (h1 : k < t) (h2 : m_ob k 3 = true) : WP V 101 14 ls (.ref k :: st) t I L R Q = WP V 101 15 ls (m_rv (R k 0) :: st) t I L R Q := wp_getR rfl (by decide) h1 h2
theorem i101_15 {p : Int32} {w0 w1 w3 : Value} {x : Nat} : WP V 101 15 [w0, w1, .int p, w3] (.ref x :: st) t I L R Q = WP V 101 16 [w0, w1, .int p, .ref x] st t I L R Q := wp_go rfl
theorem i101_16 {w0 w1 w3 : Value} {x : Int32} : WP V 101 16 [w0, w1, .int x, w3] st t I L R Q = WP V 101 17 [w0, w1, .int x, w3] (.int x :: st) t I L R Q := wp_go rfl
theorem i101_17s0  : WP V 101 17 ls (.int (nI 0) :: st) t I L R Q = WP V 101 18 ls st t I L R Q := wp_sw rfl (by decide) (by decide) (by decide) rfl
theorem i101_17s1  : WP V 101 17 ls (.int (nI 1) :: st) t I L R Q = WP V 101 24 ls st t I L R Q := wp_sw rfl (by decide) (by decide) (by decide) rfl
theorem i101_17s2  : WP V 101 17 ls (.int (nI 2) :: st) t I L R Q = WP V 101 30 ls st t I L R Q := wp_sw rfl (by decide) (by decide) (by decide) rfl
theorem i101_17s3  : WP V 101 17 ls (.int (nI 3) :: st) t I L R Q = WP V 101 36 ls st t I L R Q := wp_sw rfl (by decide) (by decide) (by decide) rfl
theorem i101_17s4  : WP V 101 17 ls (.int (nI 4) :: st) t I L R Q = WP V 101 42 ls st t I L R Q := wp_sw rfl (by decide) (by decide) (by decide) rfl
theorem i101_17sd {x : Int32} (h : x.toInt < 0 ∨ 4 < x.toInt) : WP V 101 17 ls (.int x :: st) t I L R Q = WP V 101 48 ls st t I L R Q := wp_swd rfl h
theorem i101_18 {w0 w1 w2 : Value} {x : Nat} : WP V 101 18 [w0, w1, w2, .ref x] st t I L R Q = WP V 101 19 [w0, w1, w2, .ref x] (.ref x :: st) t I L R Q := wp_go rfl
theorem i101_19  : WP V 101 19 ls st t I L R Q = WP V 101 20 ls (.int (nI 49) :: st) t I L R Q := wp_go rfl
theorem i101_20 {w0 w2 w3 : Value} {x : Int32} : WP V 101 20 [w0, .int x, w2, w3] st t I L R Q = WP V 101 21 [w0, .int x, w2, w3] (.int x :: st) t I L R Q := wp_go rfl
theorem i101_21 {x y : Int32} : WP V 101 21 ls (.int y :: .int x :: st) t I L R Q = WP V 101 22 ls (.int (x + y) :: st) t I L R Q := wp_go rfl
theorem i101_22 {k j : Nat} (h2 : m_ar k 2 581 = true) (h1 : k < t) (h3 : j < 581) : WP V 101 22 ls (.int (nI j) :: .ref k :: st) t I L R Q = WP V 101 23 ls (.int (I k j) :: st) t I L R Q := wp_iaload rfl (by decide) h1 h2 h3
theorem i101_23 {x : Int32} : WP V 101 23 ls [.int x] t I L R Q = Q (some (.int x)) t I L R := wp_rti rfl rfl
theorem i101_24 {w0 w1 w2 : Value} {x : Nat} : WP V 101 24 [w0, w1, w2, .ref x] st t I L R Q = WP V 101 25 [w0, w1, w2, .ref x] (.ref x :: st) t I L R Q := wp_go rfl
theorem i101_25  : WP V 101 25 ls st t I L R Q = WP V 101 26 ls (.int (nI 57) :: st) t I L R Q := wp_go rfl
theorem i101_26 {w0 w2 w3 : Value} {x : Int32} : WP V 101 26 [w0, .int x, w2, w3] st t I L R Q = WP V 101 27 [w0, .int x, w2, w3] (.int x :: st) t I L R Q := wp_go rfl
theorem i101_27 {x y : Int32} : WP V 101 27 ls (.int y :: .int x :: st) t I L R Q = WP V 101 28 ls (.int (x + y) :: st) t I L R Q := wp_go rfl
theorem i101_28 {k j : Nat} (h2 : m_ar k 2 581 = true) (h1 : k < t) (h3 : j < 581) : WP V 101 28 ls (.int (nI j) :: .ref k :: st) t I L R Q = WP V 101 29 ls (.int (I k j) :: st) t I L R Q := wp_iaload rfl (by decide) h1 h2 h3
theorem i101_29 {x : Int32} : WP V 101 29 ls [.int x] t I L R Q = Q (some (.int x)) t I L R := wp_rti rfl rfl
theorem i101_30 {w0 w1 w2 : Value} {x : Nat} : WP V 101 30 [w0, w1, w2, .ref x] st t I L R Q = WP V 101 31 [w0, w1, w2, .ref x] (.ref x :: st) t I L R Q := wp_go rfl
theorem i101_31  : WP V 101 31 ls st t I L R Q = WP V 101 32 ls (.int (nI 65) :: st) t I L R Q := wp_go rfl
theorem i101_32 {w0 w2 w3 : Value} {x : Int32} : WP V 101 32 [w0, .int x, w2, w3] st t I L R Q = WP V 101 33 [w0, .int x, w2, w3] (.int x :: st) t I L R Q := wp_go rfl
theorem i101_33 {x y : Int32} : WP V 101 33 ls (.int y :: .int x :: st) t I L R Q = WP V 101 34 ls (.int (x + y) :: st) t I L R Q := wp_go rfl
theorem i101_34 {k j : Nat} (h2 : m_ar k 2 581 = true) (h1 : k < t) (h3 : j < 581) : WP V 101 34 ls (.int (nI j) :: .ref k :: st) t I L R Q = WP V 101 35 ls (.int (I k j) :: st) t I L R Q := wp_iaload rfl (by decide) h1 h2 h3
theorem i101_35 {x : Int32} : WP V 101 35 ls [.int x] t I L R Q = Q (some (.int x)) t I L R := wp_rti rfl rfl
theorem i101_36 {w0 w1 w2 : Value} {x : Nat} : WP V 101 36 [w0, w1, w2, .ref x] st t I L R Q = WP V 101 37 [w0, w1, w2, .ref x] (.ref x :: st) t I L R Q := wp_go rfl
theorem i101_37  : WP V 101 37 ls st t I L R Q = WP V 101 38 ls (.int (nI 33) :: st) t I L R Q := wp_go rfl
theorem i101_38 {w0 w2 w3 : Value} {x : Int32} : WP V 101 38 [w0, .int x, w2, w3] st t I L R Q = WP V 101 39 [w0, .int x, w2, w3] (.int x :: st) t I L R Q := wp_go rfl
theorem i101_39 {x y : Int32} : WP V 101 39 ls (.int y :: .int x :: st) t I L R Q = WP V 101 40 ls (.int (x + y) :: st) t I L R Q := wp_go rfl
theorem i101_40 {k j : Nat} (h2 : m_ar k 2 581 = true) (h1 : k < t) (h3 : j < 581) : WP V 101 40 ls (.int (nI j) :: .ref k :: st) t I L R Q = WP V 101 41 ls (.int (I k j) :: st) t I L R Q := wp_iaload rfl (by decide) h1 h2 h3
theorem i101_41 {x : Int32} : WP V 101 41 ls [.int x] t I L R Q = Q (some (.int x)) t I L R := wp_rti rfl rfl
theorem i101_42 {w0 w1 w2 : Value} {x : Nat} : WP V 101 42 [w0, w1, w2, .ref x] st t I L R Q = WP V 101 43 [w0, w1, w2, .ref x] (.ref x :: st) t I L R Q := wp_go rfl
theorem i101_43  : WP V 101 43 ls st t I L R Q = WP V 101 44 ls (.int (nI 41) :: st) t I L R Q := wp_go rfl
theorem i101_44 {w0 w2 w3 : Value} {x : Int32} : WP V 101 44 [w0, .int x, w2, w3] st t I L R Q = WP V 101 45 [w0, .int x, w2, w3] (.int x :: st) t I L R Q := wp_go rfl
theorem i101_45 {x y : Int32} : WP V 101 45 ls (.int y :: .int x :: st) t I L R Q = WP V 101 46 ls (.int (x + y) :: st) t I L R Q := wp_go rfl
theorem i101_46 {k j : Nat} (h2 : m_ar k 2 581 = true) (h1 : k < t) (h3 : j < 581) : WP V 101 46 ls (.int (nI j) :: .ref k :: st) t I L R Q = WP V 101 47 ls (.int (I k j) :: st) t I L R Q := wp_iaload rfl (by decide) h1 h2 h3
theorem i101_47 {x : Int32} : WP V 101 47 ls [.int x] t I L R Q = Q (some (.int x)) t I L R := wp_rti rfl rfl
theorem i101_48 {w0 w1 w3 : Value} {x : Int32} : WP V 101 48 [w0, w1, .int x, w3] st t I L R Q = WP V 101 49 [w0, w1, .int x, w3] (.int x :: st) t I L R Q := wp_go rfl
theorem i101_49  : WP V 101 49 ls st t I L R Q = WP V 101 50 ls (.int (nI 8) :: st) t I L R Q := wp_go rfl
theorem i101_50 {x y : Int32} : WP V 101 50 ls (.int y :: .int x :: st) t I L R Q = if y ≤ x then WP V 101 63 ls st t I L R Q else WP V 101 51 ls st t I L R Q := wp_br (c := m_cc .ge x y) rfl rfl
theorem i101_51 {w0 w1 w2 : Value} {x : Nat} : WP V 101 51 [w0, w1, w2, .ref x] st t I L R Q = WP V 101 52 [w0, w1, w2, .ref x] (.ref x :: st) t I L R Q := wp_go rfl
theorem i101_52  : WP V 101 52 ls st t I L R Q = WP V 101 53 ls (.int (nI 152) :: st) t I L R Q := wp_go rfl
theorem i101_53  : WP V 101 53 ls st t I L R Q = WP V 101 54 ls (.int (nI 47) :: st) t I L R Q := wp_go rfl
theorem i101_54 {w0 w1 w3 : Value} {x : Int32} : WP V 101 54 [w0, w1, .int x, w3] st t I L R Q = WP V 101 55 [w0, w1, .int x, w3] (.int x :: st) t I L R Q := wp_go rfl
theorem i101_55  : WP V 101 55 ls st t I L R Q = WP V 101 56 ls (.int (nI 5) :: st) t I L R Q := wp_go rfl
theorem i101_56 {x y : Int32} : WP V 101 56 ls (.int y :: .int x :: st) t I L R Q = WP V 101 57 ls (.int (x - y) :: st) t I L R Q := wp_go rfl
theorem i101_57 {x y : Int32} : WP V 101 57 ls (.int y :: .int x :: st) t I L R Q = WP V 101 58 ls (.int (x * y) :: st) t I L R Q := wp_go rfl
theorem i101_58 {x y : Int32} : WP V 101 58 ls (.int y :: .int x :: st) t I L R Q = WP V 101 59 ls (.int (x + y) :: st) t I L R Q := wp_go rfl
theorem i101_59 {w0 w2 w3 : Value} {x : Int32} : WP V 101 59 [w0, .int x, w2, w3] st t I L R Q = WP V 101 60 [w0, .int x, w2, w3] (.int x :: st) t I L R Q := wp_go rfl
theorem i101_60 {x y : Int32} : WP V 101 60 ls (.int y :: .int x :: st) t I L R Q = WP V 101 61 ls (.int (x + y) :: st) t I L R Q := wp_go rfl
theorem i101_61 {k j : Nat} (h2 : m_ar k 2 581 = true) (h1 : k < t) (h3 : j < 581) : WP V 101 61 ls (.int (nI j) :: .ref k :: st) t I L R Q = WP V 101 62 ls (.int (I k j) :: st) t I L R Q := wp_iaload rfl (by decide) h1 h2 h3
theorem i101_62 {x : Int32} : WP V 101 62 ls [.int x] t I L R Q = Q (some (.int x)) t I L R := wp_rti rfl rfl
theorem i101_63 {w0 w1 w3 : Value} {x : Int32} : WP V 101 63 [w0, w1, .int x, w3] st t I L R Q = WP V 101 64 [w0, w1, .int x, w3] (.int x :: st) t I L R Q := wp_go rfl
theorem i101_64  : WP V 101 64 ls st t I L R Q = WP V 101 65 ls (.int (nI 11) :: st) t I L R Q := wp_go rfl
theorem i101_65 {x y : Int32} : WP V 101 65 ls (.int y :: .int x :: st) t I L R Q = if y ≤ x then WP V 101 78 ls st t I L R Q else WP V 101 66 ls st t I L R Q := wp_br (c := m_cc .ge x y) rfl rfl
theorem i101_66 {w0 w1 w2 : Value} {x : Nat} : WP V 101 66 [w0, w1, w2, .ref x] st t I L R Q = WP V 101 67 [w0, w1, w2, .ref x] (.ref x :: st) t I L R Q := wp_go rfl
theorem i101_67  : WP V 101 67 ls st t I L R Q = WP V 101 68 ls (.int (nI 176) :: st) t I L R Q := wp_go rfl
theorem i101_68  : WP V 101 68 ls st t I L R Q = WP V 101 69 ls (.int (nI 47) :: st) t I L R Q := wp_go rfl
theorem i101_69 {w0 w1 w3 : Value} {x : Int32} : WP V 101 69 [w0, w1, .int x, w3] st t I L R Q = WP V 101 70 [w0, w1, .int x, w3] (.int x :: st) t I L R Q := wp_go rfl
theorem i101_70  : WP V 101 70 ls st t I L R Q = WP V 101 71 ls (.int (nI 8) :: st) t I L R Q := wp_go rfl
theorem i101_71 {x y : Int32} : WP V 101 71 ls (.int y :: .int x :: st) t I L R Q = WP V 101 72 ls (.int (x - y) :: st) t I L R Q := wp_go rfl
theorem i101_72 {x y : Int32} : WP V 101 72 ls (.int y :: .int x :: st) t I L R Q = WP V 101 73 ls (.int (x * y) :: st) t I L R Q := wp_go rfl
theorem i101_73 {x y : Int32} : WP V 101 73 ls (.int y :: .int x :: st) t I L R Q = WP V 101 74 ls (.int (x + y) :: st) t I L R Q := wp_go rfl
theorem i101_74 {w0 w2 w3 : Value} {x : Int32} : WP V 101 74 [w0, .int x, w2, w3] st t I L R Q = WP V 101 75 [w0, .int x, w2, w3] (.int x :: st) t I L R Q := wp_go rfl
theorem i101_75 {x y : Int32} : WP V 101 75 ls (.int y :: .int x :: st) t I L R Q = WP V 101 76 ls (.int (x + y) :: st) t I L R Q := wp_go rfl
theorem i101_76 {k j : Nat} (h2 : m_ar k 2 581 = true) (h1 : k < t) (h3 : j < 581) : WP V 101 76 ls (.int (nI j) :: .ref k :: st) t I L R Q = WP V 101 77 ls (.int (I k j) :: st) t I L R Q := wp_iaload rfl (by decide) h1 h2 h3
theorem i101_77 {x : Int32} : WP V 101 77 ls [.int x] t I L R Q = Q (some (.int x)) t I L R := wp_rti rfl rfl
theorem i101_78 {w0 w1 w2 : Value} {x : Nat} : WP V 101 78 [w0, w1, w2, .ref x] st t I L R Q = WP V 101 79 [w0, w1, w2, .ref x] (.ref x :: st) t I L R Q := wp_go rfl
theorem i101_79  : WP V 101 79 ls st t I L R Q = WP V 101 80 ls (.int (nI 176) :: st) t I L R Q := wp_go rfl
theorem i101_80  : WP V 101 80 ls st t I L R Q = WP V 101 81 ls (.int (nI 47) :: st) t I L R Q := wp_go rfl
theorem i101_81 {w0 w1 w3 : Value} {x : Int32} : WP V 101 81 [w0, w1, .int x, w3] st t I L R Q = WP V 101 82 [w0, w1, .int x, w3] (.int x :: st) t I L R Q := wp_go rfl
theorem i101_82  : WP V 101 82 ls st t I L R Q = WP V 101 83 ls (.int (nI 11) :: st) t I L R Q := wp_go rfl
theorem i101_83 {x y : Int32} : WP V 101 83 ls (.int y :: .int x :: st) t I L R Q = WP V 101 84 ls (.int (x - y) :: st) t I L R Q := wp_go rfl
theorem i101_84 {x y : Int32} : WP V 101 84 ls (.int y :: .int x :: st) t I L R Q = WP V 101 85 ls (.int (x * y) :: st) t I L R Q := wp_go rfl
theorem i101_85 {x y : Int32} : WP V 101 85 ls (.int y :: .int x :: st) t I L R Q = WP V 101 86 ls (.int (x + y) :: st) t I L R Q := wp_go rfl
theorem i101_86  : WP V 101 86 ls st t I L R Q = WP V 101 87 ls (.int (nI 8) :: st) t I L R Q := wp_go rfl
theorem i101_87 {x y : Int32} : WP V 101 87 ls (.int y :: .int x :: st) t I L R Q = WP V 101 88 ls (.int (x + y) :: st) t I L R Q := wp_go rfl
theorem i101_88 {w0 w2 w3 : Value} {x : Int32} : WP V 101 88 [w0, .int x, w2, w3] st t I L R Q = WP V 101 89 [w0, .int x, w2, w3] (.int x :: st) t I L R Q := wp_go rfl
theorem i101_89 {x y : Int32} : WP V 101 89 ls (.int y :: .int x :: st) t I L R Q = WP V 101 90 ls (.int (x + y) :: st) t I L R Q := wp_go rfl
theorem i101_90 {k j : Nat} (h2 : m_ar k 2 581 = true) (h1 : k < t) (h3 : j < 581) : WP V 101 90 ls (.int (nI j) :: .ref k :: st) t I L R Q = WP V 101 91 ls (.int (I k j) :: st) t I L R Q := wp_iaload rfl (by decide) h1 h2 h3
theorem i101_91 {x : Int32} : WP V 101 91 ls [.int x] t I L R Q = Q (some (.int x)) t I L R := wp_rti rfl rfl
-- TransactionCells.count(I)I
theorem i102_0 {w0 : Value} {x : Int32} : WP V 102 0 [w0, .int x] st t I L R Q = WP V 102 1 [w0, .int x] (.int x :: st) t I L R Q := wp_go rfl
theorem i102_1s0  : WP V 102 1 ls (.int (nI 0) :: st) t I L R Q = WP V 102 2 ls st t I L R Q := wp_sw rfl (by decide) (by decide) (by decide) rfl
theorem i102_1s1  : WP V 102 1 ls (.int (nI 1) :: st) t I L R Q = WP V 102 8 ls st t I L R Q := wp_sw rfl (by decide) (by decide) (by decide) rfl
theorem i102_1s2  : WP V 102 1 ls (.int (nI 2) :: st) t I L R Q = WP V 102 13 ls st t I L R Q := wp_sw rfl (by decide) (by decide) (by decide) rfl
theorem i102_1s3  : WP V 102 1 ls (.int (nI 3) :: st) t I L R Q = WP V 102 18 ls st t I L R Q := wp_sw rfl (by decide) (by decide) (by decide) rfl
theorem i102_1s4  : WP V 102 1 ls (.int (nI 4) :: st) t I L R Q = WP V 102 24 ls st t I L R Q := wp_sw rfl (by decide) (by decide) (by decide) rfl
theorem i102_1s5  : WP V 102 1 ls (.int (nI 5) :: st) t I L R Q = WP V 102 30 ls st t I L R Q := wp_sw rfl (by decide) (by decide) (by decide) rfl
theorem i102_1s6  : WP V 102 1 ls (.int (nI 6) :: st) t I L R Q = WP V 102 36 ls st t I L R Q := wp_sw rfl (by decide) (by decide) (by decide) rfl
theorem i102_1s7  : WP V 102 1 ls (.int (nI 7) :: st) t I L R Q = WP V 102 42 ls st t I L R Q := wp_sw rfl (by decide) (by decide) (by decide) rfl
theorem i102_1sd {x : Int32} (h : x.toInt < 0 ∨ 7 < x.toInt) : WP V 102 1 ls (.int x :: st) t I L R Q = WP V 102 48 ls st t I L R Q := wp_swd rfl h
theorem i102_2 {w1 : Value} {x : Nat} : WP V 102 2 [.ref x, w1] st t I L R Q = WP V 102 3 [.ref x, w1] (.ref x :: st) t I L R Q := wp_go rfl
theorem i102_3 {k : Nat} (h1 : k < t) (h2 : m_ob k 7 = true) : WP V 102 3 ls (.ref k :: st) t I L R Q = WP V 102 4 ls (m_rv (R k 0) :: st) t I L R Q := wp_getR rfl (by decide) h1 h2
theorem i102_4 {k : Nat} (h1 : k < t) (h2 : m_ob k 3 = true) : WP V 102 4 ls (.ref k :: st) t I L R Q = WP V 102 5 ls (m_rv (R k 0) :: st) t I L R Q := wp_getR rfl (by decide) h1 h2
theorem i102_5  : WP V 102 5 ls st t I L R Q = WP V 102 6 ls (.int (nI 0) :: st) t I L R Q := wp_go rfl
theorem i102_6 {k j : Nat} (h2 : m_ar k 2 581 = true) (h1 : k < t) (h3 : j < 581) : WP V 102 6 ls (.int (nI j) :: .ref k :: st) t I L R Q = WP V 102 7 ls (.int (I k j) :: st) t I L R Q := wp_iaload rfl (by decide) h1 h2 h3
theorem i102_7 {x : Int32} : WP V 102 7 ls [.int x] t I L R Q = Q (some (.int x)) t I L R := wp_rti rfl rfl
theorem i102_8 {w1 : Value} {x : Nat} : WP V 102 8 [.ref x, w1] st t I L R Q = WP V 102 9 [.ref x, w1] (.ref x :: st) t I L R Q := wp_go rfl
theorem i102_9 {k : Nat} (h1 : k < t) (h2 : m_ob k 7 = true) : WP V 102 9 ls (.ref k :: st) t I L R Q = WP V 102 10 ls (m_rv (R k 0) :: st) t I L R Q := wp_getR rfl (by decide) h1 h2
theorem i102_10 {k : Nat} (h1 : k < t) (h2 : m_ob k 3 = true) : WP V 102 10 ls (.ref k :: st) t I L R Q = WP V 102 11 ls (m_rv (R k 3) :: st) t I L R Q := wp_getR rfl (by decide) h1 h2
theorem i102_11 {k : Nat} (h1 : k < t) (h2 : m_ob k 4 = true) : WP V 102 11 ls (.ref k :: st) t I L R Q = WP V 102 12 ls (.int (I k 2) :: st) t I L R Q := wp_getI rfl (by decide) h1 h2
theorem i102_12 {x : Int32} : WP V 102 12 ls [.int x] t I L R Q = Q (some (.int x)) t I L R := wp_rti rfl rfl
theorem i102_13 {w1 : Value} {x : Nat} : WP V 102 13 [.ref x, w1] st t I L R Q = WP V 102 14 [.ref x, w1] (.ref x :: st) t I L R Q := wp_go rfl
theorem i102_14 {k : Nat} (h1 : k < t) (h2 : m_ob k 7 = true) : WP V 102 14 ls (.ref k :: st) t I L R Q = WP V 102 15 ls (m_rv (R k 0) :: st) t I L R Q := wp_getR rfl (by decide) h1 h2
theorem i102_15 {k : Nat} (h1 : k < t) (h2 : m_ob k 3 = true) : WP V 102 15 ls (.ref k :: st) t I L R Q = WP V 102 16 ls (m_rv (R k 3) :: st) t I L R Q := wp_getR rfl (by decide) h1 h2
theorem i102_16 {x0 : Nat}  (h1 : x0 < t) (h2 : m_ob x0 4 = true) : WP V 102 16 ls [.ref x0] t I L R Q = WPC V 54 [.ref x0] 102 17 ls [] t I L R Q := wp_cls (wp_icv rfl rfl h1 h2) (by decide) (Nat.le_of_ble_eq_true rfl) rfl rfl (Nat.le_of_ble_eq_true rfl) (Nat.le_of_ble_eq_true rfl)
theorem i102_17 {x : Int32} : WP V 102 17 ls [.int x] t I L R Q = Q (some (.int x)) t I L R := wp_rti rfl rfl
theorem i102_18 {w1 : Value} {x : Nat} : WP V 102 18 [.ref x, w1] st t I L R Q = WP V 102 19 [.ref x, w1] (.ref x :: st) t I L R Q := wp_go rfl
theorem i102_19 {k : Nat} (h1 : k < t) (h2 : m_ob k 7 = true) : WP V 102 19 ls (.ref k :: st) t I L R Q = WP V 102 20 ls (m_rv (R k 0) :: st) t I L R Q := wp_getR rfl (by decide) h1 h2
theorem i102_20 {k : Nat} (h1 : k < t) (h2 : m_ob k 3 = true) : WP V 102 20 ls (.ref k :: st) t I L R Q = WP V 102 21 ls (m_rv (R k 0) :: st) t I L R Q := wp_getR rfl (by decide) h1 h2
theorem i102_21  : WP V 102 21 ls st t I L R Q = WP V 102 22 ls (.int (nI 559) :: st) t I L R Q := wp_go rfl
theorem i102_22 {k j : Nat} (h2 : m_ar k 2 581 = true) (h1 : k < t) (h3 : j < 581) : WP V 102 22 ls (.int (nI j) :: .ref k :: st) t I L R Q = WP V 102 23 ls (.int (I k j) :: st) t I L R Q := wp_iaload rfl (by decide) h1 h2 h3
theorem i102_23 {x : Int32} : WP V 102 23 ls [.int x] t I L R Q = Q (some (.int x)) t I L R := wp_rti rfl rfl
theorem i102_24 {w1 : Value} {x : Nat} : WP V 102 24 [.ref x, w1] st t I L R Q = WP V 102 25 [.ref x, w1] (.ref x :: st) t I L R Q := wp_go rfl
theorem i102_25 {k : Nat} (h1 : k < t) (h2 : m_ob k 7 = true) : WP V 102 25 ls (.ref k :: st) t I L R Q = WP V 102 26 ls (m_rv (R k 0) :: st) t I L R Q := wp_getR rfl (by decide) h1 h2
theorem i102_26 {k : Nat} (h1 : k < t) (h2 : m_ob k 3 = true) : WP V 102 26 ls (.ref k :: st) t I L R Q = WP V 102 27 ls (m_rv (R k 0) :: st) t I L R Q := wp_getR rfl (by decide) h1 h2
theorem i102_27  : WP V 102 27 ls st t I L R Q = WP V 102 28 ls (.int (nI 560) :: st) t I L R Q := wp_go rfl
theorem i102_28 {k j : Nat} (h2 : m_ar k 2 581 = true) (h1 : k < t) (h3 : j < 581) : WP V 102 28 ls (.int (nI j) :: .ref k :: st) t I L R Q = WP V 102 29 ls (.int (I k j) :: st) t I L R Q := wp_iaload rfl (by decide) h1 h2 h3
theorem i102_29 {x : Int32} : WP V 102 29 ls [.int x] t I L R Q = Q (some (.int x)) t I L R := wp_rti rfl rfl
theorem i102_30 {w1 : Value} {x : Nat} : WP V 102 30 [.ref x, w1] st t I L R Q = WP V 102 31 [.ref x, w1] (.ref x :: st) t I L R Q := wp_go rfl
theorem i102_31 {k : Nat} (h1 : k < t) (h2 : m_ob k 7 = true) : WP V 102 31 ls (.ref k :: st) t I L R Q = WP V 102 32 ls (m_rv (R k 0) :: st) t I L R Q := wp_getR rfl (by decide) h1 h2
theorem i102_32 {k : Nat} (h1 : k < t) (h2 : m_ob k 3 = true) : WP V 102 32 ls (.ref k :: st) t I L R Q = WP V 102 33 ls (m_rv (R k 0) :: st) t I L R Q := wp_getR rfl (by decide) h1 h2
theorem i102_33  : WP V 102 33 ls st t I L R Q = WP V 102 34 ls (.int (nI 1) :: st) t I L R Q := wp_go rfl
theorem i102_34 {k j : Nat} (h2 : m_ar k 2 581 = true) (h1 : k < t) (h3 : j < 581) : WP V 102 34 ls (.int (nI j) :: .ref k :: st) t I L R Q = WP V 102 35 ls (.int (I k j) :: st) t I L R Q := wp_iaload rfl (by decide) h1 h2 h3
theorem i102_35 {x : Int32} : WP V 102 35 ls [.int x] t I L R Q = Q (some (.int x)) t I L R := wp_rti rfl rfl
theorem i102_36 {w1 : Value} {x : Nat} : WP V 102 36 [.ref x, w1] st t I L R Q = WP V 102 37 [.ref x, w1] (.ref x :: st) t I L R Q := wp_go rfl
theorem i102_37 {k : Nat} (h1 : k < t) (h2 : m_ob k 7 = true) : WP V 102 37 ls (.ref k :: st) t I L R Q = WP V 102 38 ls (m_rv (R k 0) :: st) t I L R Q := wp_getR rfl (by decide) h1 h2
theorem i102_38 {k : Nat} (h1 : k < t) (h2 : m_ob k 3 = true) : WP V 102 38 ls (.ref k :: st) t I L R Q = WP V 102 39 ls (m_rv (R k 0) :: st) t I L R Q := wp_getR rfl (by decide) h1 h2
theorem i102_39  : WP V 102 39 ls st t I L R Q = WP V 102 40 ls (.int (nI 2) :: st) t I L R Q := wp_go rfl
theorem i102_40 {k j : Nat} (h2 : m_ar k 2 581 = true) (h1 : k < t) (h3 : j < 581) : WP V 102 40 ls (.int (nI j) :: .ref k :: st) t I L R Q = WP V 102 41 ls (.int (I k j) :: st) t I L R Q := wp_iaload rfl (by decide) h1 h2 h3
theorem i102_41 {x : Int32} : WP V 102 41 ls [.int x] t I L R Q = Q (some (.int x)) t I L R := wp_rti rfl rfl
theorem i102_42 {w1 : Value} {x : Nat} : WP V 102 42 [.ref x, w1] st t I L R Q = WP V 102 43 [.ref x, w1] (.ref x :: st) t I L R Q := wp_go rfl
theorem i102_43 {k : Nat} (h1 : k < t) (h2 : m_ob k 7 = true) : WP V 102 43 ls (.ref k :: st) t I L R Q = WP V 102 44 ls (m_rv (R k 0) :: st) t I L R Q := wp_getR rfl (by decide) h1 h2
theorem i102_44 {k : Nat} (h1 : k < t) (h2 : m_ob k 3 = true) : WP V 102 44 ls (.ref k :: st) t I L R Q = WP V 102 45 ls (m_rv (R k 0) :: st) t I L R Q := wp_getR rfl (by decide) h1 h2
theorem i102_45  : WP V 102 45 ls st t I L R Q = WP V 102 46 ls (.int (nI 564) :: st) t I L R Q := wp_go rfl
theorem i102_46 {k j : Nat} (h2 : m_ar k 2 581 = true) (h1 : k < t) (h3 : j < 581) : WP V 102 46 ls (.int (nI j) :: .ref k :: st) t I L R Q = WP V 102 47 ls (.int (I k j) :: st) t I L R Q := wp_iaload rfl (by decide) h1 h2 h3
theorem i102_47 {x : Int32} : WP V 102 47 ls [.int x] t I L R Q = Q (some (.int x)) t I L R := wp_rti rfl rfl
theorem i102_48  : WP V 102 48 ls st t I L R Q = WP V 102 49 ls (.int (-102) :: st) t I L R Q := wp_go rfl
theorem i102_49 {x : Int32} : WP V 102 49 ls [.int x] t I L R Q = Q (some (.int x)) t I L R := wp_rti rfl rfl
-- TransactionCells.order(II)I
theorem i103_0 {w0 w2 : Value} {x : Int32} : WP V 103 0 [w0, .int x, w2] st t I L R Q = WP V 103 1 [w0, .int x, w2] (.int x :: st) t I L R Q := wp_go rfl
theorem i103_1 {w1 w2 : Value} {x : Nat} : WP V 103 1 [.ref x, w1, w2] st t I L R Q = WP V 103 2 [.ref x, w1, w2] (.ref x :: st) t I L R Q := wp_go rfl
theorem i103_2 {k : Nat} (h1 : k < t) (h2 : m_ob k 7 = true) : WP V 103 2 ls (.ref k :: st) t I L R Q = WP V 103 3 ls (m_rv (R k 0) :: st) t I L R Q := wp_getR rfl (by decide) h1 h2
theorem i103_3 {k : Nat} (h1 : k < t) (h2 : m_ob k 3 = true) : WP V 103 3 ls (.ref k :: st) t I L R Q = WP V 103 4 ls (m_rv (R k 3) :: st) t I L R Q := wp_getR rfl (by decide) h1 h2
theorem i103_4 {x0 : Nat} {r0 : Int32} (h1 : x0 < t) (h2 : m_ob x0 4 = true) : WP V 103 4 ls [.ref x0, .int r0] t I L R Q = WPC V 54 [.ref x0] 103 5 ls [.int r0] t I L R Q := wp_cls (wp_icv rfl rfl h1 h2) (by decide) (Nat.le_of_ble_eq_true rfl) rfl rfl (Nat.le_of_ble_eq_true rfl) (Nat.le_of_ble_eq_true rfl)
theorem i103_5 {x0 : Int32} {x1 : Int32}  : WP V 103 5 ls [.int x0, .int x1] t I L R Q = WPC V 109 [.int x1, .int x0] 103 6 ls [] t I L R Q := wp_cls (wp_ics rfl (by decide)) (by decide) (Nat.le_of_ble_eq_true rfl) rfl rfl (Nat.le_of_ble_eq_true rfl) (Nat.le_of_ble_eq_true rfl)
theorem i103_6 {x : Int32} : WP V 103 6 ls (.int x :: st) t I L R Q = if x = nI 0 then WP V 103 7 ls st t I L R Q else WP V 103 9 ls st t I L R Q := wp_brn (c := m_cc .ne x 0) rfl rfl
theorem i103_7  : WP V 103 7 ls st t I L R Q = WP V 103 8 ls (.int (-101) :: st) t I L R Q := wp_go rfl
theorem i103_8 {x : Int32} : WP V 103 8 ls [.int x] t I L R Q = Q (some (.int x)) t I L R := wp_rti rfl rfl
theorem i103_9 {w0 w1 : Value} {x : Int32} : WP V 103 9 [w0, w1, .int x] st t I L R Q = WP V 103 10 [w0, w1, .int x] (.int x :: st) t I L R Q := wp_go rfl
theorem i103_10  : WP V 103 10 ls st t I L R Q = WP V 103 11 ls (.int (nI 34) :: st) t I L R Q := wp_go rfl
theorem i103_11 {x0 : Int32} {x1 : Int32}  : WP V 103 11 ls [.int x0, .int x1] t I L R Q = WPC V 109 [.int x1, .int x0] 103 12 ls [] t I L R Q := wp_cls (wp_ics rfl (by decide)) (by decide) (Nat.le_of_ble_eq_true rfl) rfl rfl (Nat.le_of_ble_eq_true rfl) (Nat.le_of_ble_eq_true rfl)
theorem i103_12 {x : Int32} : WP V 103 12 ls (.int x :: st) t I L R Q = if x = nI 0 then WP V 103 13 ls st t I L R Q else WP V 103 15 ls st t I L R Q := wp_brn (c := m_cc .ne x 0) rfl rfl
theorem i103_13  : WP V 103 13 ls st t I L R Q = WP V 103 14 ls (.int (-102) :: st) t I L R Q := wp_go rfl
theorem i103_14 {x : Int32} : WP V 103 14 ls [.int x] t I L R Q = Q (some (.int x)) t I L R := wp_rti rfl rfl
theorem i103_15 {w1 w2 : Value} {x : Nat} : WP V 103 15 [.ref x, w1, w2] st t I L R Q = WP V 103 16 [.ref x, w1, w2] (.ref x :: st) t I L R Q := wp_go rfl
theorem i103_16 {k : Nat} (h1 : k < t) (h2 : m_ob k 7 = true) : WP V 103 16 ls (.ref k :: st) t I L R Q = WP V 103 17 ls (m_rv (R k 0) :: st) t I L R Q := wp_getR rfl (by decide) h1 h2
theorem i103_17 {k : Nat} (h1 : k < t) (h2 : m_ob k 3 = true) : WP V 103 17 ls (.ref k :: st) t I L R Q = WP V 103 18 ls (m_rv (R k 3) :: st) t I L R Q := wp_getR rfl (by decide) h1 h2
theorem i103_18 {k : Nat} (h1 : k < t) (h2 : m_ob k 4 = true) : WP V 103 18 ls (.ref k :: st) t I L R Q = WP V 103 19 ls (m_rv (R k 0) :: st) t I L R Q := wp_getR rfl (by decide) h1 h2
theorem i103_19 {w0 w2 : Value} {x : Int32} : WP V 103 19 [w0, .int x, w2] st t I L R Q = WP V 103 20 [w0, .int x, w2] (.int x :: st) t I L R Q := wp_go rfl
theorem i103_20  : WP V 103 20 ls st t I L R Q = WP V 103 21 ls (.int (nI 35) :: st) t I L R Q := wp_go rfl
theorem i103_21 {x y : Int32} : WP V 103 21 ls (.int y :: .int x :: st) t I L R Q = WP V 103 22 ls (.int (x * y) :: st) t I L R Q := wp_go rfl
theorem i103_22 {w0 w1 : Value} {x : Int32} : WP V 103 22 [w0, w1, .int x] st t I L R Q = WP V 103 23 [w0, w1, .int x] (.int x :: st) t I L R Q := wp_go rfl
theorem i103_23 {x y : Int32} : WP V 103 23 ls (.int y :: .int x :: st) t I L R Q = WP V 103 24 ls (.int (x + y) :: st) t I L R Q := wp_go rfl
theorem i103_24 {k j : Nat} (h2 : m_ar k 2 2100 = true) (h1 : k < t) (h3 : j < 2100) : WP V 103 24 ls (.int (nI j) :: .ref k :: st) t I L R Q = WP V 103 25 ls (.int (I k j) :: st) t I L R Q := wp_iaload rfl (by decide) h1 h2 h3
theorem i103_25 {x : Int32} : WP V 103 25 ls [.int x] t I L R Q = Q (some (.int x)) t I L R := wp_rti rfl rfl
-- TransactionCells.forge(III)I
theorem i104_0 {w0 w2 w3 w4 w5 : Value} {x : Int32} : WP V 104 0 [w0, .int x, w2, w3, w4, w5] st t I L R Q = WP V 104 1 [w0, .int x, w2, w3, w4, w5] (.int x :: st) t I L R Q := wp_go rfl
theorem i104_1 {w1 w2 w3 w4 w5 : Value} {x : Nat} : WP V 104 1 [.ref x, w1, w2, w3, w4, w5] st t I L R Q = WP V 104 2 [.ref x, w1, w2, w3, w4, w5] (.ref x :: st) t I L R Q := wp_go rfl
theorem i104_2 {k : Nat} (h1 : k < t) (h2 : m_ob k 7 = true) : WP V 104 2 ls (.ref k :: st) t I L R Q = WP V 104 3 ls (m_rv (R k 0) :: st) t I L R Q := wp_getR rfl (by decide) h1 h2
theorem i104_3 {k : Nat} (h1 : k < t) (h2 : m_ob k 3 = true) : WP V 104 3 ls (.ref k :: st) t I L R Q = WP V 104 4 ls (m_rv (R k 3) :: st) t I L R Q := wp_getR rfl (by decide) h1 h2
theorem i104_4 {x0 : Nat} {r0 : Int32} (h1 : x0 < t) (h2 : m_ob x0 4 = true) : WP V 104 4 ls [.ref x0, .int r0] t I L R Q = WPC V 54 [.ref x0] 104 5 ls [.int r0] t I L R Q := wp_cls (wp_icv rfl rfl h1 h2) (by decide) (Nat.le_of_ble_eq_true rfl) rfl rfl (Nat.le_of_ble_eq_true rfl) (Nat.le_of_ble_eq_true rfl)
theorem i104_5 {x0 : Int32} {x1 : Int32}  : WP V 104 5 ls [.int x0, .int x1] t I L R Q = WPC V 109 [.int x1, .int x0] 104 6 ls [] t I L R Q := wp_cls (wp_ics rfl (by decide)) (by decide) (Nat.le_of_ble_eq_true rfl) rfl rfl (Nat.le_of_ble_eq_true rfl) (Nat.le_of_ble_eq_true rfl)
theorem i104_6 {x : Int32} : WP V 104 6 ls (.int x :: st) t I L R Q = if x = nI 0 then WP V 104 7 ls st t I L R Q else WP V 104 9 ls st t I L R Q := wp_brn (c := m_cc .ne x 0) rfl rfl
theorem i104_7  : WP V 104 7 ls st t I L R Q = WP V 104 8 ls (.int (-101) :: st) t I L R Q := wp_go rfl
theorem i104_8 {x : Int32} : WP V 104 8 ls [.int x] t I L R Q = Q (some (.int x)) t I L R := wp_rti rfl rfl
theorem i104_9 {w0 w1 w3 w4 w5 : Value} {x : Int32} : WP V 104 9 [w0, w1, .int x, w3, w4, w5] st t I L R Q = WP V 104 10 [w0, w1, .int x, w3, w4, w5] (.int x :: st) t I L R Q := wp_go rfl
theorem i104_10  : WP V 104 10 ls st t I L R Q = WP V 104 11 ls (.int (nI 2) :: st) t I L R Q := wp_go rfl
theorem i104_11 {x y : Int32} : WP V 104 11 ls (.int y :: .int x :: st) t I L R Q = if x < y then WP V 104 15 ls st t I L R Q else WP V 104 12 ls st t I L R Q := wp_br (c := m_cc .lt x y) rfl rfl
theorem i104_12 {w0 w1 w3 w4 w5 : Value} {x : Int32} : WP V 104 12 [w0, w1, .int x, w3, w4, w5] st t I L R Q = WP V 104 13 [w0, w1, .int x, w3, w4, w5] (.int x :: st) t I L R Q := wp_go rfl
theorem i104_13  : WP V 104 13 ls st t I L R Q = WP V 104 14 ls (.int (nI 34) :: st) t I L R Q := wp_go rfl
theorem i104_14 {x y : Int32} : WP V 104 14 ls (.int y :: .int x :: st) t I L R Q = if x < y then WP V 104 17 ls st t I L R Q else WP V 104 15 ls st t I L R Q := wp_br (c := m_cc .lt x y) rfl rfl
theorem i104_15  : WP V 104 15 ls st t I L R Q = WP V 104 16 ls (.int (-102) :: st) t I L R Q := wp_go rfl
theorem i104_16 {x : Int32} : WP V 104 16 ls [.int x] t I L R Q = Q (some (.int x)) t I L R := wp_rti rfl rfl
theorem i104_17 {w0 w1 w3 w4 w5 : Value} {x : Int32} : WP V 104 17 [w0, w1, .int x, w3, w4, w5] st t I L R Q = WP V 104 18 [w0, w1, .int x, w3, w4, w5] (.int x :: st) t I L R Q := wp_go rfl
theorem i104_18 {x0 : Int32}  : WP V 104 18 ls [.int x0] t I L R Q = WPC V 55 [.int x0] 104 19 ls [] t I L R Q := wp_cls (wp_ics rfl (by decide)) (by decide) (Nat.le_of_ble_eq_true rfl) rfl rfl (Nat.le_of_ble_eq_true rfl) (Nat.le_of_ble_eq_true rfl)
theorem i104_19 {x : Int32} : WP V 104 19 ls (.int x :: st) t I L R Q = if x = nI 0 then WP V 104 28 ls st t I L R Q else WP V 104 20 ls st t I L R Q := wp_br (c := m_cc .eq x 0) rfl rfl
theorem i104_20 {w0 w1 w2 w4 w5 : Value} {x : Int32} : WP V 104 20 [w0, w1, w2, .int x, w4, w5] st t I L R Q = WP V 104 21 [w0, w1, w2, .int x, w4, w5] (.int x :: st) t I L R Q := wp_go rfl
theorem i104_21  : WP V 104 21 ls st t I L R Q = WP V 104 22 ls (.int (-1) :: st) t I L R Q := wp_go rfl
theorem i104_22 {x y : Int32} : WP V 104 22 ls (.int y :: .int x :: st) t I L R Q = if x = y then WP V 104 28 ls st t I L R Q else WP V 104 23 ls st t I L R Q := wp_br (c := m_cc .eq x y) rfl rfl
theorem i104_23 {w0 w1 w2 w4 w5 : Value} {x : Int32} : WP V 104 23 [w0, w1, w2, .int x, w4, w5] st t I L R Q = WP V 104 24 [w0, w1, w2, .int x, w4, w5] (.int x :: st) t I L R Q := wp_go rfl
theorem i104_24 {x0 : Int32}  : WP V 104 24 ls [.int x0] t I L R Q = WPC V 44 [.int x0] 104 25 ls [] t I L R Q := wp_cls (wp_ics rfl (by decide)) (by decide) (Nat.le_of_ble_eq_true rfl) rfl rfl (Nat.le_of_ble_eq_true rfl) (Nat.le_of_ble_eq_true rfl)
theorem i104_25 {x : Int32} : WP V 104 25 ls (.int x :: st) t I L R Q = if x = nI 0 then WP V 104 26 ls st t I L R Q else WP V 104 28 ls st t I L R Q := wp_brn (c := m_cc .ne x 0) rfl rfl
theorem i104_26  : WP V 104 26 ls st t I L R Q = WP V 104 27 ls (.int (-102) :: st) t I L R Q := wp_go rfl
theorem i104_27 {x : Int32} : WP V 104 27 ls [.int x] t I L R Q = Q (some (.int x)) t I L R := wp_rti rfl rfl
theorem i104_28 {w0 w2 w3 w4 w5 : Value} {x : Int32} : WP V 104 28 [w0, .int x, w2, w3, w4, w5] st t I L R Q = WP V 104 29 [w0, .int x, w2, w3, w4, w5] (.int x :: st) t I L R Q := wp_go rfl
theorem i104_29  : WP V 104 29 ls st t I L R Q = WP V 104 30 ls (.int (nI 35) :: st) t I L R Q := wp_go rfl
theorem i104_30 {x y : Int32} : WP V 104 30 ls (.int y :: .int x :: st) t I L R Q = WP V 104 31 ls (.int (x * y) :: st) t I L R Q := wp_go rfl
theorem i104_31 {w0 w1 w3 w4 w5 : Value} {x : Int32} : WP V 104 31 [w0, w1, .int x, w3, w4, w5] st t I L R Q = WP V 104 32 [w0, w1, .int x, w3, w4, w5] (.int x :: st) t I L R Q := wp_go rfl
theorem i104_32 {x y : Int32} : WP V 104 32 ls (.int y :: .int x :: st) t I L R Q = WP V 104 33 ls (.int (x + y) :: st) t I L R Q := wp_go rfl
theorem i104_33 {p : Int32} {w0 w1 w2 w4 w5 : Value} {x : Int32} : WP V 104 33 [w0, w1, w2, .int p, w4, w5] (.int x :: st) t I L R Q = WP V 104 34 [w0, w1, w2, .int p, .int x, w5] st t I L R Q := wp_go rfl
theorem i104_34 {w1 w2 w3 w4 w5 : Value} {x : Nat} : WP V 104 34 [.ref x, w1, w2, w3, w4, w5] st t I L R Q = WP V 104 35 [.ref x, w1, w2, w3, w4, w5] (.ref x :: st) t I L R Q := wp_go rfl
theorem i104_35 {k : Nat} (h1 : k < t) (h2 : m_ob k 7 = true) : WP V 104 35 ls (.ref k :: st) t I L R Q = WP V 104 36 ls (m_rv (R k 0) :: st) t I L R Q := wp_getR rfl (by decide) h1 h2
theorem i104_36 {k : Nat} (h1 : k < t) (h2 : m_ob k 3 = true) : WP V 104 36 ls (.ref k :: st) t I L R Q = WP V 104 37 ls (m_rv (R k 3) :: st) t I L R Q := wp_getR rfl (by decide) h1 h2
theorem i104_37 {k : Nat} (h1 : k < t) (h2 : m_ob k 4 = true) : WP V 104 37 ls (.ref k :: st) t I L R Q = WP V 104 38 ls (m_rv (R k 0) :: st) t I L R Q := wp_getR rfl (by decide) h1 h2
theorem i104_38 {w0 w1 w2 w3 w5 : Value} {x : Int32} : WP V 104 38 [w0, w1, w2, w3, .int x, w5] st t I L R Q = WP V 104 39 [w0, w1, w2, w3, .int x, w5] (.int x :: st) t I L R Q := wp_go rfl
theorem i104_39 {k j : Nat} (h2 : m_ar k 2 2100 = true) (h1 : k < t) (h3 : j < 2100) : WP V 104 39 ls (.int (nI j) :: .ref k :: st) t I L R Q = WP V 104 40 ls (.int (I k j) :: st) t I L R Q := wp_iaload rfl (by decide) h1 h2 h3
theorem i104_40 {p : Int32} {w0 w1 w2 w3 w5 : Value} {x : Int32} : WP V 104 40 [w0, w1, w2, w3, .int p, w5] (.int x :: st) t I L R Q = WP V 104 41 [w0, w1, w2, w3, .int p, .int x] st t I L R Q := wp_go rfl
theorem i104_41 {w1 w2 w3 w4 w5 : Value} {x : Nat} : WP V 104 41 [.ref x, w1, w2, w3, w4, w5] st t I L R Q = WP V 104 42 [.ref x, w1, w2, w3, w4, w5] (.ref x :: st) t I L R Q := wp_go rfl
theorem i104_42 {k : Nat} (h1 : k < t) (h2 : m_ob k 7 = true) : WP V 104 42 ls (.ref k :: st) t I L R Q = WP V 104 43 ls (m_rv (R k 0) :: st) t I L R Q := wp_getR rfl (by decide) h1 h2
theorem i104_43 {k : Nat} (h1 : k < t) (h2 : m_ob k 3 = true) : WP V 104 43 ls (.ref k :: st) t I L R Q = WP V 104 44 ls (m_rv (R k 3) :: st) t I L R Q := wp_getR rfl (by decide) h1 h2
theorem i104_44 {k : Nat} (h1 : k < t) (h2 : m_ob k 4 = true) : WP V 104 44 ls (.ref k :: st) t I L R Q = WP V 104 45 ls (m_rv (R k 0) :: st) t I L R Q := wp_getR rfl (by decide) h1 h2
theorem i104_45 {w0 w1 w2 w3 w5 : Value} {x : Int32} : WP V 104 45 [w0, w1, w2, w3, .int x, w5] st t I L R Q = WP V 104 46 [w0, w1, w2, w3, .int x, w5] (.int x :: st) t I L R Q := wp_go rfl
theorem i104_46 {w0 w1 w2 w4 w5 : Value} {x : Int32} : WP V 104 46 [w0, w1, w2, .int x, w4, w5] st t I L R Q = WP V 104 47 [w0, w1, w2, .int x, w4, w5] (.int x :: st) t I L R Q := wp_go rfl
theorem i104_47 {k j : Nat} {x : Int32} (h2 : m_ar k 2 2100 = true) (h1 : k < t) (h3 : j < 2100) : WP V 104 47 ls (.int x :: .int (nI j) :: .ref k :: st) t I L R Q = WP V 104 48 ls st t (m_sc I k (m_sc (I k) j x)) L R Q := wp_iastore rfl (by decide) h1 h2 h3
theorem i104_48 {w0 w1 w2 w3 w4 : Value} {x : Int32} : WP V 104 48 [w0, w1, w2, w3, w4, .int x] st t I L R Q = WP V 104 49 [w0, w1, w2, w3, w4, .int x] (.int x :: st) t I L R Q := wp_go rfl
theorem i104_49 {x : Int32} : WP V 104 49 ls [.int x] t I L R Q = Q (some (.int x)) t I L R := wp_rti rfl rfl
-- TransactionCells.check()I
theorem i105_0 {x : Nat} : WP V 105 0 [.ref x] st t I L R Q = WP V 105 1 [.ref x] (.ref x :: st) t I L R Q := wp_go rfl
theorem i105_1 {k : Nat} (h1 : k < t) (h2 : m_ob k 7 = true) : WP V 105 1 ls (.ref k :: st) t I L R Q = WP V 105 2 ls (m_rv (R k 0) :: st) t I L R Q := wp_getR rfl (by decide) h1 h2
theorem i105_2 {k : Nat} (h1 : k < t) (h2 : m_ob k 3 = true) : WP V 105 2 ls (.ref k :: st) t I L R Q = WP V 105 3 ls (m_rv (R k 3) :: st) t I L R Q := wp_getR rfl (by decide) h1 h2
theorem i105_3 {k : Nat} (h1 : k < t) (h2 : m_ob k 4 = true) : WP V 105 3 ls (.ref k :: st) t I L R Q = WP V 105 4 ls (.int (I k 2) :: st) t I L R Q := wp_getI rfl (by decide) h1 h2
theorem i105_4  : WP V 105 4 ls st t I L R Q = WP V 105 5 ls (.int (nI 60) :: st) t I L R Q := wp_go rfl
theorem i105_5 {x y : Int32} : WP V 105 5 ls (.int y :: .int x :: st) t I L R Q = if x ≤ y then WP V 105 8 ls st t I L R Q else WP V 105 6 ls st t I L R Q := wp_br (c := m_cc .le x y) rfl rfl
theorem i105_6  : WP V 105 6 ls st t I L R Q = WP V 105 7 ls (.int (-103) :: st) t I L R Q := wp_go rfl
theorem i105_7 {x : Int32} : WP V 105 7 ls [.int x] t I L R Q = Q (some (.int x)) t I L R := wp_rti rfl rfl
theorem i105_8 {x : Nat} : WP V 105 8 [.ref x] st t I L R Q = WP V 105 9 [.ref x] (.ref x :: st) t I L R Q := wp_go rfl
theorem i105_9 {k : Nat} (h1 : k < t) (h2 : m_ob k 7 = true) : WP V 105 9 ls (.ref k :: st) t I L R Q = WP V 105 10 ls (m_rv (R k 0) :: st) t I L R Q := wp_getR rfl (by decide) h1 h2
theorem i105_10 {k : Nat} (h1 : k < t) (h2 : m_ob k 3 = true) : WP V 105 10 ls (.ref k :: st) t I L R Q = WP V 105 11 ls (m_rv (R k 3) :: st) t I L R Q := wp_getR rfl (by decide) h1 h2
theorem i105_11 {x : Nat} : WP V 105 11 [.ref x] st t I L R Q = WP V 105 12 [.ref x] (.ref x :: st) t I L R Q := wp_go rfl
theorem i105_12 {k : Nat} (h1 : k < t) (h2 : m_ob k 7 = true) : WP V 105 12 ls (.ref k :: st) t I L R Q = WP V 105 13 ls (m_rv (R k 0) :: st) t I L R Q := wp_getR rfl (by decide) h1 h2
theorem i105_13 {k : Nat} (h1 : k < t) (h2 : m_ob k 3 = true) : WP V 105 13 ls (.ref k :: st) t I L R Q = WP V 105 14 ls (m_rv (R k 0) :: st) t I L R Q := wp_getR rfl (by decide) h1 h2
theorem i105_14 {x0 : Nat} {x1 : Nat}  (h1 : x1 < t) (h2 : m_ob x1 4 = true) : WP V 105 14 ls [.ref x0, .ref x1] t I L R Q = WPC V 59 [.ref x1, .ref x0] 105 15 ls [] t I L R Q := wp_cls (wp_icv rfl rfl h1 h2) (by decide) (Nat.le_of_ble_eq_true rfl) rfl rfl (Nat.le_of_ble_eq_true rfl) (Nat.le_of_ble_eq_true rfl)
theorem i105_15 {x : Int32} : WP V 105 15 ls [.int x] t I L R Q = Q (some (.int x)) t I L R := wp_rti rfl rfl
-- TransactionCells.keep()I
theorem i106_0 {x : Nat} : WP V 106 0 [.ref x] st t I L R Q = WP V 106 1 [.ref x] (.ref x :: st) t I L R Q := wp_go rfl
theorem i106_1 {k : Nat} (h1 : k < t) (h2 : m_ob k 7 = true) : WP V 106 1 ls (.ref k :: st) t I L R Q = WP V 106 2 ls (m_rv (R k 1) :: st) t I L R Q := wp_getR rfl (by decide) h1 h2
theorem i106_2 {x : Nat} : WP V 106 2 [.ref x] st t I L R Q = WP V 106 3 [.ref x] (.ref x :: st) t I L R Q := wp_go rfl
theorem i106_3 {k : Nat} (h1 : k < t) (h2 : m_ob k 7 = true) : WP V 106 3 ls (.ref k :: st) t I L R Q = WP V 106 4 ls (m_rv (R k 0) :: st) t I L R Q := wp_getR rfl (by decide) h1 h2
theorem i106_4 {x0 : Nat} {x1 : Nat}  (h1 : x1 < t) (h2 : m_ob x1 3 = true) : WP V 106 4 ls [.ref x0, .ref x1] t I L R Q = WPC V 45 [.ref x1, .ref x0] 106 5 ls [] t I L R Q := wp_cls (wp_icv rfl rfl h1 h2) (by decide) (Nat.le_of_ble_eq_true rfl) rfl rfl (Nat.le_of_ble_eq_true rfl) (Nat.le_of_ble_eq_true rfl)
theorem i106_5 {x : Nat} : WP V 106 5 [.ref x] st t I L R Q = WP V 106 6 [.ref x] (.ref x :: st) t I L R Q := wp_go rfl
theorem i106_6  : WP V 106 6 ls st t I L R Q = WP V 106 7 ls (.int (nI 1) :: st) t I L R Q := wp_go rfl
theorem i106_7 {k : Nat} {x : Int32} (h1 : k < t) (h2 : m_ob k 7 = true) (h3 : m_01 x = true) : WP V 106 7 ls (.int x :: .ref k :: st) t I L R Q = WP V 106 8 ls st t (m_sc I k (m_sc (I k) 3 x)) L R Q := wp_putZ rfl (by decide) h1 h2 h3
theorem i106_8  : WP V 106 8 ls st t I L R Q = WP V 106 9 ls (.int (nI 0) :: st) t I L R Q := wp_go rfl
theorem i106_9 {x : Int32} : WP V 106 9 ls [.int x] t I L R Q = Q (some (.int x)) t I L R := wp_rti rfl rfl
-- TransactionCells.back()I
theorem i107_0 {x : Nat} : WP V 107 0 [.ref x] st t I L R Q = WP V 107 1 [.ref x] (.ref x :: st) t I L R Q := wp_go rfl
theorem i107_1 {k : Nat} (h1 : k < t) (h2 : m_ob k 7 = true) : WP V 107 1 ls (.ref k :: st) t I L R Q = WP V 107 2 ls (.int (I k 3) :: st) t I L R Q := wp_getI rfl (by decide) h1 h2
theorem i107_2 {x : Int32} : WP V 107 2 ls (.int x :: st) t I L R Q = if x = nI 0 then WP V 107 3 ls st t I L R Q else WP V 107 5 ls st t I L R Q := wp_brn (c := m_cc .ne x 0) rfl rfl
theorem i107_3  : WP V 107 3 ls st t I L R Q = WP V 107 4 ls (.int (-103) :: st) t I L R Q := wp_go rfl
theorem i107_4 {x : Int32} : WP V 107 4 ls [.int x] t I L R Q = Q (some (.int x)) t I L R := wp_rti rfl rfl
theorem i107_5 {x : Nat} : WP V 107 5 [.ref x] st t I L R Q = WP V 107 6 [.ref x] (.ref x :: st) t I L R Q := wp_go rfl
theorem i107_6 {k : Nat} (h1 : k < t) (h2 : m_ob k 7 = true) : WP V 107 6 ls (.ref k :: st) t I L R Q = WP V 107 7 ls (m_rv (R k 0) :: st) t I L R Q := wp_getR rfl (by decide) h1 h2
theorem i107_7 {x : Nat} : WP V 107 7 [.ref x] st t I L R Q = WP V 107 8 [.ref x] (.ref x :: st) t I L R Q := wp_go rfl
theorem i107_8 {k : Nat} (h1 : k < t) (h2 : m_ob k 7 = true) : WP V 107 8 ls (.ref k :: st) t I L R Q = WP V 107 9 ls (m_rv (R k 1) :: st) t I L R Q := wp_getR rfl (by decide) h1 h2
theorem i107_9 {x0 : Nat} {x1 : Nat}  (h1 : x1 < t) (h2 : m_ob x1 3 = true) : WP V 107 9 ls [.ref x0, .ref x1] t I L R Q = WPC V 45 [.ref x1, .ref x0] 107 10 ls [] t I L R Q := wp_cls (wp_icv rfl rfl h1 h2) (by decide) (Nat.le_of_ble_eq_true rfl) rfl rfl (Nat.le_of_ble_eq_true rfl) (Nat.le_of_ble_eq_true rfl)
theorem i107_10  : WP V 107 10 ls st t I L R Q = WP V 107 11 ls (.int (nI 0) :: st) t I L R Q := wp_go rfl
theorem i107_11 {x : Int32} : WP V 107 11 ls [.int x] t I L R Q = Q (some (.int x)) t I L R := wp_rti rfl rfl
-- TransactionCells.digest()J
theorem i108_0  : WP V 108 0 ls st t I L R Q = WP V 108 1 ls (.long (lN 41) :: st) t I L R Q := wp_go rfl
theorem i108_1 {p : Nat} {w1 w2 w3 w4 : Value} {x : Int64} : WP V 108 1 [.ref p, w1, w2, w3, w4] (.long x :: st) t I L R Q = WP V 108 2 [.ref p, .long x, m_u, w3, w4] st t I L R Q := wp_go rfl
theorem i108_2  : WP V 108 2 ls st t I L R Q = WP V 108 3 ls (.int (nI 0) :: st) t I L R Q := wp_go rfl
theorem i108_3 {w0 w1 w3 w4 : Value} {x : Int32} : WP V 108 3 [w0, w1, m_u, w3, w4] (.int x :: st) t I L R Q = WP V 108 4 [w0, w1, m_u, .int x, w4] st t I L R Q := wp_go rfl
theorem i108_4 {w0 w1 w2 w4 : Value} {x : Int32} : WP V 108 4 [w0, w1, w2, .int x, w4] st t I L R Q = WP V 108 5 [w0, w1, w2, .int x, w4] (.int x :: st) t I L R Q := wp_go rfl
theorem i108_5  : WP V 108 5 ls st t I L R Q = WP V 108 6 ls (.int (nI 8) :: st) t I L R Q := wp_go rfl
theorem i108_6 {x y : Int32} : WP V 108 6 ls (.int y :: .int x :: st) t I L R Q = if y ≤ x then WP V 108 26 ls st t I L R Q else WP V 108 7 ls st t I L R Q := wp_br (c := m_cc .ge x y) rfl rfl
theorem i108_7  : WP V 108 7 ls st t I L R Q = WP V 108 8 ls (.int (nI 0) :: st) t I L R Q := wp_go rfl
theorem i108_8 {p : Int32} {w0 w1 w2 w4 : Value} {x : Int32} : WP V 108 8 [w0, w1, w2, .int p, w4] (.int x :: st) t I L R Q = WP V 108 9 [w0, w1, w2, .int p, .int x] st t I L R Q := wp_go rfl
theorem i108_9 {w0 w1 w2 w3 : Value} {x : Int32} : WP V 108 9 [w0, w1, w2, w3, .int x] st t I L R Q = WP V 108 10 [w0, w1, w2, w3, .int x] (.int x :: st) t I L R Q := wp_go rfl
theorem i108_10  : WP V 108 10 ls st t I L R Q = WP V 108 11 ls (.int (nI 14) :: st) t I L R Q := wp_go rfl
theorem i108_11 {x y : Int32} : WP V 108 11 ls (.int y :: .int x :: st) t I L R Q = if y ≤ x then WP V 108 24 ls st t I L R Q else WP V 108 12 ls st t I L R Q := wp_br (c := m_cc .ge x y) rfl rfl
theorem i108_12  : WP V 108 12 ls st t I L R Q = WP V 108 13 ls (.long (lN 31) :: st) t I L R Q := wp_go rfl
theorem i108_13 {w0 w2 w3 w4 : Value} {x : Int64} : WP V 108 13 [w0, .long x, w2, w3, w4] st t I L R Q = WP V 108 14 [w0, .long x, w2, w3, w4] (.long x :: st) t I L R Q := wp_go rfl
theorem i108_14 {x y : Int64} : WP V 108 14 ls (.long y :: .long x :: st) t I L R Q = WP V 108 15 ls (.long (x * y) :: st) t I L R Q := wp_go rfl
theorem i108_15 {w1 w2 w3 w4 : Value} {x : Nat} : WP V 108 15 [.ref x, w1, w2, w3, w4] st t I L R Q = WP V 108 16 [.ref x, w1, w2, w3, w4] (.ref x :: st) t I L R Q := wp_go rfl
theorem i108_16 {w0 w1 w2 w4 : Value} {x : Int32} : WP V 108 16 [w0, w1, w2, .int x, w4] st t I L R Q = WP V 108 17 [w0, w1, w2, .int x, w4] (.int x :: st) t I L R Q := wp_go rfl
theorem i108_17 {w0 w1 w2 w3 : Value} {x : Int32} : WP V 108 17 [w0, w1, w2, w3, .int x] st t I L R Q = WP V 108 18 [w0, w1, w2, w3, .int x] (.int x :: st) t I L R Q := wp_go rfl
theorem i108_18 {x0 : Int32} {x1 : Int32} {x2 : Nat} {r0 : Int64} (h1 : x2 < t) (h2 : m_ob x2 7 = true) : WP V 108 18 ls [.int x0, .int x1, .ref x2, .long r0] t I L R Q = WPC V 101 [.ref x2, .int x1, .int x0] 108 19 ls [.long r0] t I L R Q := wp_cls (wp_icv rfl rfl h1 h2) (by decide) (Nat.le_of_ble_eq_true rfl) rfl rfl (Nat.le_of_ble_eq_true rfl) (Nat.le_of_ble_eq_true rfl)
theorem i108_19 {x : Int32} : WP V 108 19 ls (.int x :: st) t I L R Q = WP V 108 20 ls (.long x.toInt64 :: st) t I L R Q := wp_go rfl
theorem i108_20 {x y : Int64} : WP V 108 20 ls (.long y :: .long x :: st) t I L R Q = WP V 108 21 ls (.long (x + y) :: st) t I L R Q := wp_go rfl
theorem i108_21 {p : Nat} {w1 w2 w3 w4 : Value} {x : Int64} : WP V 108 21 [.ref p, w1, w2, w3, w4] (.long x :: st) t I L R Q = WP V 108 22 [.ref p, .long x, m_u, w3, w4] st t I L R Q := wp_go rfl
theorem i108_22 {p : Int32} {w0 w1 w2 : Value} {x : Int32} : WP V 108 22 [w0, w1, w2, .int p, .int x] st t I L R Q = WP V 108 23 [w0, w1, w2, .int p, .int (x + (nI 1))] st t I L R Q := wp_go rfl
theorem i108_23  : WP V 108 23 ls st t I L R Q = WP V 108 9 ls st t I L R Q := wp_go rfl
theorem i108_24 {w0 w1 w4 : Value} {x : Int32} : WP V 108 24 [w0, w1, m_u, .int x, w4] st t I L R Q = WP V 108 25 [w0, w1, m_u, .int (x + (nI 1)), w4] st t I L R Q := wp_go rfl
theorem i108_25  : WP V 108 25 ls st t I L R Q = WP V 108 4 ls st t I L R Q := wp_go rfl
theorem i108_26  : WP V 108 26 ls st t I L R Q = WP V 108 27 ls (.int (nI 0) :: st) t I L R Q := wp_go rfl
theorem i108_27 {w0 w1 w3 w4 : Value} {x : Int32} : WP V 108 27 [w0, w1, m_u, w3, w4] (.int x :: st) t I L R Q = WP V 108 28 [w0, w1, m_u, .int x, w4] st t I L R Q := wp_go rfl
theorem i108_28 {w0 w1 w2 w4 : Value} {x : Int32} : WP V 108 28 [w0, w1, w2, .int x, w4] st t I L R Q = WP V 108 29 [w0, w1, w2, .int x, w4] (.int x :: st) t I L R Q := wp_go rfl
theorem i108_29  : WP V 108 29 ls st t I L R Q = WP V 108 30 ls (.int (nI 3) :: st) t I L R Q := wp_go rfl
theorem i108_30 {x y : Int32} : WP V 108 30 ls (.int y :: .int x :: st) t I L R Q = if y ≤ x then WP V 108 50 ls st t I L R Q else WP V 108 31 ls st t I L R Q := wp_br (c := m_cc .ge x y) rfl rfl
theorem i108_31  : WP V 108 31 ls st t I L R Q = WP V 108 32 ls (.int (nI 0) :: st) t I L R Q := wp_go rfl
theorem i108_32 {p : Int32} {w0 w1 w2 w4 : Value} {x : Int32} : WP V 108 32 [w0, w1, w2, .int p, w4] (.int x :: st) t I L R Q = WP V 108 33 [w0, w1, w2, .int p, .int x] st t I L R Q := wp_go rfl
theorem i108_33 {w0 w1 w2 w3 : Value} {x : Int32} : WP V 108 33 [w0, w1, w2, w3, .int x] st t I L R Q = WP V 108 34 [w0, w1, w2, w3, .int x] (.int x :: st) t I L R Q := wp_go rfl
theorem i108_34  : WP V 108 34 ls st t I L R Q = WP V 108 35 ls (.int (nI 12) :: st) t I L R Q := wp_go rfl
theorem i108_35 {x y : Int32} : WP V 108 35 ls (.int y :: .int x :: st) t I L R Q = if y ≤ x then WP V 108 48 ls st t I L R Q else WP V 108 36 ls st t I L R Q := wp_br (c := m_cc .ge x y) rfl rfl
theorem i108_36  : WP V 108 36 ls st t I L R Q = WP V 108 37 ls (.long (lN 31) :: st) t I L R Q := wp_go rfl
theorem i108_37 {w0 w2 w3 w4 : Value} {x : Int64} : WP V 108 37 [w0, .long x, w2, w3, w4] st t I L R Q = WP V 108 38 [w0, .long x, w2, w3, w4] (.long x :: st) t I L R Q := wp_go rfl
theorem i108_38 {x y : Int64} : WP V 108 38 ls (.long y :: .long x :: st) t I L R Q = WP V 108 39 ls (.long (x * y) :: st) t I L R Q := wp_go rfl
theorem i108_39 {w1 w2 w3 w4 : Value} {x : Nat} : WP V 108 39 [.ref x, w1, w2, w3, w4] st t I L R Q = WP V 108 40 [.ref x, w1, w2, w3, w4] (.ref x :: st) t I L R Q := wp_go rfl
theorem i108_40 {w0 w1 w2 w4 : Value} {x : Int32} : WP V 108 40 [w0, w1, w2, .int x, w4] st t I L R Q = WP V 108 41 [w0, w1, w2, .int x, w4] (.int x :: st) t I L R Q := wp_go rfl
theorem i108_41 {w0 w1 w2 w3 : Value} {x : Int32} : WP V 108 41 [w0, w1, w2, w3, .int x] st t I L R Q = WP V 108 42 [w0, w1, w2, w3, .int x] (.int x :: st) t I L R Q := wp_go rfl
theorem i108_42 {x0 : Int32} {x1 : Int32} {x2 : Nat} {r0 : Int64} (h1 : x2 < t) (h2 : m_ob x2 7 = true) : WP V 108 42 ls [.int x0, .int x1, .ref x2, .long r0] t I L R Q = WPC V 100 [.ref x2, .int x1, .int x0] 108 43 ls [.long r0] t I L R Q := wp_cls (wp_icv rfl rfl h1 h2) (by decide) (Nat.le_of_ble_eq_true rfl) rfl rfl (Nat.le_of_ble_eq_true rfl) (Nat.le_of_ble_eq_true rfl)
theorem i108_43 {x : Int32} : WP V 108 43 ls (.int x :: st) t I L R Q = WP V 108 44 ls (.long x.toInt64 :: st) t I L R Q := wp_go rfl
theorem i108_44 {x y : Int64} : WP V 108 44 ls (.long y :: .long x :: st) t I L R Q = WP V 108 45 ls (.long (x + y) :: st) t I L R Q := wp_go rfl
theorem i108_45 {p : Nat} {w1 w2 w3 w4 : Value} {x : Int64} : WP V 108 45 [.ref p, w1, w2, w3, w4] (.long x :: st) t I L R Q = WP V 108 46 [.ref p, .long x, m_u, w3, w4] st t I L R Q := wp_go rfl
theorem i108_46 {p : Int32} {w0 w1 w2 : Value} {x : Int32} : WP V 108 46 [w0, w1, w2, .int p, .int x] st t I L R Q = WP V 108 47 [w0, w1, w2, .int p, .int (x + (nI 1))] st t I L R Q := wp_go rfl
theorem i108_47  : WP V 108 47 ls st t I L R Q = WP V 108 33 ls st t I L R Q := wp_go rfl
theorem i108_48 {w0 w1 w4 : Value} {x : Int32} : WP V 108 48 [w0, w1, m_u, .int x, w4] st t I L R Q = WP V 108 49 [w0, w1, m_u, .int (x + (nI 1)), w4] st t I L R Q := wp_go rfl
theorem i108_49  : WP V 108 49 ls st t I L R Q = WP V 108 28 ls st t I L R Q := wp_go rfl
theorem i108_50  : WP V 108 50 ls st t I L R Q = WP V 108 51 ls (.int (nI 0) :: st) t I L R Q := wp_go rfl
theorem i108_51 {w0 w1 w3 w4 : Value} {x : Int32} : WP V 108 51 [w0, w1, m_u, w3, w4] (.int x :: st) t I L R Q = WP V 108 52 [w0, w1, m_u, .int x, w4] st t I L R Q := wp_go rfl
theorem i108_52 {w0 w1 w2 w4 : Value} {x : Int32} : WP V 108 52 [w0, w1, w2, .int x, w4] st t I L R Q = WP V 108 53 [w0, w1, w2, .int x, w4] (.int x :: st) t I L R Q := wp_go rfl
theorem i108_53  : WP V 108 53 ls st t I L R Q = WP V 108 54 ls (.int (nI 8) :: st) t I L R Q := wp_go rfl
theorem i108_54 {x y : Int32} : WP V 108 54 ls (.int y :: .int x :: st) t I L R Q = if y ≤ x then WP V 108 66 ls st t I L R Q else WP V 108 55 ls st t I L R Q := wp_br (c := m_cc .ge x y) rfl rfl
theorem i108_55  : WP V 108 55 ls st t I L R Q = WP V 108 56 ls (.long (lN 31) :: st) t I L R Q := wp_go rfl
theorem i108_56 {w0 w2 w3 w4 : Value} {x : Int64} : WP V 108 56 [w0, .long x, w2, w3, w4] st t I L R Q = WP V 108 57 [w0, .long x, w2, w3, w4] (.long x :: st) t I L R Q := wp_go rfl
theorem i108_57 {x y : Int64} : WP V 108 57 ls (.long y :: .long x :: st) t I L R Q = WP V 108 58 ls (.long (x * y) :: st) t I L R Q := wp_go rfl
theorem i108_58 {w1 w2 w3 w4 : Value} {x : Nat} : WP V 108 58 [.ref x, w1, w2, w3, w4] st t I L R Q = WP V 108 59 [.ref x, w1, w2, w3, w4] (.ref x :: st) t I L R Q := wp_go rfl
theorem i108_59 {w0 w1 w2 w4 : Value} {x : Int32} : WP V 108 59 [w0, w1, w2, .int x, w4] st t I L R Q = WP V 108 60 [w0, w1, w2, .int x, w4] (.int x :: st) t I L R Q := wp_go rfl
theorem i108_60 {x0 : Int32} {x1 : Nat} {r0 : Int64} (h1 : x1 < t) (h2 : m_ob x1 7 = true) : WP V 108 60 ls [.int x0, .ref x1, .long r0] t I L R Q = WPC V 102 [.ref x1, .int x0] 108 61 ls [.long r0] t I L R Q := wp_cls (wp_icv rfl rfl h1 h2) (by decide) (Nat.le_of_ble_eq_true rfl) rfl rfl (Nat.le_of_ble_eq_true rfl) (Nat.le_of_ble_eq_true rfl)
theorem i108_61 {x : Int32} : WP V 108 61 ls (.int x :: st) t I L R Q = WP V 108 62 ls (.long x.toInt64 :: st) t I L R Q := wp_go rfl
theorem i108_62 {x y : Int64} : WP V 108 62 ls (.long y :: .long x :: st) t I L R Q = WP V 108 63 ls (.long (x + y) :: st) t I L R Q := wp_go rfl
theorem i108_63 {p : Nat} {w1 w2 w3 w4 : Value} {x : Int64} : WP V 108 63 [.ref p, w1, w2, w3, w4] (.long x :: st) t I L R Q = WP V 108 64 [.ref p, .long x, m_u, w3, w4] st t I L R Q := wp_go rfl
theorem i108_64 {w0 w1 w4 : Value} {x : Int32} : WP V 108 64 [w0, w1, m_u, .int x, w4] st t I L R Q = WP V 108 65 [w0, w1, m_u, .int (x + (nI 1)), w4] st t I L R Q := wp_go rfl
theorem i108_65  : WP V 108 65 ls st t I L R Q = WP V 108 52 ls st t I L R Q := wp_go rfl
theorem i108_66 {w0 w2 w3 w4 : Value} {x : Int64} : WP V 108 66 [w0, .long x, w2, w3, w4] st t I L R Q = WP V 108 67 [w0, .long x, w2, w3, w4] (.long x :: st) t I L R Q := wp_go rfl
theorem i108_67 {x : Int64} : WP V 108 67 ls [.long x] t I L R Q = Q (some (.long x)) t I L R := wp_rtl rfl rfl
-- TransactionCells.isIn(II)Z
theorem i109_0 {w1 : Value} {x : Int32} : WP V 109 0 [.int x, w1] st t I L R Q = WP V 109 1 [.int x, w1] (.int x :: st) t I L R Q := wp_go rfl
theorem i109_1 {x : Int32} : WP V 109 1 ls (.int x :: st) t I L R Q = if x < nI 0 then WP V 109 7 ls st t I L R Q else WP V 109 2 ls st t I L R Q := wp_br (c := m_cc .lt x 0) rfl rfl
theorem i109_2 {w1 : Value} {x : Int32} : WP V 109 2 [.int x, w1] st t I L R Q = WP V 109 3 [.int x, w1] (.int x :: st) t I L R Q := wp_go rfl
theorem i109_3 {w0 : Value} {x : Int32} : WP V 109 3 [w0, .int x] st t I L R Q = WP V 109 4 [w0, .int x] (.int x :: st) t I L R Q := wp_go rfl
theorem i109_4 {x y : Int32} : WP V 109 4 ls (.int y :: .int x :: st) t I L R Q = if y ≤ x then WP V 109 7 ls st t I L R Q else WP V 109 5 ls st t I L R Q := wp_br (c := m_cc .ge x y) rfl rfl
theorem i109_5  : WP V 109 5 ls st t I L R Q = WP V 109 6 ls (.int (nI 1) :: st) t I L R Q := wp_go rfl
theorem i109_6  : WP V 109 6 ls st t I L R Q = WP V 109 8 ls st t I L R Q := wp_go rfl
theorem i109_7  : WP V 109 7 ls st t I L R Q = WP V 109 8 ls (.int (nI 0) :: st) t I L R Q := wp_go rfl
theorem i109_8 {x : Int32} (h : m_01 x = true) : WP V 109 8 ls [.int x] t I L R Q = Q (some (.int x)) t I L R := wp_rtz rfl rfl h
end
