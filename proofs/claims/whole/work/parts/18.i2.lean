section
variable {V : m_V} {t : Nat} {I : m_I} {L : m_L} {R : m_R} {Q : Option Value → Nat → m_I → m_L → m_R → Prop} {ls st : List Value}
-- TransactionCellsModel.<init>()V
theorem i110_0 {w1 : Value} {x : Nat} : WP V 110 0 [.ref x, w1] st t I L R Q = WP V 110 1 [.ref x, w1] (.ref x :: st) t I L R Q := wp_go rfl
theorem i110_1 {k : Nat}  : WP V 110 1 ls [.ref k] t I L R Q = WP V 110 2 ls [] t I L R Q := wp_objI rfl (Nat.le_of_ble_eq_true rfl)
theorem i110_2 {w1 : Value} {x : Nat} : WP V 110 2 [.ref x, w1] st t I L R Q = WP V 110 3 [.ref x, w1] (.ref x :: st) t I L R Q := wp_go rfl
theorem i110_3  : WP V 110 3 ls st t I L R Q = WP V 110 4 ls (.int (nI 612) :: st) t I L R Q := wp_go rfl
theorem i110_4 {N : Nat} (h : m_ar t 2 N = true) : WP V 110 4 ls (.int (nI N) :: st) t I L R Q = WP V 110 5 ls (.ref t :: st) (t + 1) (m_sc I t (fun _ => 0)) (m_sc L t (fun _ => 0)) R Q := wp_newi rfl h
theorem i110_5 {k x : Nat} (h1 : k < t) (h2 : m_ob k 8 = true) : WP V 110 5 ls (.ref x :: .ref k :: st) t I L R Q = WP V 110 6 ls st t I L (m_sc R k (m_sc (R k) 0 (some x))) Q := wp_putR rfl (by decide) h1 h2
theorem i110_5n {k : Nat} (h1 : k < t) (h2 : m_ob k 8 = true) : WP V 110 5 ls (.null :: .ref k :: st) t I L R Q = WP V 110 6 ls st t I L (m_sc R k (m_sc (R k) 0 none)) Q := wp_putN rfl (by decide) h1 h2
theorem i110_6 {w1 : Value} {x : Nat} : WP V 110 6 [.ref x, w1] st t I L R Q = WP V 110 7 [.ref x, w1] (.ref x :: st) t I L R Q := wp_go rfl
theorem i110_7  : WP V 110 7 ls st t I L R Q = WP V 110 8 ls (.int (nI 6) :: st) t I L R Q := wp_go rfl
theorem i110_8 {N : Nat} (h : m_ar t 2 N = true) : WP V 110 8 ls (.int (nI N) :: st) t I L R Q = WP V 110 9 ls (.ref t :: st) (t + 1) (m_sc I t (fun _ => 0)) (m_sc L t (fun _ => 0)) R Q := wp_newi rfl h
theorem i110_9 {k x : Nat} (h1 : k < t) (h2 : m_ob k 8 = true) : WP V 110 9 ls (.ref x :: .ref k :: st) t I L R Q = WP V 110 10 ls st t I L (m_sc R k (m_sc (R k) 6 (some x))) Q := wp_putR rfl (by decide) h1 h2
theorem i110_9n {k : Nat} (h1 : k < t) (h2 : m_ob k 8 = true) : WP V 110 9 ls (.null :: .ref k :: st) t I L R Q = WP V 110 10 ls st t I L (m_sc R k (m_sc (R k) 6 none)) Q := wp_putN rfl (by decide) h1 h2
theorem i110_10 {w1 : Value} {x : Nat} : WP V 110 10 [.ref x, w1] st t I L R Q = WP V 110 11 [.ref x, w1] (.ref x :: st) t I L R Q := wp_go rfl
theorem i110_11  : WP V 110 11 ls st t I L R Q = WP V 110 12 ls (.int (nI 240) :: st) t I L R Q := wp_go rfl
theorem i110_12 {N : Nat} (h : m_ar t 2 N = true) : WP V 110 12 ls (.int (nI N) :: st) t I L R Q = WP V 110 13 ls (.ref t :: st) (t + 1) (m_sc I t (fun _ => 0)) (m_sc L t (fun _ => 0)) R Q := wp_newi rfl h
theorem i110_13 {k x : Nat} (h1 : k < t) (h2 : m_ob k 8 = true) : WP V 110 13 ls (.ref x :: .ref k :: st) t I L R Q = WP V 110 14 ls st t I L (m_sc R k (m_sc (R k) 7 (some x))) Q := wp_putR rfl (by decide) h1 h2
theorem i110_13n {k : Nat} (h1 : k < t) (h2 : m_ob k 8 = true) : WP V 110 13 ls (.null :: .ref k :: st) t I L R Q = WP V 110 14 ls st t I L (m_sc R k (m_sc (R k) 7 none)) Q := wp_putN rfl (by decide) h1 h2
theorem i110_14 {w1 : Value} {x : Nat} : WP V 110 14 [.ref x, w1] st t I L R Q = WP V 110 15 [.ref x, w1] (.ref x :: st) t I L R Q := wp_go rfl
theorem i110_15  : WP V 110 15 ls st t I L R Q = WP V 110 16 ls (.int (nI 240) :: st) t I L R Q := wp_go rfl
theorem i110_16 {N : Nat} (h : m_ar t 2 N = true) : WP V 110 16 ls (.int (nI N) :: st) t I L R Q = WP V 110 17 ls (.ref t :: st) (t + 1) (m_sc I t (fun _ => 0)) (m_sc L t (fun _ => 0)) R Q := wp_newi rfl h
theorem i110_17 {k x : Nat} (h1 : k < t) (h2 : m_ob k 8 = true) : WP V 110 17 ls (.ref x :: .ref k :: st) t I L R Q = WP V 110 18 ls st t I L (m_sc R k (m_sc (R k) 8 (some x))) Q := wp_putR rfl (by decide) h1 h2
theorem i110_17n {k : Nat} (h1 : k < t) (h2 : m_ob k 8 = true) : WP V 110 17 ls (.null :: .ref k :: st) t I L R Q = WP V 110 18 ls st t I L (m_sc R k (m_sc (R k) 8 none)) Q := wp_putN rfl (by decide) h1 h2
theorem i110_18 {w1 : Value} {x : Nat} : WP V 110 18 [.ref x, w1] st t I L R Q = WP V 110 19 [.ref x, w1] (.ref x :: st) t I L R Q := wp_go rfl
theorem i110_19  : WP V 110 19 ls st t I L R Q = WP V 110 20 ls (.int (nI 240) :: st) t I L R Q := wp_go rfl
theorem i110_20 {N : Nat} (h : m_ar t 2 N = true) : WP V 110 20 ls (.int (nI N) :: st) t I L R Q = WP V 110 21 ls (.ref t :: st) (t + 1) (m_sc I t (fun _ => 0)) (m_sc L t (fun _ => 0)) R Q := wp_newi rfl h
theorem i110_21 {k x : Nat} (h1 : k < t) (h2 : m_ob k 8 = true) : WP V 110 21 ls (.ref x :: .ref k :: st) t I L R Q = WP V 110 22 ls st t I L (m_sc R k (m_sc (R k) 9 (some x))) Q := wp_putR rfl (by decide) h1 h2
theorem i110_21n {k : Nat} (h1 : k < t) (h2 : m_ob k 8 = true) : WP V 110 21 ls (.null :: .ref k :: st) t I L R Q = WP V 110 22 ls st t I L (m_sc R k (m_sc (R k) 9 none)) Q := wp_putN rfl (by decide) h1 h2
theorem i110_22 {w1 : Value} {x : Nat} : WP V 110 22 [.ref x, w1] st t I L R Q = WP V 110 23 [.ref x, w1] (.ref x :: st) t I L R Q := wp_go rfl
theorem i110_23  : WP V 110 23 ls st t I L R Q = WP V 110 24 ls (.int (nI 240) :: st) t I L R Q := wp_go rfl
theorem i110_24 {N : Nat} (h : m_ar t 2 N = true) : WP V 110 24 ls (.int (nI N) :: st) t I L R Q = WP V 110 25 ls (.ref t :: st) (t + 1) (m_sc I t (fun _ => 0)) (m_sc L t (fun _ => 0)) R Q := wp_newi rfl h
theorem i110_25 {k x : Nat} (h1 : k < t) (h2 : m_ob k 8 = true) : WP V 110 25 ls (.ref x :: .ref k :: st) t I L R Q = WP V 110 26 ls st t I L (m_sc R k (m_sc (R k) 10 (some x))) Q := wp_putR rfl (by decide) h1 h2
theorem i110_25n {k : Nat} (h1 : k < t) (h2 : m_ob k 8 = true) : WP V 110 25 ls (.null :: .ref k :: st) t I L R Q = WP V 110 26 ls st t I L (m_sc R k (m_sc (R k) 10 none)) Q := wp_putN rfl (by decide) h1 h2
theorem i110_26 {w1 : Value} {x : Nat} : WP V 110 26 [.ref x, w1] st t I L R Q = WP V 110 27 [.ref x, w1] (.ref x :: st) t I L R Q := wp_go rfl
theorem i110_27  : WP V 110 27 ls st t I L R Q = WP V 110 28 ls (.int (nI 6) :: st) t I L R Q := wp_go rfl
theorem i110_28 {N : Nat} (h : m_ar t 3 N = true) : WP V 110 28 ls (.int (nI N) :: st) t I L R Q = WP V 110 29 ls (.ref t :: st) (t + 1) (m_sc I t (fun _ => 0)) (m_sc L t (fun _ => 0)) R Q := wp_newz rfl h
theorem i110_29 {k x : Nat} (h1 : k < t) (h2 : m_ob k 8 = true) : WP V 110 29 ls (.ref x :: .ref k :: st) t I L R Q = WP V 110 30 ls st t I L (m_sc R k (m_sc (R k) 11 (some x))) Q := wp_putR rfl (by decide) h1 h2
theorem i110_29n {k : Nat} (h1 : k < t) (h2 : m_ob k 8 = true) : WP V 110 29 ls (.null :: .ref k :: st) t I L R Q = WP V 110 30 ls st t I L (m_sc R k (m_sc (R k) 11 none)) Q := wp_putN rfl (by decide) h1 h2
theorem i110_30 {w1 : Value} {x : Nat} : WP V 110 30 [.ref x, w1] st t I L R Q = WP V 110 31 [.ref x, w1] (.ref x :: st) t I L R Q := wp_go rfl
theorem i110_31  : WP V 110 31 ls st t I L R Q = WP V 110 32 ls (.int (nI 6) :: st) t I L R Q := wp_go rfl
theorem i110_32 {N : Nat} (h : m_ar t 2 N = true) : WP V 110 32 ls (.int (nI N) :: st) t I L R Q = WP V 110 33 ls (.ref t :: st) (t + 1) (m_sc I t (fun _ => 0)) (m_sc L t (fun _ => 0)) R Q := wp_newi rfl h
theorem i110_33 {k x : Nat} (h1 : k < t) (h2 : m_ob k 8 = true) : WP V 110 33 ls (.ref x :: .ref k :: st) t I L R Q = WP V 110 34 ls st t I L (m_sc R k (m_sc (R k) 12 (some x))) Q := wp_putR rfl (by decide) h1 h2
theorem i110_33n {k : Nat} (h1 : k < t) (h2 : m_ob k 8 = true) : WP V 110 33 ls (.null :: .ref k :: st) t I L R Q = WP V 110 34 ls st t I L (m_sc R k (m_sc (R k) 12 none)) Q := wp_putN rfl (by decide) h1 h2
theorem i110_34 {w1 : Value} {x : Nat} : WP V 110 34 [.ref x, w1] st t I L R Q = WP V 110 35 [.ref x, w1] (.ref x :: st) t I L R Q := wp_go rfl
theorem i110_35  : WP V 110 35 ls st t I L R Q = WP V 110 36 ls (.int (nI 6) :: st) t I L R Q := wp_go rfl
theorem i110_36 {N : Nat} (h : m_ar t 2 N = true) : WP V 110 36 ls (.int (nI N) :: st) t I L R Q = WP V 110 37 ls (.ref t :: st) (t + 1) (m_sc I t (fun _ => 0)) (m_sc L t (fun _ => 0)) R Q := wp_newi rfl h
theorem i110_37 {k x : Nat} (h1 : k < t) (h2 : m_ob k 8 = true) : WP V 110 37 ls (.ref x :: .ref k :: st) t I L R Q = WP V 110 38 ls st t I L (m_sc R k (m_sc (R k) 13 (some x))) Q := wp_putR rfl (by decide) h1 h2
theorem i110_37n {k : Nat} (h1 : k < t) (h2 : m_ob k 8 = true) : WP V 110 37 ls (.null :: .ref k :: st) t I L R Q = WP V 110 38 ls st t I L (m_sc R k (m_sc (R k) 13 none)) Q := wp_putN rfl (by decide) h1 h2
theorem i110_38 {w1 : Value} {x : Nat} : WP V 110 38 [.ref x, w1] st t I L R Q = WP V 110 39 [.ref x, w1] (.ref x :: st) t I L R Q := wp_go rfl
theorem i110_39  : WP V 110 39 ls st t I L R Q = WP V 110 40 ls (.int (nI 96) :: st) t I L R Q := wp_go rfl
theorem i110_40 {N : Nat} (h : m_ar t 4 N = true) : WP V 110 40 ls (.int (nI N) :: st) t I L R Q = WP V 110 41 ls (.ref t :: st) (t + 1) (m_sc I t (fun _ => 0)) (m_sc L t (fun _ => 0)) R Q := wp_newl rfl h
theorem i110_41 {k x : Nat} (h1 : k < t) (h2 : m_ob k 8 = true) : WP V 110 41 ls (.ref x :: .ref k :: st) t I L R Q = WP V 110 42 ls st t I L (m_sc R k (m_sc (R k) 14 (some x))) Q := wp_putR rfl (by decide) h1 h2
theorem i110_41n {k : Nat} (h1 : k < t) (h2 : m_ob k 8 = true) : WP V 110 41 ls (.null :: .ref k :: st) t I L R Q = WP V 110 42 ls st t I L (m_sc R k (m_sc (R k) 14 none)) Q := wp_putN rfl (by decide) h1 h2
theorem i110_42 {w1 : Value} {x : Nat} : WP V 110 42 [.ref x, w1] st t I L R Q = WP V 110 43 [.ref x, w1] (.ref x :: st) t I L R Q := wp_go rfl
theorem i110_43  : WP V 110 43 ls st t I L R Q = WP V 110 44 ls (.int (nI 8) :: st) t I L R Q := wp_go rfl
theorem i110_44 {N : Nat} (h : m_ar t 2 N = true) : WP V 110 44 ls (.int (nI N) :: st) t I L R Q = WP V 110 45 ls (.ref t :: st) (t + 1) (m_sc I t (fun _ => 0)) (m_sc L t (fun _ => 0)) R Q := wp_newi rfl h
theorem i110_45 {k x : Nat} (h1 : k < t) (h2 : m_ob k 8 = true) : WP V 110 45 ls (.ref x :: .ref k :: st) t I L R Q = WP V 110 46 ls st t I L (m_sc R k (m_sc (R k) 15 (some x))) Q := wp_putR rfl (by decide) h1 h2
theorem i110_45n {k : Nat} (h1 : k < t) (h2 : m_ob k 8 = true) : WP V 110 45 ls (.null :: .ref k :: st) t I L R Q = WP V 110 46 ls st t I L (m_sc R k (m_sc (R k) 15 none)) Q := wp_putN rfl (by decide) h1 h2
theorem i110_46 {w1 : Value} {x : Nat} : WP V 110 46 [.ref x, w1] st t I L R Q = WP V 110 47 [.ref x, w1] (.ref x :: st) t I L R Q := wp_go rfl
theorem i110_47  : WP V 110 47 ls st t I L R Q = WP V 110 48 ls (.int (nI 8) :: st) t I L R Q := wp_go rfl
theorem i110_48 {N : Nat} (h : m_ar t 2 N = true) : WP V 110 48 ls (.int (nI N) :: st) t I L R Q = WP V 110 49 ls (.ref t :: st) (t + 1) (m_sc I t (fun _ => 0)) (m_sc L t (fun _ => 0)) R Q := wp_newi rfl h
theorem i110_49 {k x : Nat} (h1 : k < t) (h2 : m_ob k 8 = true) : WP V 110 49 ls (.ref x :: .ref k :: st) t I L R Q = WP V 110 50 ls st t I L (m_sc R k (m_sc (R k) 16 (some x))) Q := wp_putR rfl (by decide) h1 h2
theorem i110_49n {k : Nat} (h1 : k < t) (h2 : m_ob k 8 = true) : WP V 110 49 ls (.null :: .ref k :: st) t I L R Q = WP V 110 50 ls st t I L (m_sc R k (m_sc (R k) 16 none)) Q := wp_putN rfl (by decide) h1 h2
theorem i110_50 {w1 : Value} {x : Nat} : WP V 110 50 [.ref x, w1] st t I L R Q = WP V 110 51 [.ref x, w1] (.ref x :: st) t I L R Q := wp_go rfl
theorem i110_51  : WP V 110 51 ls st t I L R Q = WP V 110 52 ls (.int (nI 60) :: st) t I L R Q := wp_go rfl
theorem i110_52 {N : Nat} (h : m_ar t 2 N = true) : WP V 110 52 ls (.int (nI N) :: st) t I L R Q = WP V 110 53 ls (.ref t :: st) (t + 1) (m_sc I t (fun _ => 0)) (m_sc L t (fun _ => 0)) R Q := wp_newi rfl h
theorem i110_53 {k x : Nat} (h1 : k < t) (h2 : m_ob k 8 = true) : WP V 110 53 ls (.ref x :: .ref k :: st) t I L R Q = WP V 110 54 ls st t I L (m_sc R k (m_sc (R k) 18 (some x))) Q := wp_putR rfl (by decide) h1 h2
theorem i110_53n {k : Nat} (h1 : k < t) (h2 : m_ob k 8 = true) : WP V 110 53 ls (.null :: .ref k :: st) t I L R Q = WP V 110 54 ls st t I L (m_sc R k (m_sc (R k) 18 none)) Q := wp_putN rfl (by decide) h1 h2
theorem i110_54 {w1 : Value} {x : Nat} : WP V 110 54 [.ref x, w1] st t I L R Q = WP V 110 55 [.ref x, w1] (.ref x :: st) t I L R Q := wp_go rfl
theorem i110_55  : WP V 110 55 ls st t I L R Q = WP V 110 56 ls (.int (nI 60) :: st) t I L R Q := wp_go rfl
theorem i110_56 {N : Nat} (h : m_ar t 2 N = true) : WP V 110 56 ls (.int (nI N) :: st) t I L R Q = WP V 110 57 ls (.ref t :: st) (t + 1) (m_sc I t (fun _ => 0)) (m_sc L t (fun _ => 0)) R Q := wp_newi rfl h
theorem i110_57 {k x : Nat} (h1 : k < t) (h2 : m_ob k 8 = true) : WP V 110 57 ls (.ref x :: .ref k :: st) t I L R Q = WP V 110 58 ls st t I L (m_sc R k (m_sc (R k) 19 (some x))) Q := wp_putR rfl (by decide) h1 h2
theorem i110_57n {k : Nat} (h1 : k < t) (h2 : m_ob k 8 = true) : WP V 110 57 ls (.null :: .ref k :: st) t I L R Q = WP V 110 58 ls st t I L (m_sc R k (m_sc (R k) 19 none)) Q := wp_putN rfl (by decide) h1 h2
theorem i110_58 {w1 : Value} {x : Nat} : WP V 110 58 [.ref x, w1] st t I L R Q = WP V 110 59 [.ref x, w1] (.ref x :: st) t I L R Q := wp_go rfl
theorem i110_59  : WP V 110 59 ls st t I L R Q = WP V 110 60 ls (.int (nI 60) :: st) t I L R Q := wp_go rfl
theorem i110_60 {N : Nat} (h : m_ar t 2 N = true) : WP V 110 60 ls (.int (nI N) :: st) t I L R Q = WP V 110 61 ls (.ref t :: st) (t + 1) (m_sc I t (fun _ => 0)) (m_sc L t (fun _ => 0)) R Q := wp_newi rfl h
theorem i110_61 {k x : Nat} (h1 : k < t) (h2 : m_ob k 8 = true) : WP V 110 61 ls (.ref x :: .ref k :: st) t I L R Q = WP V 110 62 ls st t I L (m_sc R k (m_sc (R k) 20 (some x))) Q := wp_putR rfl (by decide) h1 h2
theorem i110_61n {k : Nat} (h1 : k < t) (h2 : m_ob k 8 = true) : WP V 110 61 ls (.null :: .ref k :: st) t I L R Q = WP V 110 62 ls st t I L (m_sc R k (m_sc (R k) 20 none)) Q := wp_putN rfl (by decide) h1 h2
theorem i110_62 {w1 : Value} {x : Nat} : WP V 110 62 [.ref x, w1] st t I L R Q = WP V 110 63 [.ref x, w1] (.ref x :: st) t I L R Q := wp_go rfl
theorem i110_63  : WP V 110 63 ls st t I L R Q = WP V 110 64 ls (.int (nI 1920) :: st) t I L R Q := wp_go rfl
theorem i110_64 {N : Nat} (h : m_ar t 2 N = true) : WP V 110 64 ls (.int (nI N) :: st) t I L R Q = WP V 110 65 ls (.ref t :: st) (t + 1) (m_sc I t (fun _ => 0)) (m_sc L t (fun _ => 0)) R Q := wp_newi rfl h
theorem i110_65 {k x : Nat} (h1 : k < t) (h2 : m_ob k 8 = true) : WP V 110 65 ls (.ref x :: .ref k :: st) t I L R Q = WP V 110 66 ls st t I L (m_sc R k (m_sc (R k) 21 (some x))) Q := wp_putR rfl (by decide) h1 h2
theorem i110_65n {k : Nat} (h1 : k < t) (h2 : m_ob k 8 = true) : WP V 110 65 ls (.null :: .ref k :: st) t I L R Q = WP V 110 66 ls st t I L (m_sc R k (m_sc (R k) 21 none)) Q := wp_putN rfl (by decide) h1 h2
theorem i110_66 {w1 : Value} {x : Nat} : WP V 110 66 [.ref x, w1] st t I L R Q = WP V 110 67 [.ref x, w1] (.ref x :: st) t I L R Q := wp_go rfl
theorem i110_67  : WP V 110 67 ls st t I L R Q = WP V 110 68 ls (.int (nI 32) :: st) t I L R Q := wp_go rfl
theorem i110_68 {N : Nat} (h : m_ar t 2 N = true) : WP V 110 68 ls (.int (nI N) :: st) t I L R Q = WP V 110 69 ls (.ref t :: st) (t + 1) (m_sc I t (fun _ => 0)) (m_sc L t (fun _ => 0)) R Q := wp_newi rfl h
theorem i110_69 {k x : Nat} (h1 : k < t) (h2 : m_ob k 8 = true) : WP V 110 69 ls (.ref x :: .ref k :: st) t I L R Q = WP V 110 70 ls st t I L (m_sc R k (m_sc (R k) 24 (some x))) Q := wp_putR rfl (by decide) h1 h2
theorem i110_69n {k : Nat} (h1 : k < t) (h2 : m_ob k 8 = true) : WP V 110 69 ls (.null :: .ref k :: st) t I L R Q = WP V 110 70 ls st t I L (m_sc R k (m_sc (R k) 24 none)) Q := wp_putN rfl (by decide) h1 h2
theorem i110_70 {w1 : Value} {x : Nat} : WP V 110 70 [.ref x, w1] st t I L R Q = WP V 110 71 [.ref x, w1] (.ref x :: st) t I L R Q := wp_go rfl
theorem i110_71  : WP V 110 71 ls st t I L R Q = WP V 110 72 ls (.int (nI 4000) :: st) t I L R Q := wp_go rfl
theorem i110_72 {k : Nat} {x : Int32} (h1 : k < t) (h2 : m_ob k 8 = true) : WP V 110 72 ls (.int x :: .ref k :: st) t I L R Q = WP V 110 73 ls st t (m_sc I k (m_sc (I k) 25 x)) L R Q := wp_putI rfl (by decide) h1 h2
theorem i110_73 {w1 : Value} {x : Nat} : WP V 110 73 [.ref x, w1] st t I L R Q = WP V 110 74 [.ref x, w1] (.ref x :: st) t I L R Q := wp_go rfl
theorem i110_74  : WP V 110 74 ls st t I L R Q = WP V 110 75 ls (.int (nI 246000) :: st) t I L R Q := wp_go rfl
theorem i110_75 {N : Nat} (h : m_ar t 2 N = true) : WP V 110 75 ls (.int (nI N) :: st) t I L R Q = WP V 110 76 ls (.ref t :: st) (t + 1) (m_sc I t (fun _ => 0)) (m_sc L t (fun _ => 0)) R Q := wp_newi rfl h
theorem i110_76 {k x : Nat} (h1 : k < t) (h2 : m_ob k 8 = true) : WP V 110 76 ls (.ref x :: .ref k :: st) t I L R Q = WP V 110 77 ls st t I L (m_sc R k (m_sc (R k) 26 (some x))) Q := wp_putR rfl (by decide) h1 h2
theorem i110_76n {k : Nat} (h1 : k < t) (h2 : m_ob k 8 = true) : WP V 110 76 ls (.null :: .ref k :: st) t I L R Q = WP V 110 77 ls st t I L (m_sc R k (m_sc (R k) 26 none)) Q := wp_putN rfl (by decide) h1 h2
theorem i110_77 {w1 : Value} {x : Nat} : WP V 110 77 [.ref x, w1] st t I L R Q = WP V 110 78 [.ref x, w1] (.ref x :: st) t I L R Q := wp_go rfl
theorem i110_78  : WP V 110 78 ls st t I L R Q = WP V 110 79 ls (.int (nI 7700) :: st) t I L R Q := wp_go rfl
theorem i110_79 {N : Nat} (h : m_ar t 2 N = true) : WP V 110 79 ls (.int (nI N) :: st) t I L R Q = WP V 110 80 ls (.ref t :: st) (t + 1) (m_sc I t (fun _ => 0)) (m_sc L t (fun _ => 0)) R Q := wp_newi rfl h
theorem i110_80 {k x : Nat} (h1 : k < t) (h2 : m_ob k 8 = true) : WP V 110 80 ls (.ref x :: .ref k :: st) t I L R Q = WP V 110 81 ls st t I L (m_sc R k (m_sc (R k) 30 (some x))) Q := wp_putR rfl (by decide) h1 h2
theorem i110_80n {k : Nat} (h1 : k < t) (h2 : m_ob k 8 = true) : WP V 110 80 ls (.null :: .ref k :: st) t I L R Q = WP V 110 81 ls st t I L (m_sc R k (m_sc (R k) 30 none)) Q := wp_putN rfl (by decide) h1 h2
theorem i110_81 {w1 : Value} {x : Nat} : WP V 110 81 [.ref x, w1] st t I L R Q = WP V 110 82 [.ref x, w1] (.ref x :: st) t I L R Q := wp_go rfl
theorem i110_82  : WP V 110 82 ls st t I L R Q = WP V 110 83 ls (.int (nI 7700) :: st) t I L R Q := wp_go rfl
theorem i110_83 {N : Nat} (h : m_ar t 2 N = true) : WP V 110 83 ls (.int (nI N) :: st) t I L R Q = WP V 110 84 ls (.ref t :: st) (t + 1) (m_sc I t (fun _ => 0)) (m_sc L t (fun _ => 0)) R Q := wp_newi rfl h
theorem i110_84 {k x : Nat} (h1 : k < t) (h2 : m_ob k 8 = true) : WP V 110 84 ls (.ref x :: .ref k :: st) t I L R Q = WP V 110 85 ls st t I L (m_sc R k (m_sc (R k) 31 (some x))) Q := wp_putR rfl (by decide) h1 h2
theorem i110_84n {k : Nat} (h1 : k < t) (h2 : m_ob k 8 = true) : WP V 110 84 ls (.null :: .ref k :: st) t I L R Q = WP V 110 85 ls st t I L (m_sc R k (m_sc (R k) 31 none)) Q := wp_putN rfl (by decide) h1 h2
theorem i110_85 {w1 : Value} {x : Nat} : WP V 110 85 [.ref x, w1] st t I L R Q = WP V 110 86 [.ref x, w1] (.ref x :: st) t I L R Q := wp_go rfl
theorem i110_86  : WP V 110 86 ls st t I L R Q = WP V 110 87 ls (.int (nI 612) :: st) t I L R Q := wp_go rfl
theorem i110_87 {N : Nat} (h : m_ar t 2 N = true) : WP V 110 87 ls (.int (nI N) :: st) t I L R Q = WP V 110 88 ls (.ref t :: st) (t + 1) (m_sc I t (fun _ => 0)) (m_sc L t (fun _ => 0)) R Q := wp_newi rfl h
theorem i110_88 {k x : Nat} (h1 : k < t) (h2 : m_ob k 8 = true) : WP V 110 88 ls (.ref x :: .ref k :: st) t I L R Q = WP V 110 89 ls st t I L (m_sc R k (m_sc (R k) 33 (some x))) Q := wp_putR rfl (by decide) h1 h2
theorem i110_88n {k : Nat} (h1 : k < t) (h2 : m_ob k 8 = true) : WP V 110 88 ls (.null :: .ref k :: st) t I L R Q = WP V 110 89 ls st t I L (m_sc R k (m_sc (R k) 33 none)) Q := wp_putN rfl (by decide) h1 h2
theorem i110_89 {w1 : Value} {x : Nat} : WP V 110 89 [.ref x, w1] st t I L R Q = WP V 110 90 [.ref x, w1] (.ref x :: st) t I L R Q := wp_go rfl
theorem i110_90  : WP V 110 90 ls st t I L R Q = WP V 110 91 ls (.int (nI 3) :: st) t I L R Q := wp_go rfl
theorem i110_91 {N : Nat} (h : m_ar t 2 N = true) : WP V 110 91 ls (.int (nI N) :: st) t I L R Q = WP V 110 92 ls (.ref t :: st) (t + 1) (m_sc I t (fun _ => 0)) (m_sc L t (fun _ => 0)) R Q := wp_newi rfl h
theorem i110_92 {k x : Nat} (h1 : k < t) (h2 : m_ob k 8 = true) : WP V 110 92 ls (.ref x :: .ref k :: st) t I L R Q = WP V 110 93 ls st t I L (m_sc R k (m_sc (R k) 34 (some x))) Q := wp_putR rfl (by decide) h1 h2
theorem i110_92n {k : Nat} (h1 : k < t) (h2 : m_ob k 8 = true) : WP V 110 92 ls (.null :: .ref k :: st) t I L R Q = WP V 110 93 ls st t I L (m_sc R k (m_sc (R k) 34 none)) Q := wp_putN rfl (by decide) h1 h2
theorem i110_93 {w1 : Value} {x : Nat} : WP V 110 93 [.ref x, w1] st t I L R Q = WP V 110 94 [.ref x, w1] (.ref x :: st) t I L R Q := wp_go rfl
theorem i110_94  : WP V 110 94 ls st t I L R Q = WP V 110 95 ls (.int (nI 8) :: st) t I L R Q := wp_go rfl
theorem i110_95 {N : Nat} (h : m_ar t 2 N = true) : WP V 110 95 ls (.int (nI N) :: st) t I L R Q = WP V 110 96 ls (.ref t :: st) (t + 1) (m_sc I t (fun _ => 0)) (m_sc L t (fun _ => 0)) R Q := wp_newi rfl h
theorem i110_96 {k x : Nat} (h1 : k < t) (h2 : m_ob k 8 = true) : WP V 110 96 ls (.ref x :: .ref k :: st) t I L R Q = WP V 110 97 ls st t I L (m_sc R k (m_sc (R k) 35 (some x))) Q := wp_putR rfl (by decide) h1 h2
theorem i110_96n {k : Nat} (h1 : k < t) (h2 : m_ob k 8 = true) : WP V 110 96 ls (.null :: .ref k :: st) t I L R Q = WP V 110 97 ls st t I L (m_sc R k (m_sc (R k) 35 none)) Q := wp_putN rfl (by decide) h1 h2
theorem i110_97 {w1 : Value} {x : Nat} : WP V 110 97 [.ref x, w1] st t I L R Q = WP V 110 98 [.ref x, w1] (.ref x :: st) t I L R Q := wp_go rfl
theorem i110_98  : WP V 110 98 ls st t I L R Q = WP V 110 99 ls (.int (nI 8) :: st) t I L R Q := wp_go rfl
theorem i110_99 {N : Nat} (h : m_ar t 2 N = true) : WP V 110 99 ls (.int (nI N) :: st) t I L R Q = WP V 110 100 ls (.ref t :: st) (t + 1) (m_sc I t (fun _ => 0)) (m_sc L t (fun _ => 0)) R Q := wp_newi rfl h
theorem i110_100 {k x : Nat} (h1 : k < t) (h2 : m_ob k 8 = true) : WP V 110 100 ls (.ref x :: .ref k :: st) t I L R Q = WP V 110 101 ls st t I L (m_sc R k (m_sc (R k) 36 (some x))) Q := wp_putR rfl (by decide) h1 h2
theorem i110_100n {k : Nat} (h1 : k < t) (h2 : m_ob k 8 = true) : WP V 110 100 ls (.null :: .ref k :: st) t I L R Q = WP V 110 101 ls st t I L (m_sc R k (m_sc (R k) 36 none)) Q := wp_putN rfl (by decide) h1 h2
theorem i110_101 {w1 : Value} {x : Nat} : WP V 110 101 [.ref x, w1] st t I L R Q = WP V 110 102 [.ref x, w1] (.ref x :: st) t I L R Q := wp_go rfl
theorem i110_102  : WP V 110 102 ls st t I L R Q = WP V 110 103 ls (.int (nI 6) :: st) t I L R Q := wp_go rfl
theorem i110_103 {N : Nat} (h : m_ar t 2 N = true) : WP V 110 103 ls (.int (nI N) :: st) t I L R Q = WP V 110 104 ls (.ref t :: st) (t + 1) (m_sc I t (fun _ => 0)) (m_sc L t (fun _ => 0)) R Q := wp_newi rfl h
theorem i110_104 {k x : Nat} (h1 : k < t) (h2 : m_ob k 8 = true) : WP V 110 104 ls (.ref x :: .ref k :: st) t I L R Q = WP V 110 105 ls st t I L (m_sc R k (m_sc (R k) 38 (some x))) Q := wp_putR rfl (by decide) h1 h2
theorem i110_104n {k : Nat} (h1 : k < t) (h2 : m_ob k 8 = true) : WP V 110 104 ls (.null :: .ref k :: st) t I L R Q = WP V 110 105 ls st t I L (m_sc R k (m_sc (R k) 38 none)) Q := wp_putN rfl (by decide) h1 h2
theorem i110_105 {w1 : Value} {x : Nat} : WP V 110 105 [.ref x, w1] st t I L R Q = WP V 110 106 [.ref x, w1] (.ref x :: st) t I L R Q := wp_go rfl
theorem i110_106  : WP V 110 106 ls st t I L R Q = WP V 110 107 ls (.int (nI 4000) :: st) t I L R Q := wp_go rfl
theorem i110_107 {N : Nat} (h : m_ar t 2 N = true) : WP V 110 107 ls (.int (nI N) :: st) t I L R Q = WP V 110 108 ls (.ref t :: st) (t + 1) (m_sc I t (fun _ => 0)) (m_sc L t (fun _ => 0)) R Q := wp_newi rfl h
theorem i110_108 {k x : Nat} (h1 : k < t) (h2 : m_ob k 8 = true) : WP V 110 108 ls (.ref x :: .ref k :: st) t I L R Q = WP V 110 109 ls st t I L (m_sc R k (m_sc (R k) 39 (some x))) Q := wp_putR rfl (by decide) h1 h2
theorem i110_108n {k : Nat} (h1 : k < t) (h2 : m_ob k 8 = true) : WP V 110 108 ls (.null :: .ref k :: st) t I L R Q = WP V 110 109 ls st t I L (m_sc R k (m_sc (R k) 39 none)) Q := wp_putN rfl (by decide) h1 h2
theorem i110_109 {w1 : Value} {x : Nat} : WP V 110 109 [.ref x, w1] st t I L R Q = WP V 110 110 [.ref x, w1] (.ref x :: st) t I L R Q := wp_go rfl
theorem i110_110  : WP V 110 110 ls st t I L R Q = WP V 110 111 ls (.int (nI 96) :: st) t I L R Q := wp_go rfl
theorem i110_111 {N : Nat} (h : m_ar t 4 N = true) : WP V 110 111 ls (.int (nI N) :: st) t I L R Q = WP V 110 112 ls (.ref t :: st) (t + 1) (m_sc I t (fun _ => 0)) (m_sc L t (fun _ => 0)) R Q := wp_newl rfl h
theorem i110_112 {k x : Nat} (h1 : k < t) (h2 : m_ob k 8 = true) : WP V 110 112 ls (.ref x :: .ref k :: st) t I L R Q = WP V 110 113 ls st t I L (m_sc R k (m_sc (R k) 40 (some x))) Q := wp_putR rfl (by decide) h1 h2
theorem i110_112n {k : Nat} (h1 : k < t) (h2 : m_ob k 8 = true) : WP V 110 112 ls (.null :: .ref k :: st) t I L R Q = WP V 110 113 ls st t I L (m_sc R k (m_sc (R k) 40 none)) Q := wp_putN rfl (by decide) h1 h2
theorem i110_113  : WP V 110 113 ls st t I L R Q = WP V 110 114 ls (.int (nI 0) :: st) t I L R Q := wp_go rfl
theorem i110_114 {p : Nat} {w1 : Value} {x : Int32} : WP V 110 114 [.ref p, w1] (.int x :: st) t I L R Q = WP V 110 115 [.ref p, .int x] st t I L R Q := wp_go rfl
theorem i110_115 {w0 : Value} {x : Int32} : WP V 110 115 [w0, .int x] st t I L R Q = WP V 110 116 [w0, .int x] (.int x :: st) t I L R Q := wp_go rfl
theorem i110_116  : WP V 110 116 ls st t I L R Q = WP V 110 117 ls (.int (nI 8) :: st) t I L R Q := wp_go rfl
theorem i110_117 {x y : Int32} : WP V 110 117 ls (.int y :: .int x :: st) t I L R Q = if y ≤ x then WP V 110 123 ls st t I L R Q else WP V 110 118 ls st t I L R Q := wp_br (c := m_cc .ge x y) rfl rfl
theorem i110_118 {w1 : Value} {x : Nat} : WP V 110 118 [.ref x, w1] st t I L R Q = WP V 110 119 [.ref x, w1] (.ref x :: st) t I L R Q := wp_go rfl
theorem i110_119 {w0 : Value} {x : Int32} : WP V 110 119 [w0, .int x] st t I L R Q = WP V 110 120 [w0, .int x] (.int x :: st) t I L R Q := wp_go rfl
theorem i110_120 {x0 : Int32} {x1 : Nat}  (h1 : x1 < t) (h2 : m_ob x1 8 = true) : WP V 110 120 ls [.int x0, .ref x1] t I L R Q = WPC V 114 [.ref x1, .int x0] 110 121 ls [] t I L R Q := wp_cls (wp_icv rfl rfl h1 h2) (by decide) (Nat.le_of_ble_eq_true rfl) rfl rfl (Nat.le_of_ble_eq_true rfl) (Nat.le_of_ble_eq_true rfl)
theorem i110_121 {p : Nat} {x : Int32} : WP V 110 121 [.ref p, .int x] st t I L R Q = WP V 110 122 [.ref p, .int (x + (nI 1))] st t I L R Q := wp_go rfl
theorem i110_122  : WP V 110 122 ls st t I L R Q = WP V 110 115 ls st t I L R Q := wp_go rfl
theorem i110_123 {w1 : Value} {x : Nat} : WP V 110 123 [.ref x, w1] st t I L R Q = WP V 110 124 [.ref x, w1] (.ref x :: st) t I L R Q := wp_go rfl
theorem i110_124 {k : Nat} (h1 : k < t) (h2 : m_ob k 8 = true) : WP V 110 124 ls (.ref k :: st) t I L R Q = WP V 110 125 ls (m_rv (R k 0) :: st) t I L R Q := wp_getR rfl (by decide) h1 h2
theorem i110_125  : WP V 110 125 ls st t I L R Q = WP V 110 126 ls (.int (nI 145) :: st) t I L R Q := wp_go rfl
theorem i110_126  : WP V 110 126 ls st t I L R Q = WP V 110 127 ls (.int (-1) :: st) t I L R Q := wp_go rfl
theorem i110_127 {k j : Nat} {x : Int32} (h2 : m_ar k 2 612 = true) (h1 : k < t) (h3 : j < 612) : WP V 110 127 ls (.int x :: .int (nI j) :: .ref k :: st) t I L R Q = WP V 110 128 ls st t (m_sc I k (m_sc (I k) j x)) L R Q := wp_iastore rfl (by decide) h1 h2 h3
theorem i110_128 {w1 : Value} {x : Nat} : WP V 110 128 [.ref x, w1] st t I L R Q = WP V 110 129 [.ref x, w1] (.ref x :: st) t I L R Q := wp_go rfl
theorem i110_129 {k : Nat} (h1 : k < t) (h2 : m_ob k 8 = true) : WP V 110 129 ls (.ref k :: st) t I L R Q = WP V 110 130 ls (m_rv (R k 0) :: st) t I L R Q := wp_getR rfl (by decide) h1 h2
theorem i110_130  : WP V 110 130 ls st t I L R Q = WP V 110 131 ls (.int (nI 146) :: st) t I L R Q := wp_go rfl
theorem i110_131  : WP V 110 131 ls st t I L R Q = WP V 110 132 ls (.int (-1) :: st) t I L R Q := wp_go rfl
theorem i110_132 {k j : Nat} {x : Int32} (h2 : m_ar k 2 612 = true) (h1 : k < t) (h3 : j < 612) : WP V 110 132 ls (.int x :: .int (nI j) :: .ref k :: st) t I L R Q = WP V 110 133 ls st t (m_sc I k (m_sc (I k) j x)) L R Q := wp_iastore rfl (by decide) h1 h2 h3
theorem i110_133  : WP V 110 133 ls st t I L R Q = WP V 110 134 ls (.int (nI 0) :: st) t I L R Q := wp_go rfl
theorem i110_134 {p : Nat} {w1 : Value} {x : Int32} : WP V 110 134 [.ref p, w1] (.int x :: st) t I L R Q = WP V 110 135 [.ref p, .int x] st t I L R Q := wp_go rfl
theorem i110_135 {w0 : Value} {x : Int32} : WP V 110 135 [w0, .int x] st t I L R Q = WP V 110 136 [w0, .int x] (.int x :: st) t I L R Q := wp_go rfl
theorem i110_136  : WP V 110 136 ls st t I L R Q = WP V 110 137 ls (.int (nI 3) :: st) t I L R Q := wp_go rfl
theorem i110_137 {x y : Int32} : WP V 110 137 ls (.int y :: .int x :: st) t I L R Q = if y ≤ x then WP V 110 143 ls st t I L R Q else WP V 110 138 ls st t I L R Q := wp_br (c := m_cc .ge x y) rfl rfl
theorem i110_138 {w1 : Value} {x : Nat} : WP V 110 138 [.ref x, w1] st t I L R Q = WP V 110 139 [.ref x, w1] (.ref x :: st) t I L R Q := wp_go rfl
theorem i110_139 {w0 : Value} {x : Int32} : WP V 110 139 [w0, .int x] st t I L R Q = WP V 110 140 [w0, .int x] (.int x :: st) t I L R Q := wp_go rfl
theorem i110_140 {x0 : Int32} {x1 : Nat}  (h1 : x1 < t) (h2 : m_ob x1 8 = true) : WP V 110 140 ls [.int x0, .ref x1] t I L R Q = WPC V 115 [.ref x1, .int x0] 110 141 ls [] t I L R Q := wp_cls (wp_icv rfl rfl h1 h2) (by decide) (Nat.le_of_ble_eq_true rfl) rfl rfl (Nat.le_of_ble_eq_true rfl) (Nat.le_of_ble_eq_true rfl)
theorem i110_141 {p : Nat} {x : Int32} : WP V 110 141 [.ref p, .int x] st t I L R Q = WP V 110 142 [.ref p, .int (x + (nI 1))] st t I L R Q := wp_go rfl
theorem i110_142  : WP V 110 142 ls st t I L R Q = WP V 110 135 ls st t I L R Q := wp_go rfl
theorem i110_143 {w1 : Value} {x : Nat} : WP V 110 143 [.ref x, w1] st t I L R Q = WP V 110 144 [.ref x, w1] (.ref x :: st) t I L R Q := wp_go rfl
theorem i110_144 {x0 : Nat}  (h1 : x0 < t) (h2 : m_ob x0 8 = true) : WP V 110 144 ls [.ref x0] t I L R Q = WPC V 130 [.ref x0] 110 145 ls [] t I L R Q := wp_cls (wp_icv rfl rfl h1 h2) (by decide) (Nat.le_of_ble_eq_true rfl) rfl rfl (Nat.le_of_ble_eq_true rfl) (Nat.le_of_ble_eq_true rfl)
theorem i110_145  : WP V 110 145 ls [] t I L R Q = Q none t I L R := wp_rtv rfl rfl
-- TransactionCellsModel.in(III)Z
theorem i111_0 {w1 w2 : Value} {x : Int32} : WP V 111 0 [.int x, w1, w2] st t I L R Q = WP V 111 1 [.int x, w1, w2] (.int x :: st) t I L R Q := wp_go rfl
theorem i111_1 {w0 w2 : Value} {x : Int32} : WP V 111 1 [w0, .int x, w2] st t I L R Q = WP V 111 2 [w0, .int x, w2] (.int x :: st) t I L R Q := wp_go rfl
theorem i111_2 {x y : Int32} : WP V 111 2 ls (.int y :: .int x :: st) t I L R Q = if x < y then WP V 111 8 ls st t I L R Q else WP V 111 3 ls st t I L R Q := wp_br (c := m_cc .lt x y) rfl rfl
theorem i111_3 {w1 w2 : Value} {x : Int32} : WP V 111 3 [.int x, w1, w2] st t I L R Q = WP V 111 4 [.int x, w1, w2] (.int x :: st) t I L R Q := wp_go rfl
theorem i111_4 {w0 w1 : Value} {x : Int32} : WP V 111 4 [w0, w1, .int x] st t I L R Q = WP V 111 5 [w0, w1, .int x] (.int x :: st) t I L R Q := wp_go rfl
theorem i111_5 {x y : Int32} : WP V 111 5 ls (.int y :: .int x :: st) t I L R Q = if y < x then WP V 111 8 ls st t I L R Q else WP V 111 6 ls st t I L R Q := wp_br (c := m_cc .gt x y) rfl rfl
theorem i111_6  : WP V 111 6 ls st t I L R Q = WP V 111 7 ls (.int (nI 1) :: st) t I L R Q := wp_go rfl
theorem i111_7  : WP V 111 7 ls st t I L R Q = WP V 111 9 ls st t I L R Q := wp_go rfl
theorem i111_8  : WP V 111 8 ls st t I L R Q = WP V 111 9 ls (.int (nI 0) :: st) t I L R Q := wp_go rfl
theorem i111_9 {x : Int32} (h : m_01 x = true) : WP V 111 9 ls [.int x] t I L R Q = Q (some (.int x)) t I L R := wp_rtz rfl rfl h
-- TransactionCellsModel.cellAt(I)I
theorem i112_0  : WP V 112 0 ls st t I L R Q = WP V 112 1 ls (.int (nI 18) :: st) t I L R Q := wp_go rfl
theorem i112_1 {x : Int32} : WP V 112 1 [.int x] st t I L R Q = WP V 112 2 [.int x] (.int x :: st) t I L R Q := wp_go rfl
theorem i112_2 {x y : Int32} : WP V 112 2 ls (.int y :: .int x :: st) t I L R Q = WP V 112 3 ls (.int (x * y) :: st) t I L R Q := wp_go rfl
theorem i112_3 {x : Int32} : WP V 112 3 ls [.int x] t I L R Q = Q (some (.int x)) t I L R := wp_rti rfl rfl
-- TransactionCellsModel.threadAt(I)I
theorem i113_0  : WP V 113 0 ls st t I L R Q = WP V 113 1 ls (.int (nI 150) :: st) t I L R Q := wp_go rfl
theorem i113_1  : WP V 113 1 ls st t I L R Q = WP V 113 2 ls (.int (nI 154) :: st) t I L R Q := wp_go rfl
theorem i113_2 {x : Int32} : WP V 113 2 [.int x] st t I L R Q = WP V 113 3 [.int x] (.int x :: st) t I L R Q := wp_go rfl
theorem i113_3 {x y : Int32} : WP V 113 3 ls (.int y :: .int x :: st) t I L R Q = WP V 113 4 ls (.int (x * y) :: st) t I L R Q := wp_go rfl
theorem i113_4 {x y : Int32} : WP V 113 4 ls (.int y :: .int x :: st) t I L R Q = WP V 113 5 ls (.int (x + y) :: st) t I L R Q := wp_go rfl
theorem i113_5 {x : Int32} : WP V 113 5 ls [.int x] t I L R Q = Q (some (.int x)) t I L R := wp_rti rfl rfl
-- TransactionCellsModel.clearCell(I)V
theorem i114_0 {w0 w2 w3 : Value} {x : Int32} : WP V 114 0 [w0, .int x, w2, w3] st t I L R Q = WP V 114 1 [w0, .int x, w2, w3] (.int x :: st) t I L R Q := wp_go rfl
theorem i114_1 {x0 : Int32}  : WP V 114 1 ls [.int x0] t I L R Q = WPC V 112 [.int x0] 114 2 ls [] t I L R Q := wp_cls (wp_ics rfl (by decide)) (by decide) (Nat.le_of_ble_eq_true rfl) rfl rfl (Nat.le_of_ble_eq_true rfl) (Nat.le_of_ble_eq_true rfl)
theorem i114_2 {p : Int32} {w0 w2 w3 : Value} {x : Int32} : WP V 114 2 [w0, .int p, w2, w3] (.int x :: st) t I L R Q = WP V 114 3 [w0, .int p, .int x, w3] st t I L R Q := wp_go rfl
theorem i114_3 {w1 w2 w3 : Value} {x : Nat} : WP V 114 3 [.ref x, w1, w2, w3] st t I L R Q = WP V 114 4 [.ref x, w1, w2, w3] (.ref x :: st) t I L R Q := wp_go rfl
theorem i114_4 {k : Nat} (h1 : k < t) (h2 : m_ob k 8 = true) : WP V 114 4 ls (.ref k :: st) t I L R Q = WP V 114 5 ls (m_rv (R k 0) :: st) t I L R Q := wp_getR rfl (by decide) h1 h2
theorem i114_5 {w0 w1 w3 : Value} {x : Int32} : WP V 114 5 [w0, w1, .int x, w3] st t I L R Q = WP V 114 6 [w0, w1, .int x, w3] (.int x :: st) t I L R Q := wp_go rfl
theorem i114_6  : WP V 114 6 ls st t I L R Q = WP V 114 7 ls (.int (nI 2) :: st) t I L R Q := wp_go rfl
theorem i114_7 {x y : Int32} : WP V 114 7 ls (.int y :: .int x :: st) t I L R Q = WP V 114 8 ls (.int (x + y) :: st) t I L R Q := wp_go rfl
theorem i114_8  : WP V 114 8 ls st t I L R Q = WP V 114 9 ls (.int (nI 0) :: st) t I L R Q := wp_go rfl
theorem i114_9 {k j : Nat} {x : Int32} (h2 : m_ar k 2 612 = true) (h1 : k < t) (h3 : j < 612) : WP V 114 9 ls (.int x :: .int (nI j) :: .ref k :: st) t I L R Q = WP V 114 10 ls st t (m_sc I k (m_sc (I k) j x)) L R Q := wp_iastore rfl (by decide) h1 h2 h3
theorem i114_10  : WP V 114 10 ls st t I L R Q = WP V 114 11 ls (.int (nI 3) :: st) t I L R Q := wp_go rfl
theorem i114_11 {p : Int32} {w0 w1 w3 : Value} {x : Int32} : WP V 114 11 [w0, w1, .int p, w3] (.int x :: st) t I L R Q = WP V 114 12 [w0, w1, .int p, .int x] st t I L R Q := wp_go rfl
theorem i114_12 {w0 w1 w2 : Value} {x : Int32} : WP V 114 12 [w0, w1, w2, .int x] st t I L R Q = WP V 114 13 [w0, w1, w2, .int x] (.int x :: st) t I L R Q := wp_go rfl
theorem i114_13  : WP V 114 13 ls st t I L R Q = WP V 114 14 ls (.int (nI 15) :: st) t I L R Q := wp_go rfl
theorem i114_14 {x y : Int32} : WP V 114 14 ls (.int y :: .int x :: st) t I L R Q = if y ≤ x then WP V 114 24 ls st t I L R Q else WP V 114 15 ls st t I L R Q := wp_br (c := m_cc .ge x y) rfl rfl
theorem i114_15 {w1 w2 w3 : Value} {x : Nat} : WP V 114 15 [.ref x, w1, w2, w3] st t I L R Q = WP V 114 16 [.ref x, w1, w2, w3] (.ref x :: st) t I L R Q := wp_go rfl
theorem i114_16 {k : Nat} (h1 : k < t) (h2 : m_ob k 8 = true) : WP V 114 16 ls (.ref k :: st) t I L R Q = WP V 114 17 ls (m_rv (R k 0) :: st) t I L R Q := wp_getR rfl (by decide) h1 h2
theorem i114_17 {w0 w1 w3 : Value} {x : Int32} : WP V 114 17 [w0, w1, .int x, w3] st t I L R Q = WP V 114 18 [w0, w1, .int x, w3] (.int x :: st) t I L R Q := wp_go rfl
theorem i114_18 {w0 w1 w2 : Value} {x : Int32} : WP V 114 18 [w0, w1, w2, .int x] st t I L R Q = WP V 114 19 [w0, w1, w2, .int x] (.int x :: st) t I L R Q := wp_go rfl
theorem i114_19 {x y : Int32} : WP V 114 19 ls (.int y :: .int x :: st) t I L R Q = WP V 114 20 ls (.int (x + y) :: st) t I L R Q := wp_go rfl
theorem i114_20  : WP V 114 20 ls st t I L R Q = WP V 114 21 ls (.int (nI 0) :: st) t I L R Q := wp_go rfl
theorem i114_21 {k j : Nat} {x : Int32} (h2 : m_ar k 2 612 = true) (h1 : k < t) (h3 : j < 612) : WP V 114 21 ls (.int x :: .int (nI j) :: .ref k :: st) t I L R Q = WP V 114 22 ls st t (m_sc I k (m_sc (I k) j x)) L R Q := wp_iastore rfl (by decide) h1 h2 h3
theorem i114_22 {p : Int32} {w0 w1 : Value} {x : Int32} : WP V 114 22 [w0, w1, .int p, .int x] st t I L R Q = WP V 114 23 [w0, w1, .int p, .int (x + (nI 1))] st t I L R Q := wp_go rfl
theorem i114_23  : WP V 114 23 ls st t I L R Q = WP V 114 12 ls st t I L R Q := wp_go rfl
theorem i114_24 {w1 w2 w3 : Value} {x : Nat} : WP V 114 24 [.ref x, w1, w2, w3] st t I L R Q = WP V 114 25 [.ref x, w1, w2, w3] (.ref x :: st) t I L R Q := wp_go rfl
theorem i114_25 {k : Nat} (h1 : k < t) (h2 : m_ob k 8 = true) : WP V 114 25 ls (.ref k :: st) t I L R Q = WP V 114 26 ls (m_rv (R k 0) :: st) t I L R Q := wp_getR rfl (by decide) h1 h2
theorem i114_26 {w0 w1 w3 : Value} {x : Int32} : WP V 114 26 [w0, w1, .int x, w3] st t I L R Q = WP V 114 27 [w0, w1, .int x, w3] (.int x :: st) t I L R Q := wp_go rfl
theorem i114_27  : WP V 114 27 ls st t I L R Q = WP V 114 28 ls (.int (nI 3) :: st) t I L R Q := wp_go rfl
theorem i114_28 {x y : Int32} : WP V 114 28 ls (.int y :: .int x :: st) t I L R Q = WP V 114 29 ls (.int (x + y) :: st) t I L R Q := wp_go rfl
theorem i114_29 {w1 w2 w3 : Value} {x : Nat} : WP V 114 29 [.ref x, w1, w2, w3] st t I L R Q = WP V 114 30 [.ref x, w1, w2, w3] (.ref x :: st) t I L R Q := wp_go rfl
theorem i114_30 {k : Nat} (h1 : k < t) (h2 : m_ob k 8 = true) : WP V 114 30 ls (.ref k :: st) t I L R Q = WP V 114 31 ls (m_rv (R k 0) :: st) t I L R Q := wp_getR rfl (by decide) h1 h2
theorem i114_31 {w0 w1 w3 : Value} {x : Int32} : WP V 114 31 [w0, w1, .int x, w3] st t I L R Q = WP V 114 32 [w0, w1, .int x, w3] (.int x :: st) t I L R Q := wp_go rfl
theorem i114_32 {k j : Nat} (h2 : m_ar k 2 612 = true) (h1 : k < t) (h3 : j < 612) : WP V 114 32 ls (.int (nI j) :: .ref k :: st) t I L R Q = WP V 114 33 ls (.int (I k j) :: st) t I L R Q := wp_iaload rfl (by decide) h1 h2 h3
theorem i114_33 {k j : Nat} {x : Int32} (h2 : m_ar k 2 612 = true) (h1 : k < t) (h3 : j < 612) : WP V 114 33 ls (.int x :: .int (nI j) :: .ref k :: st) t I L R Q = WP V 114 34 ls st t (m_sc I k (m_sc (I k) j x)) L R Q := wp_iastore rfl (by decide) h1 h2 h3
theorem i114_34 {w1 w2 w3 : Value} {x : Nat} : WP V 114 34 [.ref x, w1, w2, w3] st t I L R Q = WP V 114 35 [.ref x, w1, w2, w3] (.ref x :: st) t I L R Q := wp_go rfl
theorem i114_35 {k : Nat} (h1 : k < t) (h2 : m_ob k 8 = true) : WP V 114 35 ls (.ref k :: st) t I L R Q = WP V 114 36 ls (m_rv (R k 0) :: st) t I L R Q := wp_getR rfl (by decide) h1 h2
theorem i114_36 {w0 w1 w3 : Value} {x : Int32} : WP V 114 36 [w0, w1, .int x, w3] st t I L R Q = WP V 114 37 [w0, w1, .int x, w3] (.int x :: st) t I L R Q := wp_go rfl
theorem i114_37  : WP V 114 37 ls st t I L R Q = WP V 114 38 ls (.int (nI 3) :: st) t I L R Q := wp_go rfl
theorem i114_38 {x y : Int32} : WP V 114 38 ls (.int y :: .int x :: st) t I L R Q = WP V 114 39 ls (.int (x + y) :: st) t I L R Q := wp_go rfl
theorem i114_39  : WP V 114 39 ls st t I L R Q = WP V 114 40 ls (.int (nI 1) :: st) t I L R Q := wp_go rfl
theorem i114_40 {x y : Int32} : WP V 114 40 ls (.int y :: .int x :: st) t I L R Q = WP V 114 41 ls (.int (x + y) :: st) t I L R Q := wp_go rfl
theorem i114_41 {w1 w2 w3 : Value} {x : Nat} : WP V 114 41 [.ref x, w1, w2, w3] st t I L R Q = WP V 114 42 [.ref x, w1, w2, w3] (.ref x :: st) t I L R Q := wp_go rfl
theorem i114_42 {k : Nat} (h1 : k < t) (h2 : m_ob k 8 = true) : WP V 114 42 ls (.ref k :: st) t I L R Q = WP V 114 43 ls (m_rv (R k 0) :: st) t I L R Q := wp_getR rfl (by decide) h1 h2
theorem i114_43 {w0 w1 w3 : Value} {x : Int32} : WP V 114 43 [w0, w1, .int x, w3] st t I L R Q = WP V 114 44 [w0, w1, .int x, w3] (.int x :: st) t I L R Q := wp_go rfl
theorem i114_44  : WP V 114 44 ls st t I L R Q = WP V 114 45 ls (.int (nI 1) :: st) t I L R Q := wp_go rfl
theorem i114_45 {x y : Int32} : WP V 114 45 ls (.int y :: .int x :: st) t I L R Q = WP V 114 46 ls (.int (x + y) :: st) t I L R Q := wp_go rfl
theorem i114_46 {k j : Nat} (h2 : m_ar k 2 612 = true) (h1 : k < t) (h3 : j < 612) : WP V 114 46 ls (.int (nI j) :: .ref k :: st) t I L R Q = WP V 114 47 ls (.int (I k j) :: st) t I L R Q := wp_iaload rfl (by decide) h1 h2 h3
theorem i114_47 {k j : Nat} {x : Int32} (h2 : m_ar k 2 612 = true) (h1 : k < t) (h3 : j < 612) : WP V 114 47 ls (.int x :: .int (nI j) :: .ref k :: st) t I L R Q = WP V 114 48 ls st t (m_sc I k (m_sc (I k) j x)) L R Q := wp_iastore rfl (by decide) h1 h2 h3
theorem i114_48 {w1 w2 w3 : Value} {x : Nat} : WP V 114 48 [.ref x, w1, w2, w3] st t I L R Q = WP V 114 49 [.ref x, w1, w2, w3] (.ref x :: st) t I L R Q := wp_go rfl
theorem i114_49 {k : Nat} (h1 : k < t) (h2 : m_ob k 8 = true) : WP V 114 49 ls (.ref k :: st) t I L R Q = WP V 114 50 ls (m_rv (R k 0) :: st) t I L R Q := wp_getR rfl (by decide) h1 h2
theorem i114_50 {w0 w1 w3 : Value} {x : Int32} : WP V 114 50 [w0, w1, .int x, w3] st t I L R Q = WP V 114 51 [w0, w1, .int x, w3] (.int x :: st) t I L R Q := wp_go rfl
theorem i114_51  : WP V 114 51 ls st t I L R Q = WP V 114 52 ls (.int (nI 15) :: st) t I L R Q := wp_go rfl
theorem i114_52 {x y : Int32} : WP V 114 52 ls (.int y :: .int x :: st) t I L R Q = WP V 114 53 ls (.int (x + y) :: st) t I L R Q := wp_go rfl
theorem i114_53  : WP V 114 53 ls st t I L R Q = WP V 114 54 ls (.int (nI 1) :: st) t I L R Q := wp_go rfl
theorem i114_54 {k j : Nat} {x : Int32} (h2 : m_ar k 2 612 = true) (h1 : k < t) (h3 : j < 612) : WP V 114 54 ls (.int x :: .int (nI j) :: .ref k :: st) t I L R Q = WP V 114 55 ls st t (m_sc I k (m_sc (I k) j x)) L R Q := wp_iastore rfl (by decide) h1 h2 h3
theorem i114_55 {w1 w2 w3 : Value} {x : Nat} : WP V 114 55 [.ref x, w1, w2, w3] st t I L R Q = WP V 114 56 [.ref x, w1, w2, w3] (.ref x :: st) t I L R Q := wp_go rfl
theorem i114_56 {k : Nat} (h1 : k < t) (h2 : m_ob k 8 = true) : WP V 114 56 ls (.ref k :: st) t I L R Q = WP V 114 57 ls (m_rv (R k 0) :: st) t I L R Q := wp_getR rfl (by decide) h1 h2
theorem i114_57 {w0 w1 w3 : Value} {x : Int32} : WP V 114 57 [w0, w1, .int x, w3] st t I L R Q = WP V 114 58 [w0, w1, .int x, w3] (.int x :: st) t I L R Q := wp_go rfl
theorem i114_58  : WP V 114 58 ls st t I L R Q = WP V 114 59 ls (.int (nI 16) :: st) t I L R Q := wp_go rfl
theorem i114_59 {x y : Int32} : WP V 114 59 ls (.int y :: .int x :: st) t I L R Q = WP V 114 60 ls (.int (x + y) :: st) t I L R Q := wp_go rfl
theorem i114_60  : WP V 114 60 ls st t I L R Q = WP V 114 61 ls (.int (-1) :: st) t I L R Q := wp_go rfl
theorem i114_61 {k j : Nat} {x : Int32} (h2 : m_ar k 2 612 = true) (h1 : k < t) (h3 : j < 612) : WP V 114 61 ls (.int x :: .int (nI j) :: .ref k :: st) t I L R Q = WP V 114 62 ls st t (m_sc I k (m_sc (I k) j x)) L R Q := wp_iastore rfl (by decide) h1 h2 h3
theorem i114_62 {w1 w2 w3 : Value} {x : Nat} : WP V 114 62 [.ref x, w1, w2, w3] st t I L R Q = WP V 114 63 [.ref x, w1, w2, w3] (.ref x :: st) t I L R Q := wp_go rfl
theorem i114_63 {k : Nat} (h1 : k < t) (h2 : m_ob k 8 = true) : WP V 114 63 ls (.ref k :: st) t I L R Q = WP V 114 64 ls (m_rv (R k 0) :: st) t I L R Q := wp_getR rfl (by decide) h1 h2
theorem i114_64 {w0 w1 w3 : Value} {x : Int32} : WP V 114 64 [w0, w1, .int x, w3] st t I L R Q = WP V 114 65 [w0, w1, .int x, w3] (.int x :: st) t I L R Q := wp_go rfl
theorem i114_65  : WP V 114 65 ls st t I L R Q = WP V 114 66 ls (.int (nI 17) :: st) t I L R Q := wp_go rfl
theorem i114_66 {x y : Int32} : WP V 114 66 ls (.int y :: .int x :: st) t I L R Q = WP V 114 67 ls (.int (x + y) :: st) t I L R Q := wp_go rfl
theorem i114_67  : WP V 114 67 ls st t I L R Q = WP V 114 68 ls (.int (-1) :: st) t I L R Q := wp_go rfl
theorem i114_68 {k j : Nat} {x : Int32} (h2 : m_ar k 2 612 = true) (h1 : k < t) (h3 : j < 612) : WP V 114 68 ls (.int x :: .int (nI j) :: .ref k :: st) t I L R Q = WP V 114 69 ls st t (m_sc I k (m_sc (I k) j x)) L R Q := wp_iastore rfl (by decide) h1 h2 h3
theorem i114_69  : WP V 114 69 ls [] t I L R Q = Q none t I L R := wp_rtv rfl rfl
-- TransactionCellsModel.clearThread(I)V
theorem i115_0 {w0 w2 w3 w4 : Value} {x : Int32} : WP V 115 0 [w0, .int x, w2, w3, w4] st t I L R Q = WP V 115 1 [w0, .int x, w2, w3, w4] (.int x :: st) t I L R Q := wp_go rfl
theorem i115_1 {x0 : Int32}  : WP V 115 1 ls [.int x0] t I L R Q = WPC V 113 [.int x0] 115 2 ls [] t I L R Q := wp_cls (wp_ics rfl (by decide)) (by decide) (Nat.le_of_ble_eq_true rfl) rfl rfl (Nat.le_of_ble_eq_true rfl) (Nat.le_of_ble_eq_true rfl)
theorem i115_2 {p : Int32} {w0 w2 w3 w4 : Value} {x : Int32} : WP V 115 2 [w0, .int p, w2, w3, w4] (.int x :: st) t I L R Q = WP V 115 3 [w0, .int p, .int x, w3, w4] st t I L R Q := wp_go rfl
theorem i115_3 {w1 w2 w3 w4 : Value} {x : Nat} : WP V 115 3 [.ref x, w1, w2, w3, w4] st t I L R Q = WP V 115 4 [.ref x, w1, w2, w3, w4] (.ref x :: st) t I L R Q := wp_go rfl
theorem i115_4 {k : Nat} (h1 : k < t) (h2 : m_ob k 8 = true) : WP V 115 4 ls (.ref k :: st) t I L R Q = WP V 115 5 ls (m_rv (R k 0) :: st) t I L R Q := wp_getR rfl (by decide) h1 h2
theorem i115_5 {w0 w1 w3 w4 : Value} {x : Int32} : WP V 115 5 [w0, w1, .int x, w3, w4] st t I L R Q = WP V 115 6 [w0, w1, .int x, w3, w4] (.int x :: st) t I L R Q := wp_go rfl
theorem i115_6  : WP V 115 6 ls st t I L R Q = WP V 115 7 ls (.int (nI 7) :: st) t I L R Q := wp_go rfl
theorem i115_7 {x y : Int32} : WP V 115 7 ls (.int y :: .int x :: st) t I L R Q = WP V 115 8 ls (.int (x + y) :: st) t I L R Q := wp_go rfl
theorem i115_8 {k j : Nat} (h2 : m_ar k 2 612 = true) (h1 : k < t) (h3 : j < 612) : WP V 115 8 ls (.int (nI j) :: .ref k :: st) t I L R Q = WP V 115 9 ls (.int (I k j) :: st) t I L R Q := wp_iaload rfl (by decide) h1 h2 h3
theorem i115_9 {p : Int32} {w0 w1 w3 w4 : Value} {x : Int32} : WP V 115 9 [w0, w1, .int p, w3, w4] (.int x :: st) t I L R Q = WP V 115 10 [w0, w1, .int p, .int x, w4] st t I L R Q := wp_go rfl
theorem i115_10  : WP V 115 10 ls st t I L R Q = WP V 115 11 ls (.int (nI 0) :: st) t I L R Q := wp_go rfl
theorem i115_11 {p : Int32} {w0 w1 w2 w4 : Value} {x : Int32} : WP V 115 11 [w0, w1, w2, .int p, w4] (.int x :: st) t I L R Q = WP V 115 12 [w0, w1, w2, .int p, .int x] st t I L R Q := wp_go rfl
theorem i115_12 {w0 w1 w2 w3 : Value} {x : Int32} : WP V 115 12 [w0, w1, w2, w3, .int x] st t I L R Q = WP V 115 13 [w0, w1, w2, w3, .int x] (.int x :: st) t I L R Q := wp_go rfl
theorem i115_13  : WP V 115 13 ls st t I L R Q = WP V 115 14 ls (.int (nI 154) :: st) t I L R Q := wp_go rfl
theorem i115_14 {x y : Int32} : WP V 115 14 ls (.int y :: .int x :: st) t I L R Q = if y ≤ x then WP V 115 24 ls st t I L R Q else WP V 115 15 ls st t I L R Q := wp_br (c := m_cc .ge x y) rfl rfl
theorem i115_15 {w1 w2 w3 w4 : Value} {x : Nat} : WP V 115 15 [.ref x, w1, w2, w3, w4] st t I L R Q = WP V 115 16 [.ref x, w1, w2, w3, w4] (.ref x :: st) t I L R Q := wp_go rfl
theorem i115_16 {k : Nat} (h1 : k < t) (h2 : m_ob k 8 = true) : WP V 115 16 ls (.ref k :: st) t I L R Q = WP V 115 17 ls (m_rv (R k 0) :: st) t I L R Q := wp_getR rfl (by decide) h1 h2
theorem i115_17 {w0 w1 w3 w4 : Value} {x : Int32} : WP V 115 17 [w0, w1, .int x, w3, w4] st t I L R Q = WP V 115 18 [w0, w1, .int x, w3, w4] (.int x :: st) t I L R Q := wp_go rfl
theorem i115_18 {w0 w1 w2 w3 : Value} {x : Int32} : WP V 115 18 [w0, w1, w2, w3, .int x] st t I L R Q = WP V 115 19 [w0, w1, w2, w3, .int x] (.int x :: st) t I L R Q := wp_go rfl
theorem i115_19 {x y : Int32} : WP V 115 19 ls (.int y :: .int x :: st) t I L R Q = WP V 115 20 ls (.int (x + y) :: st) t I L R Q := wp_go rfl
theorem i115_20  : WP V 115 20 ls st t I L R Q = WP V 115 21 ls (.int (nI 0) :: st) t I L R Q := wp_go rfl
theorem i115_21 {k j : Nat} {x : Int32} (h2 : m_ar k 2 612 = true) (h1 : k < t) (h3 : j < 612) : WP V 115 21 ls (.int x :: .int (nI j) :: .ref k :: st) t I L R Q = WP V 115 22 ls st t (m_sc I k (m_sc (I k) j x)) L R Q := wp_iastore rfl (by decide) h1 h2 h3
theorem i115_22 {p : Int32} {w0 w1 w2 : Value} {x : Int32} : WP V 115 22 [w0, w1, w2, .int p, .int x] st t I L R Q = WP V 115 23 [w0, w1, w2, .int p, .int (x + (nI 1))] st t I L R Q := wp_go rfl
theorem i115_23  : WP V 115 23 ls st t I L R Q = WP V 115 12 ls st t I L R Q := wp_go rfl
theorem i115_24 {w1 w2 w3 w4 : Value} {x : Nat} : WP V 115 24 [.ref x, w1, w2, w3, w4] st t I L R Q = WP V 115 25 [.ref x, w1, w2, w3, w4] (.ref x :: st) t I L R Q := wp_go rfl
theorem i115_25 {k : Nat} (h1 : k < t) (h2 : m_ob k 8 = true) : WP V 115 25 ls (.ref k :: st) t I L R Q = WP V 115 26 ls (m_rv (R k 0) :: st) t I L R Q := wp_getR rfl (by decide) h1 h2
theorem i115_26 {w0 w1 w3 w4 : Value} {x : Int32} : WP V 115 26 [w0, w1, .int x, w3, w4] st t I L R Q = WP V 115 27 [w0, w1, .int x, w3, w4] (.int x :: st) t I L R Q := wp_go rfl
theorem i115_27  : WP V 115 27 ls st t I L R Q = WP V 115 28 ls (.int (nI 7) :: st) t I L R Q := wp_go rfl
theorem i115_28 {x y : Int32} : WP V 115 28 ls (.int y :: .int x :: st) t I L R Q = WP V 115 29 ls (.int (x + y) :: st) t I L R Q := wp_go rfl
theorem i115_29 {w0 w1 w2 w4 : Value} {x : Int32} : WP V 115 29 [w0, w1, w2, .int x, w4] st t I L R Q = WP V 115 30 [w0, w1, w2, .int x, w4] (.int x :: st) t I L R Q := wp_go rfl
theorem i115_30 {k j : Nat} {x : Int32} (h2 : m_ar k 2 612 = true) (h1 : k < t) (h3 : j < 612) : WP V 115 30 ls (.int x :: .int (nI j) :: .ref k :: st) t I L R Q = WP V 115 31 ls st t (m_sc I k (m_sc (I k) j x)) L R Q := wp_iastore rfl (by decide) h1 h2 h3
theorem i115_31 {w1 w2 w3 w4 : Value} {x : Nat} : WP V 115 31 [.ref x, w1, w2, w3, w4] st t I L R Q = WP V 115 32 [.ref x, w1, w2, w3, w4] (.ref x :: st) t I L R Q := wp_go rfl
theorem i115_32 {w0 w2 w3 w4 : Value} {x : Int32} : WP V 115 32 [w0, .int x, w2, w3, w4] st t I L R Q = WP V 115 33 [w0, .int x, w2, w3, w4] (.int x :: st) t I L R Q := wp_go rfl
theorem i115_33 {x0 : Int32} {x1 : Nat}  (h1 : x1 < t) (h2 : m_ob x1 8 = true) : WP V 115 33 ls [.int x0, .ref x1] t I L R Q = WPC V 116 [.ref x1, .int x0] 115 34 ls [] t I L R Q := wp_cls (wp_icv rfl rfl h1 h2) (by decide) (Nat.le_of_ble_eq_true rfl) rfl rfl (Nat.le_of_ble_eq_true rfl) (Nat.le_of_ble_eq_true rfl)
theorem i115_34  : WP V 115 34 ls [] t I L R Q = Q none t I L R := wp_rtv rfl rfl
-- TransactionCellsModel.clearTransaction(I)V
theorem i116_0 {w0 w2 w3 : Value} {x : Int32} : WP V 116 0 [w0, .int x, w2, w3] st t I L R Q = WP V 116 1 [w0, .int x, w2, w3] (.int x :: st) t I L R Q := wp_go rfl
theorem i116_1 {x0 : Int32}  : WP V 116 1 ls [.int x0] t I L R Q = WPC V 113 [.int x0] 116 2 ls [] t I L R Q := wp_cls (wp_ics rfl (by decide)) (by decide) (Nat.le_of_ble_eq_true rfl) rfl rfl (Nat.le_of_ble_eq_true rfl) (Nat.le_of_ble_eq_true rfl)
theorem i116_2 {p : Int32} {w0 w2 w3 : Value} {x : Int32} : WP V 116 2 [w0, .int p, w2, w3] (.int x :: st) t I L R Q = WP V 116 3 [w0, .int p, .int x, w3] st t I L R Q := wp_go rfl
theorem i116_3  : WP V 116 3 ls st t I L R Q = WP V 116 4 ls (.int (nI 101) :: st) t I L R Q := wp_go rfl
theorem i116_4 {p : Int32} {w0 w1 w3 : Value} {x : Int32} : WP V 116 4 [w0, w1, .int p, w3] (.int x :: st) t I L R Q = WP V 116 5 [w0, w1, .int p, .int x] st t I L R Q := wp_go rfl
theorem i116_5 {w0 w1 w2 : Value} {x : Int32} : WP V 116 5 [w0, w1, w2, .int x] st t I L R Q = WP V 116 6 [w0, w1, w2, .int x] (.int x :: st) t I L R Q := wp_go rfl
theorem i116_6  : WP V 116 6 ls st t I L R Q = WP V 116 7 ls (.int (nI 151) :: st) t I L R Q := wp_go rfl
theorem i116_7 {x y : Int32} : WP V 116 7 ls (.int y :: .int x :: st) t I L R Q = if y ≤ x then WP V 116 17 ls st t I L R Q else WP V 116 8 ls st t I L R Q := wp_br (c := m_cc .ge x y) rfl rfl
theorem i116_8 {w1 w2 w3 : Value} {x : Nat} : WP V 116 8 [.ref x, w1, w2, w3] st t I L R Q = WP V 116 9 [.ref x, w1, w2, w3] (.ref x :: st) t I L R Q := wp_go rfl
theorem i116_9 {k : Nat} (h1 : k < t) (h2 : m_ob k 8 = true) : WP V 116 9 ls (.ref k :: st) t I L R Q = WP V 116 10 ls (m_rv (R k 0) :: st) t I L R Q := wp_getR rfl (by decide) h1 h2
theorem i116_10 {w0 w1 w3 : Value} {x : Int32} : WP V 116 10 [w0, w1, .int x, w3] st t I L R Q = WP V 116 11 [w0, w1, .int x, w3] (.int x :: st) t I L R Q := wp_go rfl
theorem i116_11 {w0 w1 w2 : Value} {x : Int32} : WP V 116 11 [w0, w1, w2, .int x] st t I L R Q = WP V 116 12 [w0, w1, w2, .int x] (.int x :: st) t I L R Q := wp_go rfl
theorem i116_12 {x y : Int32} : WP V 116 12 ls (.int y :: .int x :: st) t I L R Q = WP V 116 13 ls (.int (x + y) :: st) t I L R Q := wp_go rfl
theorem i116_13  : WP V 116 13 ls st t I L R Q = WP V 116 14 ls (.int (nI 0) :: st) t I L R Q := wp_go rfl
theorem i116_14 {k j : Nat} {x : Int32} (h2 : m_ar k 2 612 = true) (h1 : k < t) (h3 : j < 612) : WP V 116 14 ls (.int x :: .int (nI j) :: .ref k :: st) t I L R Q = WP V 116 15 ls st t (m_sc I k (m_sc (I k) j x)) L R Q := wp_iastore rfl (by decide) h1 h2 h3
theorem i116_15 {p : Int32} {w0 w1 : Value} {x : Int32} : WP V 116 15 [w0, w1, .int p, .int x] st t I L R Q = WP V 116 16 [w0, w1, .int p, .int (x + (nI 1))] st t I L R Q := wp_go rfl
theorem i116_16  : WP V 116 16 ls st t I L R Q = WP V 116 5 ls st t I L R Q := wp_go rfl
theorem i116_17 {w1 w2 w3 : Value} {x : Nat} : WP V 116 17 [.ref x, w1, w2, w3] st t I L R Q = WP V 116 18 [.ref x, w1, w2, w3] (.ref x :: st) t I L R Q := wp_go rfl
theorem i116_18 {w0 w2 w3 : Value} {x : Int32} : WP V 116 18 [w0, .int x, w2, w3] st t I L R Q = WP V 116 19 [w0, .int x, w2, w3] (.int x :: st) t I L R Q := wp_go rfl
theorem i116_19 {x0 : Int32} {x1 : Nat}  (h1 : x1 < t) (h2 : m_ob x1 8 = true) : WP V 116 19 ls [.int x0, .ref x1] t I L R Q = WPC V 117 [.ref x1, .int x0] 116 20 ls [] t I L R Q := wp_cls (wp_icv rfl rfl h1 h2) (by decide) (Nat.le_of_ble_eq_true rfl) rfl rfl (Nat.le_of_ble_eq_true rfl) (Nat.le_of_ble_eq_true rfl)
theorem i116_20 {w1 w2 w3 : Value} {x : Nat} : WP V 116 20 [.ref x, w1, w2, w3] st t I L R Q = WP V 116 21 [.ref x, w1, w2, w3] (.ref x :: st) t I L R Q := wp_go rfl
theorem i116_21 {w0 w2 w3 : Value} {x : Int32} : WP V 116 21 [w0, .int x, w2, w3] st t I L R Q = WP V 116 22 [w0, .int x, w2, w3] (.int x :: st) t I L R Q := wp_go rfl
theorem i116_22 {x0 : Int32} {x1 : Nat}  (h1 : x1 < t) (h2 : m_ob x1 8 = true) : WP V 116 22 ls [.int x0, .ref x1] t I L R Q = WPC V 118 [.ref x1, .int x0] 116 23 ls [] t I L R Q := wp_cls (wp_icv rfl rfl h1 h2) (by decide) (Nat.le_of_ble_eq_true rfl) rfl rfl (Nat.le_of_ble_eq_true rfl) (Nat.le_of_ble_eq_true rfl)
theorem i116_23  : WP V 116 23 ls [] t I L R Q = Q none t I L R := wp_rtv rfl rfl
-- TransactionCellsModel.emptyReads(I)V
theorem i117_0 {w0 w2 w3 : Value} {x : Int32} : WP V 117 0 [w0, .int x, w2, w3] st t I L R Q = WP V 117 1 [w0, .int x, w2, w3] (.int x :: st) t I L R Q := wp_go rfl
theorem i117_1 {x0 : Int32}  : WP V 117 1 ls [.int x0] t I L R Q = WPC V 113 [.int x0] 117 2 ls [] t I L R Q := wp_cls (wp_ics rfl (by decide)) (by decide) (Nat.le_of_ble_eq_true rfl) rfl rfl (Nat.le_of_ble_eq_true rfl) (Nat.le_of_ble_eq_true rfl)
theorem i117_2 {p : Int32} {w0 w2 w3 : Value} {x : Int32} : WP V 117 2 [w0, .int p, w2, w3] (.int x :: st) t I L R Q = WP V 117 3 [w0, .int p, .int x, w3] st t I L R Q := wp_go rfl
theorem i117_3  : WP V 117 3 ls st t I L R Q = WP V 117 4 ls (.int (nI 0) :: st) t I L R Q := wp_go rfl
theorem i117_4 {p : Int32} {w0 w1 w3 : Value} {x : Int32} : WP V 117 4 [w0, w1, .int p, w3] (.int x :: st) t I L R Q = WP V 117 5 [w0, w1, .int p, .int x] st t I L R Q := wp_go rfl
theorem i117_5 {w0 w1 w2 : Value} {x : Int32} : WP V 117 5 [w0, w1, w2, .int x] st t I L R Q = WP V 117 6 [w0, w1, w2, .int x] (.int x :: st) t I L R Q := wp_go rfl
theorem i117_6  : WP V 117 6 ls st t I L R Q = WP V 117 7 ls (.int (nI 8) :: st) t I L R Q := wp_go rfl
theorem i117_7 {x y : Int32} : WP V 117 7 ls (.int y :: .int x :: st) t I L R Q = if y ≤ x then WP V 117 43 ls st t I L R Q else WP V 117 8 ls st t I L R Q := wp_br (c := m_cc .ge x y) rfl rfl
theorem i117_8 {w1 w2 w3 : Value} {x : Nat} : WP V 117 8 [.ref x, w1, w2, w3] st t I L R Q = WP V 117 9 [.ref x, w1, w2, w3] (.ref x :: st) t I L R Q := wp_go rfl
theorem i117_9 {k : Nat} (h1 : k < t) (h2 : m_ob k 8 = true) : WP V 117 9 ls (.ref k :: st) t I L R Q = WP V 117 10 ls (m_rv (R k 0) :: st) t I L R Q := wp_getR rfl (by decide) h1 h2
theorem i117_10 {w0 w1 w3 : Value} {x : Int32} : WP V 117 10 [w0, w1, .int x, w3] st t I L R Q = WP V 117 11 [w0, w1, .int x, w3] (.int x :: st) t I L R Q := wp_go rfl
theorem i117_11  : WP V 117 11 ls st t I L R Q = WP V 117 12 ls (.int (nI 111) :: st) t I L R Q := wp_go rfl
theorem i117_12 {x y : Int32} : WP V 117 12 ls (.int y :: .int x :: st) t I L R Q = WP V 117 13 ls (.int (x + y) :: st) t I L R Q := wp_go rfl
theorem i117_13 {w0 w1 w2 : Value} {x : Int32} : WP V 117 13 [w0, w1, w2, .int x] st t I L R Q = WP V 117 14 [w0, w1, w2, .int x] (.int x :: st) t I L R Q := wp_go rfl
theorem i117_14 {x y : Int32} : WP V 117 14 ls (.int y :: .int x :: st) t I L R Q = WP V 117 15 ls (.int (x + y) :: st) t I L R Q := wp_go rfl
theorem i117_15  : WP V 117 15 ls st t I L R Q = WP V 117 16 ls (.int (-1) :: st) t I L R Q := wp_go rfl
theorem i117_16 {k j : Nat} {x : Int32} (h2 : m_ar k 2 612 = true) (h1 : k < t) (h3 : j < 612) : WP V 117 16 ls (.int x :: .int (nI j) :: .ref k :: st) t I L R Q = WP V 117 17 ls st t (m_sc I k (m_sc (I k) j x)) L R Q := wp_iastore rfl (by decide) h1 h2 h3
theorem i117_17 {w1 w2 w3 : Value} {x : Nat} : WP V 117 17 [.ref x, w1, w2, w3] st t I L R Q = WP V 117 18 [.ref x, w1, w2, w3] (.ref x :: st) t I L R Q := wp_go rfl
theorem i117_18 {k : Nat} (h1 : k < t) (h2 : m_ob k 8 = true) : WP V 117 18 ls (.ref k :: st) t I L R Q = WP V 117 19 ls (m_rv (R k 0) :: st) t I L R Q := wp_getR rfl (by decide) h1 h2
theorem i117_19 {w0 w1 w3 : Value} {x : Int32} : WP V 117 19 [w0, w1, .int x, w3] st t I L R Q = WP V 117 20 [w0, w1, .int x, w3] (.int x :: st) t I L R Q := wp_go rfl
theorem i117_20  : WP V 117 20 ls st t I L R Q = WP V 117 21 ls (.int (nI 119) :: st) t I L R Q := wp_go rfl
theorem i117_21 {x y : Int32} : WP V 117 21 ls (.int y :: .int x :: st) t I L R Q = WP V 117 22 ls (.int (x + y) :: st) t I L R Q := wp_go rfl
theorem i117_22  : WP V 117 22 ls st t I L R Q = WP V 117 23 ls (.int (nI 2) :: st) t I L R Q := wp_go rfl
theorem i117_23 {w0 w1 w2 : Value} {x : Int32} : WP V 117 23 [w0, w1, w2, .int x] st t I L R Q = WP V 117 24 [w0, w1, w2, .int x] (.int x :: st) t I L R Q := wp_go rfl
theorem i117_24 {x y : Int32} : WP V 117 24 ls (.int y :: .int x :: st) t I L R Q = WP V 117 25 ls (.int (x * y) :: st) t I L R Q := wp_go rfl
theorem i117_25 {x y : Int32} : WP V 117 25 ls (.int y :: .int x :: st) t I L R Q = WP V 117 26 ls (.int (x + y) :: st) t I L R Q := wp_go rfl
theorem i117_26  : WP V 117 26 ls st t I L R Q = WP V 117 27 ls (.int (-1) :: st) t I L R Q := wp_go rfl
theorem i117_27 {k j : Nat} {x : Int32} (h2 : m_ar k 2 612 = true) (h1 : k < t) (h3 : j < 612) : WP V 117 27 ls (.int x :: .int (nI j) :: .ref k :: st) t I L R Q = WP V 117 28 ls st t (m_sc I k (m_sc (I k) j x)) L R Q := wp_iastore rfl (by decide) h1 h2 h3
theorem i117_28 {w1 w2 w3 : Value} {x : Nat} : WP V 117 28 [.ref x, w1, w2, w3] st t I L R Q = WP V 117 29 [.ref x, w1, w2, w3] (.ref x :: st) t I L R Q := wp_go rfl
theorem i117_29 {k : Nat} (h1 : k < t) (h2 : m_ob k 8 = true) : WP V 117 29 ls (.ref k :: st) t I L R Q = WP V 117 30 ls (m_rv (R k 0) :: st) t I L R Q := wp_getR rfl (by decide) h1 h2
theorem i117_30 {w0 w1 w3 : Value} {x : Int32} : WP V 117 30 [w0, w1, .int x, w3] st t I L R Q = WP V 117 31 [w0, w1, .int x, w3] (.int x :: st) t I L R Q := wp_go rfl
theorem i117_31  : WP V 117 31 ls st t I L R Q = WP V 117 32 ls (.int (nI 119) :: st) t I L R Q := wp_go rfl
theorem i117_32 {x y : Int32} : WP V 117 32 ls (.int y :: .int x :: st) t I L R Q = WP V 117 33 ls (.int (x + y) :: st) t I L R Q := wp_go rfl
theorem i117_33  : WP V 117 33 ls st t I L R Q = WP V 117 34 ls (.int (nI 2) :: st) t I L R Q := wp_go rfl
theorem i117_34 {w0 w1 w2 : Value} {x : Int32} : WP V 117 34 [w0, w1, w2, .int x] st t I L R Q = WP V 117 35 [w0, w1, w2, .int x] (.int x :: st) t I L R Q := wp_go rfl
theorem i117_35 {x y : Int32} : WP V 117 35 ls (.int y :: .int x :: st) t I L R Q = WP V 117 36 ls (.int (x * y) :: st) t I L R Q := wp_go rfl
theorem i117_36 {x y : Int32} : WP V 117 36 ls (.int y :: .int x :: st) t I L R Q = WP V 117 37 ls (.int (x + y) :: st) t I L R Q := wp_go rfl
theorem i117_37  : WP V 117 37 ls st t I L R Q = WP V 117 38 ls (.int (nI 1) :: st) t I L R Q := wp_go rfl
theorem i117_38 {x y : Int32} : WP V 117 38 ls (.int y :: .int x :: st) t I L R Q = WP V 117 39 ls (.int (x + y) :: st) t I L R Q := wp_go rfl
theorem i117_39  : WP V 117 39 ls st t I L R Q = WP V 117 40 ls (.int (nI 0) :: st) t I L R Q := wp_go rfl
theorem i117_40 {k j : Nat} {x : Int32} (h2 : m_ar k 2 612 = true) (h1 : k < t) (h3 : j < 612) : WP V 117 40 ls (.int x :: .int (nI j) :: .ref k :: st) t I L R Q = WP V 117 41 ls st t (m_sc I k (m_sc (I k) j x)) L R Q := wp_iastore rfl (by decide) h1 h2 h3
theorem i117_41 {p : Int32} {w0 w1 : Value} {x : Int32} : WP V 117 41 [w0, w1, .int p, .int x] st t I L R Q = WP V 117 42 [w0, w1, .int p, .int (x + (nI 1))] st t I L R Q := wp_go rfl
theorem i117_42  : WP V 117 42 ls st t I L R Q = WP V 117 5 ls st t I L R Q := wp_go rfl
theorem i117_43  : WP V 117 43 ls [] t I L R Q = Q none t I L R := wp_rtv rfl rfl
-- TransactionCellsModel.emptyLog(I)V
theorem i118_0 {w0 w2 w3 : Value} {x : Int32} : WP V 118 0 [w0, .int x, w2, w3] st t I L R Q = WP V 118 1 [w0, .int x, w2, w3] (.int x :: st) t I L R Q := wp_go rfl
theorem i118_1 {x0 : Int32}  : WP V 118 1 ls [.int x0] t I L R Q = WPC V 113 [.int x0] 118 2 ls [] t I L R Q := wp_cls (wp_ics rfl (by decide)) (by decide) (Nat.le_of_ble_eq_true rfl) rfl rfl (Nat.le_of_ble_eq_true rfl) (Nat.le_of_ble_eq_true rfl)
theorem i118_2 {p : Int32} {w0 w2 w3 : Value} {x : Int32} : WP V 118 2 [w0, .int p, w2, w3] (.int x :: st) t I L R Q = WP V 118 3 [w0, .int p, .int x, w3] st t I L R Q := wp_go rfl
theorem i118_3  : WP V 118 3 ls st t I L R Q = WP V 118 4 ls (.int (nI 0) :: st) t I L R Q := wp_go rfl
theorem i118_4 {p : Int32} {w0 w1 w3 : Value} {x : Int32} : WP V 118 4 [w0, w1, .int p, w3] (.int x :: st) t I L R Q = WP V 118 5 [w0, w1, .int p, .int x] st t I L R Q := wp_go rfl
theorem i118_5 {w0 w1 w2 : Value} {x : Int32} : WP V 118 5 [w0, w1, w2, .int x] st t I L R Q = WP V 118 6 [w0, w1, w2, .int x] (.int x :: st) t I L R Q := wp_go rfl
theorem i118_6  : WP V 118 6 ls st t I L R Q = WP V 118 7 ls (.int (nI 8) :: st) t I L R Q := wp_go rfl
theorem i118_7 {x y : Int32} : WP V 118 7 ls (.int y :: .int x :: st) t I L R Q = if y ≤ x then WP V 118 34 ls st t I L R Q else WP V 118 8 ls st t I L R Q := wp_br (c := m_cc .ge x y) rfl rfl
theorem i118_8 {w1 w2 w3 : Value} {x : Nat} : WP V 118 8 [.ref x, w1, w2, w3] st t I L R Q = WP V 118 9 [.ref x, w1, w2, w3] (.ref x :: st) t I L R Q := wp_go rfl
theorem i118_9 {k : Nat} (h1 : k < t) (h2 : m_ob k 8 = true) : WP V 118 9 ls (.ref k :: st) t I L R Q = WP V 118 10 ls (m_rv (R k 0) :: st) t I L R Q := wp_getR rfl (by decide) h1 h2
theorem i118_10 {w0 w1 w3 : Value} {x : Int32} : WP V 118 10 [w0, w1, .int x, w3] st t I L R Q = WP V 118 11 [w0, w1, .int x, w3] (.int x :: st) t I L R Q := wp_go rfl
theorem i118_11  : WP V 118 11 ls st t I L R Q = WP V 118 12 ls (.int (nI 135) :: st) t I L R Q := wp_go rfl
theorem i118_12 {x y : Int32} : WP V 118 12 ls (.int y :: .int x :: st) t I L R Q = WP V 118 13 ls (.int (x + y) :: st) t I L R Q := wp_go rfl
theorem i118_13  : WP V 118 13 ls st t I L R Q = WP V 118 14 ls (.int (nI 2) :: st) t I L R Q := wp_go rfl
theorem i118_14 {w0 w1 w2 : Value} {x : Int32} : WP V 118 14 [w0, w1, w2, .int x] st t I L R Q = WP V 118 15 [w0, w1, w2, .int x] (.int x :: st) t I L R Q := wp_go rfl
theorem i118_15 {x y : Int32} : WP V 118 15 ls (.int y :: .int x :: st) t I L R Q = WP V 118 16 ls (.int (x * y) :: st) t I L R Q := wp_go rfl
theorem i118_16 {x y : Int32} : WP V 118 16 ls (.int y :: .int x :: st) t I L R Q = WP V 118 17 ls (.int (x + y) :: st) t I L R Q := wp_go rfl
theorem i118_17  : WP V 118 17 ls st t I L R Q = WP V 118 18 ls (.int (-1) :: st) t I L R Q := wp_go rfl
theorem i118_18 {k j : Nat} {x : Int32} (h2 : m_ar k 2 612 = true) (h1 : k < t) (h3 : j < 612) : WP V 118 18 ls (.int x :: .int (nI j) :: .ref k :: st) t I L R Q = WP V 118 19 ls st t (m_sc I k (m_sc (I k) j x)) L R Q := wp_iastore rfl (by decide) h1 h2 h3
theorem i118_19 {w1 w2 w3 : Value} {x : Nat} : WP V 118 19 [.ref x, w1, w2, w3] st t I L R Q = WP V 118 20 [.ref x, w1, w2, w3] (.ref x :: st) t I L R Q := wp_go rfl
theorem i118_20 {k : Nat} (h1 : k < t) (h2 : m_ob k 8 = true) : WP V 118 20 ls (.ref k :: st) t I L R Q = WP V 118 21 ls (m_rv (R k 0) :: st) t I L R Q := wp_getR rfl (by decide) h1 h2
theorem i118_21 {w0 w1 w3 : Value} {x : Int32} : WP V 118 21 [w0, w1, .int x, w3] st t I L R Q = WP V 118 22 [w0, w1, .int x, w3] (.int x :: st) t I L R Q := wp_go rfl
theorem i118_22  : WP V 118 22 ls st t I L R Q = WP V 118 23 ls (.int (nI 135) :: st) t I L R Q := wp_go rfl
theorem i118_23 {x y : Int32} : WP V 118 23 ls (.int y :: .int x :: st) t I L R Q = WP V 118 24 ls (.int (x + y) :: st) t I L R Q := wp_go rfl
theorem i118_24  : WP V 118 24 ls st t I L R Q = WP V 118 25 ls (.int (nI 2) :: st) t I L R Q := wp_go rfl
theorem i118_25 {w0 w1 w2 : Value} {x : Int32} : WP V 118 25 [w0, w1, w2, .int x] st t I L R Q = WP V 118 26 [w0, w1, w2, .int x] (.int x :: st) t I L R Q := wp_go rfl
theorem i118_26 {x y : Int32} : WP V 118 26 ls (.int y :: .int x :: st) t I L R Q = WP V 118 27 ls (.int (x * y) :: st) t I L R Q := wp_go rfl
theorem i118_27 {x y : Int32} : WP V 118 27 ls (.int y :: .int x :: st) t I L R Q = WP V 118 28 ls (.int (x + y) :: st) t I L R Q := wp_go rfl
theorem i118_28  : WP V 118 28 ls st t I L R Q = WP V 118 29 ls (.int (nI 1) :: st) t I L R Q := wp_go rfl
theorem i118_29 {x y : Int32} : WP V 118 29 ls (.int y :: .int x :: st) t I L R Q = WP V 118 30 ls (.int (x + y) :: st) t I L R Q := wp_go rfl
theorem i118_30  : WP V 118 30 ls st t I L R Q = WP V 118 31 ls (.int (nI 0) :: st) t I L R Q := wp_go rfl
theorem i118_31 {k j : Nat} {x : Int32} (h2 : m_ar k 2 612 = true) (h1 : k < t) (h3 : j < 612) : WP V 118 31 ls (.int x :: .int (nI j) :: .ref k :: st) t I L R Q = WP V 118 32 ls st t (m_sc I k (m_sc (I k) j x)) L R Q := wp_iastore rfl (by decide) h1 h2 h3
theorem i118_32 {p : Int32} {w0 w1 : Value} {x : Int32} : WP V 118 32 [w0, w1, .int p, .int x] st t I L R Q = WP V 118 33 [w0, w1, .int p, .int (x + (nI 1))] st t I L R Q := wp_go rfl
theorem i118_33  : WP V 118 33 ls st t I L R Q = WP V 118 5 ls st t I L R Q := wp_go rfl
theorem i118_34  : WP V 118 34 ls [] t I L R Q = Q none t I L R := wp_rtv rfl rfl
-- TransactionCellsModel.isFresh()Z
theorem i119_0  : WP V 119 0 ls st t I L R Q = WP V 119 1 ls (.int (nI 1) :: st) t I L R Q := wp_go rfl
theorem i119_1 {p : Nat} {w1 w2 : Value} {x : Int32} : WP V 119 1 [.ref p, w1, w2] (.int x :: st) t I L R Q = WP V 119 2 [.ref p, .int x, w2] st t I L R Q := wp_go rfl
theorem i119_2  : WP V 119 2 ls st t I L R Q = WP V 119 3 ls (.int (nI 0) :: st) t I L R Q := wp_go rfl
theorem i119_3 {p : Int32} {w0 w2 : Value} {x : Int32} : WP V 119 3 [w0, .int p, w2] (.int x :: st) t I L R Q = WP V 119 4 [w0, .int p, .int x] st t I L R Q := wp_go rfl
theorem i119_4 {w0 w1 : Value} {x : Int32} : WP V 119 4 [w0, w1, .int x] st t I L R Q = WP V 119 5 [w0, w1, .int x] (.int x :: st) t I L R Q := wp_go rfl
theorem i119_5  : WP V 119 5 ls st t I L R Q = WP V 119 6 ls (.int (nI 3) :: st) t I L R Q := wp_go rfl
theorem i119_6 {x y : Int32} : WP V 119 6 ls (.int y :: .int x :: st) t I L R Q = if y ≤ x then WP V 119 23 ls st t I L R Q else WP V 119 7 ls st t I L R Q := wp_br (c := m_cc .ge x y) rfl rfl
theorem i119_7 {w0 w2 : Value} {x : Int32} : WP V 119 7 [w0, .int x, w2] st t I L R Q = WP V 119 8 [w0, .int x, w2] (.int x :: st) t I L R Q := wp_go rfl
theorem i119_8 {x : Int32} : WP V 119 8 ls (.int x :: st) t I L R Q = if x = nI 0 then WP V 119 19 ls st t I L R Q else WP V 119 9 ls st t I L R Q := wp_br (c := m_cc .eq x 0) rfl rfl
theorem i119_9 {w1 w2 : Value} {x : Nat} : WP V 119 9 [.ref x, w1, w2] st t I L R Q = WP V 119 10 [.ref x, w1, w2] (.ref x :: st) t I L R Q := wp_go rfl
theorem i119_10 {k : Nat} (h1 : k < t) (h2 : m_ob k 8 = true) : WP V 119 10 ls (.ref k :: st) t I L R Q = WP V 119 11 ls (m_rv (R k 0) :: st) t I L R Q := wp_getR rfl (by decide) h1 h2
theorem i119_11 {w0 w1 : Value} {x : Int32} : WP V 119 11 [w0, w1, .int x] st t I L R Q = WP V 119 12 [w0, w1, .int x] (.int x :: st) t I L R Q := wp_go rfl
theorem i119_12 {x0 : Int32} {r0 : Nat} : WP V 119 12 ls [.int x0, .ref r0] t I L R Q = WPC V 113 [.int x0] 119 13 ls [.ref r0] t I L R Q := wp_cls (wp_ics rfl (by decide)) (by decide) (Nat.le_of_ble_eq_true rfl) rfl rfl (Nat.le_of_ble_eq_true rfl) (Nat.le_of_ble_eq_true rfl)
theorem i119_13  : WP V 119 13 ls st t I L R Q = WP V 119 14 ls (.int (nI 0) :: st) t I L R Q := wp_go rfl
theorem i119_14 {x y : Int32} : WP V 119 14 ls (.int y :: .int x :: st) t I L R Q = WP V 119 15 ls (.int (x + y) :: st) t I L R Q := wp_go rfl
theorem i119_15 {k j : Nat} (h2 : m_ar k 2 612 = true) (h1 : k < t) (h3 : j < 612) : WP V 119 15 ls (.int (nI j) :: .ref k :: st) t I L R Q = WP V 119 16 ls (.int (I k j) :: st) t I L R Q := wp_iaload rfl (by decide) h1 h2 h3
theorem i119_16 {x : Int32} : WP V 119 16 ls (.int x :: st) t I L R Q = if x = nI 0 then WP V 119 17 ls st t I L R Q else WP V 119 19 ls st t I L R Q := wp_brn (c := m_cc .ne x 0) rfl rfl
theorem i119_17  : WP V 119 17 ls st t I L R Q = WP V 119 18 ls (.int (nI 1) :: st) t I L R Q := wp_go rfl
theorem i119_18  : WP V 119 18 ls st t I L R Q = WP V 119 20 ls st t I L R Q := wp_go rfl
theorem i119_19  : WP V 119 19 ls st t I L R Q = WP V 119 20 ls (.int (nI 0) :: st) t I L R Q := wp_go rfl
theorem i119_20 {p : Nat} {w1 w2 : Value} {x : Int32} : WP V 119 20 [.ref p, w1, w2] (.int x :: st) t I L R Q = WP V 119 21 [.ref p, .int x, w2] st t I L R Q := wp_go rfl
theorem i119_21 {p : Int32} {w0 : Value} {x : Int32} : WP V 119 21 [w0, .int p, .int x] st t I L R Q = WP V 119 22 [w0, .int p, .int (x + (nI 1))] st t I L R Q := wp_go rfl
theorem i119_22  : WP V 119 22 ls st t I L R Q = WP V 119 4 ls st t I L R Q := wp_go rfl
theorem i119_23 {w0 w2 : Value} {x : Int32} : WP V 119 23 [w0, .int x, w2] st t I L R Q = WP V 119 24 [w0, .int x, w2] (.int x :: st) t I L R Q := wp_go rfl
theorem i119_24 {x : Int32} (h : m_01 x = true) : WP V 119 24 ls [.int x] t I L R Q = Q (some (.int x)) t I L R := wp_rtz rfl rfl h
-- TransactionCellsModel.isReg(I)Z
theorem i120_0 {x : Int32} : WP V 120 0 [.int x] st t I L R Q = WP V 120 1 [.int x] (.int x :: st) t I L R Q := wp_go rfl
theorem i120_1  : WP V 120 1 ls st t I L R Q = WP V 120 2 ls (.int (nI 0) :: st) t I L R Q := wp_go rfl
theorem i120_2  : WP V 120 2 ls st t I L R Q = WP V 120 3 ls (.int (nI 3) :: st) t I L R Q := wp_go rfl
theorem i120_3 {x0 : Int32} {x1 : Int32} {x2 : Int32}  : WP V 120 3 ls [.int x0, .int x1, .int x2] t I L R Q = WPC V 111 [.int x2, .int x1, .int x0] 120 4 ls [] t I L R Q := wp_cls (wp_ics rfl (by decide)) (by decide) (Nat.le_of_ble_eq_true rfl) rfl rfl (Nat.le_of_ble_eq_true rfl) (Nat.le_of_ble_eq_true rfl)
theorem i120_4 {x : Int32} (h : m_01 x = true) : WP V 120 4 ls [.int x] t I L R Q = Q (some (.int x)) t I L R := wp_rtz rfl rfl h
-- TransactionCellsModel.isCell(I)Z
theorem i121_0 {x : Int32} : WP V 121 0 [.int x] st t I L R Q = WP V 121 1 [.int x] (.int x :: st) t I L R Q := wp_go rfl
theorem i121_1  : WP V 121 1 ls st t I L R Q = WP V 121 2 ls (.int (nI 0) :: st) t I L R Q := wp_go rfl
theorem i121_2  : WP V 121 2 ls st t I L R Q = WP V 121 3 ls (.int (nI 7) :: st) t I L R Q := wp_go rfl
theorem i121_3 {x0 : Int32} {x1 : Int32} {x2 : Int32}  : WP V 121 3 ls [.int x0, .int x1, .int x2] t I L R Q = WPC V 111 [.int x2, .int x1, .int x0] 121 4 ls [] t I L R Q := wp_cls (wp_ics rfl (by decide)) (by decide) (Nat.le_of_ble_eq_true rfl) rfl rfl (Nat.le_of_ble_eq_true rfl) (Nat.le_of_ble_eq_true rfl)
theorem i121_4 {x : Int32} (h : m_01 x = true) : WP V 121 4 ls [.int x] t I L R Q = Q (some (.int x)) t I L R := wp_rtz rfl rfl h
-- TransactionCellsModel.isThread(I)Z
theorem i122_0 {x : Int32} : WP V 122 0 [.int x] st t I L R Q = WP V 122 1 [.int x] (.int x :: st) t I L R Q := wp_go rfl
theorem i122_1  : WP V 122 1 ls st t I L R Q = WP V 122 2 ls (.int (nI 0) :: st) t I L R Q := wp_go rfl
theorem i122_2  : WP V 122 2 ls st t I L R Q = WP V 122 3 ls (.int (nI 2) :: st) t I L R Q := wp_go rfl
theorem i122_3 {x0 : Int32} {x1 : Int32} {x2 : Int32}  : WP V 122 3 ls [.int x0, .int x1, .int x2] t I L R Q = WPC V 111 [.int x2, .int x1, .int x0] 122 4 ls [] t I L R Q := wp_cls (wp_ics rfl (by decide)) (by decide) (Nat.le_of_ble_eq_true rfl) rfl rfl (Nat.le_of_ble_eq_true rfl) (Nat.le_of_ble_eq_true rfl)
theorem i122_4 {x : Int32} (h : m_01 x = true) : WP V 122 4 ls [.int x] t I L R Q = Q (some (.int x)) t I L R := wp_rtz rfl rfl h
-- TransactionCellsModel.isPlace(I)Z
theorem i123_0 {x : Int32} : WP V 123 0 [.int x] st t I L R Q = WP V 123 1 [.int x] (.int x :: st) t I L R Q := wp_go rfl
theorem i123_1  : WP V 123 1 ls st t I L R Q = WP V 123 2 ls (.int (nI 0) :: st) t I L R Q := wp_go rfl
theorem i123_2  : WP V 123 2 ls st t I L R Q = WP V 123 3 ls (.int (nI 40) :: st) t I L R Q := wp_go rfl
theorem i123_3 {x0 : Int32} {x1 : Int32} {x2 : Int32}  : WP V 123 3 ls [.int x0, .int x1, .int x2] t I L R Q = WPC V 111 [.int x2, .int x1, .int x0] 123 4 ls [] t I L R Q := wp_cls (wp_ics rfl (by decide)) (by decide) (Nat.le_of_ble_eq_true rfl) rfl rfl (Nat.le_of_ble_eq_true rfl) (Nat.le_of_ble_eq_true rfl)
theorem i123_4 {x : Int32} (h : m_01 x = true) : WP V 123 4 ls [.int x] t I L R Q = Q (some (.int x)) t I L R := wp_rtz rfl rfl h
-- TransactionCellsModel.isAct(IIII)Z
theorem i124_0 {w1 w2 w3 : Value} {x : Int32} : WP V 124 0 [.int x, w1, w2, w3] st t I L R Q = WP V 124 1 [.int x, w1, w2, w3] (.int x :: st) t I L R Q := wp_go rfl
theorem i124_1s0  : WP V 124 1 ls (.int (nI 0) :: st) t I L R Q = WP V 124 2 ls st t I L R Q := wp_sw rfl (by decide) (by decide) (by decide) rfl
theorem i124_1s1  : WP V 124 1 ls (.int (nI 1) :: st) t I L R Q = WP V 124 5 ls st t I L R Q := wp_sw rfl (by decide) (by decide) (by decide) rfl
theorem i124_1s2  : WP V 124 1 ls (.int (nI 2) :: st) t I L R Q = WP V 124 5 ls st t I L R Q := wp_sw rfl (by decide) (by decide) (by decide) rfl
theorem i124_1s3  : WP V 124 1 ls (.int (nI 3) :: st) t I L R Q = WP V 124 5 ls st t I L R Q := wp_sw rfl (by decide) (by decide) (by decide) rfl
theorem i124_1s4  : WP V 124 1 ls (.int (nI 4) :: st) t I L R Q = WP V 124 15 ls st t I L R Q := wp_sw rfl (by decide) (by decide) (by decide) rfl
theorem i124_1s5  : WP V 124 1 ls (.int (nI 5) :: st) t I L R Q = WP V 124 25 ls st t I L R Q := wp_sw rfl (by decide) (by decide) (by decide) rfl
theorem i124_1s6  : WP V 124 1 ls (.int (nI 6) :: st) t I L R Q = WP V 124 35 ls st t I L R Q := wp_sw rfl (by decide) (by decide) (by decide) rfl
theorem i124_1s7  : WP V 124 1 ls (.int (nI 7) :: st) t I L R Q = WP V 124 47 ls st t I L R Q := wp_sw rfl (by decide) (by decide) (by decide) rfl
theorem i124_1s8  : WP V 124 1 ls (.int (nI 8) :: st) t I L R Q = WP V 124 50 ls st t I L R Q := wp_sw rfl (by decide) (by decide) (by decide) rfl
theorem i124_1s9  : WP V 124 1 ls (.int (nI 9) :: st) t I L R Q = WP V 124 63 ls st t I L R Q := wp_sw rfl (by decide) (by decide) (by decide) rfl
theorem i124_1s10  : WP V 124 1 ls (.int (nI 10) :: st) t I L R Q = WP V 124 66 ls st t I L R Q := wp_sw rfl (by decide) (by decide) (by decide) rfl
theorem i124_1s11  : WP V 124 1 ls (.int (nI 11) :: st) t I L R Q = WP V 124 76 ls st t I L R Q := wp_sw rfl (by decide) (by decide) (by decide) rfl
theorem i124_1s12  : WP V 124 1 ls (.int (nI 12) :: st) t I L R Q = WP V 124 81 ls st t I L R Q := wp_sw rfl (by decide) (by decide) (by decide) rfl
theorem i124_1s13  : WP V 124 1 ls (.int (nI 13) :: st) t I L R Q = WP V 124 81 ls st t I L R Q := wp_sw rfl (by decide) (by decide) (by decide) rfl
theorem i124_1s14  : WP V 124 1 ls (.int (nI 14) :: st) t I L R Q = WP V 124 63 ls st t I L R Q := wp_sw rfl (by decide) (by decide) (by decide) rfl
theorem i124_1s15  : WP V 124 1 ls (.int (nI 15) :: st) t I L R Q = WP V 124 63 ls st t I L R Q := wp_sw rfl (by decide) (by decide) (by decide) rfl
theorem i124_1s16  : WP V 124 1 ls (.int (nI 16) :: st) t I L R Q = WP V 124 63 ls st t I L R Q := wp_sw rfl (by decide) (by decide) (by decide) rfl
theorem i124_1s17  : WP V 124 1 ls (.int (nI 17) :: st) t I L R Q = WP V 124 81 ls st t I L R Q := wp_sw rfl (by decide) (by decide) (by decide) rfl
theorem i124_1s18  : WP V 124 1 ls (.int (nI 18) :: st) t I L R Q = WP V 124 63 ls st t I L R Q := wp_sw rfl (by decide) (by decide) (by decide) rfl
theorem i124_1s19  : WP V 124 1 ls (.int (nI 19) :: st) t I L R Q = WP V 124 81 ls st t I L R Q := wp_sw rfl (by decide) (by decide) (by decide) rfl
theorem i124_1s20  : WP V 124 1 ls (.int (nI 20) :: st) t I L R Q = WP V 124 2 ls st t I L R Q := wp_sw rfl (by decide) (by decide) (by decide) rfl
theorem i124_1s21  : WP V 124 1 ls (.int (nI 21) :: st) t I L R Q = WP V 124 5 ls st t I L R Q := wp_sw rfl (by decide) (by decide) (by decide) rfl
theorem i124_1sd {x : Int32} (h : x.toInt < 0 ∨ 21 < x.toInt) : WP V 124 1 ls (.int x :: st) t I L R Q = WP V 124 81 ls st t I L R Q := wp_swd rfl h
theorem i124_2 {w0 w2 w3 : Value} {x : Int32} : WP V 124 2 [w0, .int x, w2, w3] st t I L R Q = WP V 124 3 [w0, .int x, w2, w3] (.int x :: st) t I L R Q := wp_go rfl
theorem i124_3 {x0 : Int32}  : WP V 124 3 ls [.int x0] t I L R Q = WPC V 120 [.int x0] 124 4 ls [] t I L R Q := wp_cls (wp_ics rfl (by decide)) (by decide) (Nat.le_of_ble_eq_true rfl) rfl rfl (Nat.le_of_ble_eq_true rfl) (Nat.le_of_ble_eq_true rfl)
theorem i124_4 {x : Int32} (h : m_01 x = true) : WP V 124 4 ls [.int x] t I L R Q = Q (some (.int x)) t I L R := wp_rtz rfl rfl h
theorem i124_5 {w0 w2 w3 : Value} {x : Int32} : WP V 124 5 [w0, .int x, w2, w3] st t I L R Q = WP V 124 6 [w0, .int x, w2, w3] (.int x :: st) t I L R Q := wp_go rfl
theorem i124_6 {x0 : Int32}  : WP V 124 6 ls [.int x0] t I L R Q = WPC V 120 [.int x0] 124 7 ls [] t I L R Q := wp_cls (wp_ics rfl (by decide)) (by decide) (Nat.le_of_ble_eq_true rfl) rfl rfl (Nat.le_of_ble_eq_true rfl) (Nat.le_of_ble_eq_true rfl)
theorem i124_7 {x : Int32} : WP V 124 7 ls (.int x :: st) t I L R Q = if x = nI 0 then WP V 124 13 ls st t I L R Q else WP V 124 8 ls st t I L R Q := wp_br (c := m_cc .eq x 0) rfl rfl
theorem i124_8 {w0 w1 w3 : Value} {x : Int32} : WP V 124 8 [w0, w1, .int x, w3] st t I L R Q = WP V 124 9 [w0, w1, .int x, w3] (.int x :: st) t I L R Q := wp_go rfl
theorem i124_9 {x0 : Int32}  : WP V 124 9 ls [.int x0] t I L R Q = WPC V 120 [.int x0] 124 10 ls [] t I L R Q := wp_cls (wp_ics rfl (by decide)) (by decide) (Nat.le_of_ble_eq_true rfl) rfl rfl (Nat.le_of_ble_eq_true rfl) (Nat.le_of_ble_eq_true rfl)
theorem i124_10 {x : Int32} : WP V 124 10 ls (.int x :: st) t I L R Q = if x = nI 0 then WP V 124 13 ls st t I L R Q else WP V 124 11 ls st t I L R Q := wp_br (c := m_cc .eq x 0) rfl rfl
theorem i124_11  : WP V 124 11 ls st t I L R Q = WP V 124 12 ls (.int (nI 1) :: st) t I L R Q := wp_go rfl
theorem i124_12  : WP V 124 12 ls st t I L R Q = WP V 124 14 ls st t I L R Q := wp_go rfl
theorem i124_13  : WP V 124 13 ls st t I L R Q = WP V 124 14 ls (.int (nI 0) :: st) t I L R Q := wp_go rfl
theorem i124_14 {x : Int32} (h : m_01 x = true) : WP V 124 14 ls [.int x] t I L R Q = Q (some (.int x)) t I L R := wp_rtz rfl rfl h
theorem i124_15 {w0 w2 w3 : Value} {x : Int32} : WP V 124 15 [w0, .int x, w2, w3] st t I L R Q = WP V 124 16 [w0, .int x, w2, w3] (.int x :: st) t I L R Q := wp_go rfl
theorem i124_16 {x0 : Int32}  : WP V 124 16 ls [.int x0] t I L R Q = WPC V 120 [.int x0] 124 17 ls [] t I L R Q := wp_cls (wp_ics rfl (by decide)) (by decide) (Nat.le_of_ble_eq_true rfl) rfl rfl (Nat.le_of_ble_eq_true rfl) (Nat.le_of_ble_eq_true rfl)
theorem i124_17 {x : Int32} : WP V 124 17 ls (.int x :: st) t I L R Q = if x = nI 0 then WP V 124 23 ls st t I L R Q else WP V 124 18 ls st t I L R Q := wp_br (c := m_cc .eq x 0) rfl rfl
theorem i124_18 {w0 w1 w3 : Value} {x : Int32} : WP V 124 18 [w0, w1, .int x, w3] st t I L R Q = WP V 124 19 [w0, w1, .int x, w3] (.int x :: st) t I L R Q := wp_go rfl
theorem i124_19 {x0 : Int32}  : WP V 124 19 ls [.int x0] t I L R Q = WPC V 121 [.int x0] 124 20 ls [] t I L R Q := wp_cls (wp_ics rfl (by decide)) (by decide) (Nat.le_of_ble_eq_true rfl) rfl rfl (Nat.le_of_ble_eq_true rfl) (Nat.le_of_ble_eq_true rfl)
theorem i124_20 {x : Int32} : WP V 124 20 ls (.int x :: st) t I L R Q = if x = nI 0 then WP V 124 23 ls st t I L R Q else WP V 124 21 ls st t I L R Q := wp_br (c := m_cc .eq x 0) rfl rfl
theorem i124_21  : WP V 124 21 ls st t I L R Q = WP V 124 22 ls (.int (nI 1) :: st) t I L R Q := wp_go rfl
theorem i124_22  : WP V 124 22 ls st t I L R Q = WP V 124 24 ls st t I L R Q := wp_go rfl
theorem i124_23  : WP V 124 23 ls st t I L R Q = WP V 124 24 ls (.int (nI 0) :: st) t I L R Q := wp_go rfl
theorem i124_24 {x : Int32} (h : m_01 x = true) : WP V 124 24 ls [.int x] t I L R Q = Q (some (.int x)) t I L R := wp_rtz rfl rfl h
theorem i124_25 {w0 w2 w3 : Value} {x : Int32} : WP V 124 25 [w0, .int x, w2, w3] st t I L R Q = WP V 124 26 [w0, .int x, w2, w3] (.int x :: st) t I L R Q := wp_go rfl
theorem i124_26 {x0 : Int32}  : WP V 124 26 ls [.int x0] t I L R Q = WPC V 121 [.int x0] 124 27 ls [] t I L R Q := wp_cls (wp_ics rfl (by decide)) (by decide) (Nat.le_of_ble_eq_true rfl) rfl rfl (Nat.le_of_ble_eq_true rfl) (Nat.le_of_ble_eq_true rfl)
theorem i124_27 {x : Int32} : WP V 124 27 ls (.int x :: st) t I L R Q = if x = nI 0 then WP V 124 33 ls st t I L R Q else WP V 124 28 ls st t I L R Q := wp_br (c := m_cc .eq x 0) rfl rfl
theorem i124_28 {w0 w1 w3 : Value} {x : Int32} : WP V 124 28 [w0, w1, .int x, w3] st t I L R Q = WP V 124 29 [w0, w1, .int x, w3] (.int x :: st) t I L R Q := wp_go rfl
theorem i124_29 {x0 : Int32}  : WP V 124 29 ls [.int x0] t I L R Q = WPC V 120 [.int x0] 124 30 ls [] t I L R Q := wp_cls (wp_ics rfl (by decide)) (by decide) (Nat.le_of_ble_eq_true rfl) rfl rfl (Nat.le_of_ble_eq_true rfl) (Nat.le_of_ble_eq_true rfl)
theorem i124_30 {x : Int32} : WP V 124 30 ls (.int x :: st) t I L R Q = if x = nI 0 then WP V 124 33 ls st t I L R Q else WP V 124 31 ls st t I L R Q := wp_br (c := m_cc .eq x 0) rfl rfl
theorem i124_31  : WP V 124 31 ls st t I L R Q = WP V 124 32 ls (.int (nI 1) :: st) t I L R Q := wp_go rfl
theorem i124_32  : WP V 124 32 ls st t I L R Q = WP V 124 34 ls st t I L R Q := wp_go rfl
theorem i124_33  : WP V 124 33 ls st t I L R Q = WP V 124 34 ls (.int (nI 0) :: st) t I L R Q := wp_go rfl
theorem i124_34 {x : Int32} (h : m_01 x = true) : WP V 124 34 ls [.int x] t I L R Q = Q (some (.int x)) t I L R := wp_rtz rfl rfl h
theorem i124_35 {w0 w2 w3 : Value} {x : Int32} : WP V 124 35 [w0, .int x, w2, w3] st t I L R Q = WP V 124 36 [w0, .int x, w2, w3] (.int x :: st) t I L R Q := wp_go rfl
theorem i124_36 {x0 : Int32}  : WP V 124 36 ls [.int x0] t I L R Q = WPC V 121 [.int x0] 124 37 ls [] t I L R Q := wp_cls (wp_ics rfl (by decide)) (by decide) (Nat.le_of_ble_eq_true rfl) rfl rfl (Nat.le_of_ble_eq_true rfl) (Nat.le_of_ble_eq_true rfl)
theorem i124_37 {x : Int32} : WP V 124 37 ls (.int x :: st) t I L R Q = if x = nI 0 then WP V 124 45 ls st t I L R Q else WP V 124 38 ls st t I L R Q := wp_br (c := m_cc .eq x 0) rfl rfl
theorem i124_38 {w0 w1 w3 : Value} {x : Int32} : WP V 124 38 [w0, w1, .int x, w3] st t I L R Q = WP V 124 39 [w0, w1, .int x, w3] (.int x :: st) t I L R Q := wp_go rfl
theorem i124_39  : WP V 124 39 ls st t I L R Q = WP V 124 40 ls (.int (nI 0) :: st) t I L R Q := wp_go rfl
theorem i124_40  : WP V 124 40 ls st t I L R Q = WP V 124 41 ls (.int (nI 5) :: st) t I L R Q := wp_go rfl
theorem i124_41 {x0 : Int32} {x1 : Int32} {x2 : Int32}  : WP V 124 41 ls [.int x0, .int x1, .int x2] t I L R Q = WPC V 111 [.int x2, .int x1, .int x0] 124 42 ls [] t I L R Q := wp_cls (wp_ics rfl (by decide)) (by decide) (Nat.le_of_ble_eq_true rfl) rfl rfl (Nat.le_of_ble_eq_true rfl) (Nat.le_of_ble_eq_true rfl)
theorem i124_42 {x : Int32} : WP V 124 42 ls (.int x :: st) t I L R Q = if x = nI 0 then WP V 124 45 ls st t I L R Q else WP V 124 43 ls st t I L R Q := wp_br (c := m_cc .eq x 0) rfl rfl
theorem i124_43  : WP V 124 43 ls st t I L R Q = WP V 124 44 ls (.int (nI 1) :: st) t I L R Q := wp_go rfl
theorem i124_44  : WP V 124 44 ls st t I L R Q = WP V 124 46 ls st t I L R Q := wp_go rfl
theorem i124_45  : WP V 124 45 ls st t I L R Q = WP V 124 46 ls (.int (nI 0) :: st) t I L R Q := wp_go rfl
theorem i124_46 {x : Int32} (h : m_01 x = true) : WP V 124 46 ls [.int x] t I L R Q = Q (some (.int x)) t I L R := wp_rtz rfl rfl h
theorem i124_47 {w0 w2 w3 : Value} {x : Int32} : WP V 124 47 [w0, .int x, w2, w3] st t I L R Q = WP V 124 48 [w0, .int x, w2, w3] (.int x :: st) t I L R Q := wp_go rfl
theorem i124_48 {x0 : Int32}  : WP V 124 48 ls [.int x0] t I L R Q = WPC V 121 [.int x0] 124 49 ls [] t I L R Q := wp_cls (wp_ics rfl (by decide)) (by decide) (Nat.le_of_ble_eq_true rfl) rfl rfl (Nat.le_of_ble_eq_true rfl) (Nat.le_of_ble_eq_true rfl)
theorem i124_49 {x : Int32} (h : m_01 x = true) : WP V 124 49 ls [.int x] t I L R Q = Q (some (.int x)) t I L R := wp_rtz rfl rfl h
theorem i124_50 {w0 w2 w3 : Value} {x : Int32} : WP V 124 50 [w0, .int x, w2, w3] st t I L R Q = WP V 124 51 [w0, .int x, w2, w3] (.int x :: st) t I L R Q := wp_go rfl
theorem i124_51 {x0 : Int32}  : WP V 124 51 ls [.int x0] t I L R Q = WPC V 120 [.int x0] 124 52 ls [] t I L R Q := wp_cls (wp_ics rfl (by decide)) (by decide) (Nat.le_of_ble_eq_true rfl) rfl rfl (Nat.le_of_ble_eq_true rfl) (Nat.le_of_ble_eq_true rfl)
theorem i124_52 {x : Int32} : WP V 124 52 ls (.int x :: st) t I L R Q = if x = nI 0 then WP V 124 61 ls st t I L R Q else WP V 124 53 ls st t I L R Q := wp_br (c := m_cc .eq x 0) rfl rfl
theorem i124_53 {w0 w1 w3 : Value} {x : Int32} : WP V 124 53 [w0, w1, .int x, w3] st t I L R Q = WP V 124 54 [w0, w1, .int x, w3] (.int x :: st) t I L R Q := wp_go rfl
theorem i124_54 {x0 : Int32}  : WP V 124 54 ls [.int x0] t I L R Q = WPC V 121 [.int x0] 124 55 ls [] t I L R Q := wp_cls (wp_ics rfl (by decide)) (by decide) (Nat.le_of_ble_eq_true rfl) rfl rfl (Nat.le_of_ble_eq_true rfl) (Nat.le_of_ble_eq_true rfl)
theorem i124_55 {x : Int32} : WP V 124 55 ls (.int x :: st) t I L R Q = if x = nI 0 then WP V 124 61 ls st t I L R Q else WP V 124 56 ls st t I L R Q := wp_br (c := m_cc .eq x 0) rfl rfl
theorem i124_56 {w0 w1 w2 : Value} {x : Int32} : WP V 124 56 [w0, w1, w2, .int x] st t I L R Q = WP V 124 57 [w0, w1, w2, .int x] (.int x :: st) t I L R Q := wp_go rfl
theorem i124_57 {x0 : Int32}  : WP V 124 57 ls [.int x0] t I L R Q = WPC V 120 [.int x0] 124 58 ls [] t I L R Q := wp_cls (wp_ics rfl (by decide)) (by decide) (Nat.le_of_ble_eq_true rfl) rfl rfl (Nat.le_of_ble_eq_true rfl) (Nat.le_of_ble_eq_true rfl)
theorem i124_58 {x : Int32} : WP V 124 58 ls (.int x :: st) t I L R Q = if x = nI 0 then WP V 124 61 ls st t I L R Q else WP V 124 59 ls st t I L R Q := wp_br (c := m_cc .eq x 0) rfl rfl
theorem i124_59  : WP V 124 59 ls st t I L R Q = WP V 124 60 ls (.int (nI 1) :: st) t I L R Q := wp_go rfl
theorem i124_60  : WP V 124 60 ls st t I L R Q = WP V 124 62 ls st t I L R Q := wp_go rfl
theorem i124_61  : WP V 124 61 ls st t I L R Q = WP V 124 62 ls (.int (nI 0) :: st) t I L R Q := wp_go rfl
theorem i124_62 {x : Int32} (h : m_01 x = true) : WP V 124 62 ls [.int x] t I L R Q = Q (some (.int x)) t I L R := wp_rtz rfl rfl h
theorem i124_63 {w0 w2 w3 : Value} {x : Int32} : WP V 124 63 [w0, .int x, w2, w3] st t I L R Q = WP V 124 64 [w0, .int x, w2, w3] (.int x :: st) t I L R Q := wp_go rfl
theorem i124_64 {x0 : Int32}  : WP V 124 64 ls [.int x0] t I L R Q = WPC V 123 [.int x0] 124 65 ls [] t I L R Q := wp_cls (wp_ics rfl (by decide)) (by decide) (Nat.le_of_ble_eq_true rfl) rfl rfl (Nat.le_of_ble_eq_true rfl) (Nat.le_of_ble_eq_true rfl)
theorem i124_65 {x : Int32} (h : m_01 x = true) : WP V 124 65 ls [.int x] t I L R Q = Q (some (.int x)) t I L R := wp_rtz rfl rfl h
theorem i124_66 {w0 w2 w3 : Value} {x : Int32} : WP V 124 66 [w0, .int x, w2, w3] st t I L R Q = WP V 124 67 [w0, .int x, w2, w3] (.int x :: st) t I L R Q := wp_go rfl
theorem i124_67 {x0 : Int32}  : WP V 124 67 ls [.int x0] t I L R Q = WPC V 120 [.int x0] 124 68 ls [] t I L R Q := wp_cls (wp_ics rfl (by decide)) (by decide) (Nat.le_of_ble_eq_true rfl) rfl rfl (Nat.le_of_ble_eq_true rfl) (Nat.le_of_ble_eq_true rfl)
theorem i124_68 {x : Int32} : WP V 124 68 ls (.int x :: st) t I L R Q = if x = nI 0 then WP V 124 74 ls st t I L R Q else WP V 124 69 ls st t I L R Q := wp_br (c := m_cc .eq x 0) rfl rfl
theorem i124_69 {w0 w1 w3 : Value} {x : Int32} : WP V 124 69 [w0, w1, .int x, w3] st t I L R Q = WP V 124 70 [w0, w1, .int x, w3] (.int x :: st) t I L R Q := wp_go rfl
theorem i124_70 {x0 : Int32}  : WP V 124 70 ls [.int x0] t I L R Q = WPC V 123 [.int x0] 124 71 ls [] t I L R Q := wp_cls (wp_ics rfl (by decide)) (by decide) (Nat.le_of_ble_eq_true rfl) rfl rfl (Nat.le_of_ble_eq_true rfl) (Nat.le_of_ble_eq_true rfl)
theorem i124_71 {x : Int32} : WP V 124 71 ls (.int x :: st) t I L R Q = if x = nI 0 then WP V 124 74 ls st t I L R Q else WP V 124 72 ls st t I L R Q := wp_br (c := m_cc .eq x 0) rfl rfl
theorem i124_72  : WP V 124 72 ls st t I L R Q = WP V 124 73 ls (.int (nI 1) :: st) t I L R Q := wp_go rfl
theorem i124_73  : WP V 124 73 ls st t I L R Q = WP V 124 75 ls st t I L R Q := wp_go rfl
theorem i124_74  : WP V 124 74 ls st t I L R Q = WP V 124 75 ls (.int (nI 0) :: st) t I L R Q := wp_go rfl
theorem i124_75 {x : Int32} (h : m_01 x = true) : WP V 124 75 ls [.int x] t I L R Q = Q (some (.int x)) t I L R := wp_rtz rfl rfl h
theorem i124_76 {w0 w2 w3 : Value} {x : Int32} : WP V 124 76 [w0, .int x, w2, w3] st t I L R Q = WP V 124 77 [w0, .int x, w2, w3] (.int x :: st) t I L R Q := wp_go rfl
theorem i124_77  : WP V 124 77 ls st t I L R Q = WP V 124 78 ls (.int (nI 0) :: st) t I L R Q := wp_go rfl
theorem i124_78  : WP V 124 78 ls st t I L R Q = WP V 124 79 ls (.int (nI 3) :: st) t I L R Q := wp_go rfl
theorem i124_79 {x0 : Int32} {x1 : Int32} {x2 : Int32}  : WP V 124 79 ls [.int x0, .int x1, .int x2] t I L R Q = WPC V 111 [.int x2, .int x1, .int x0] 124 80 ls [] t I L R Q := wp_cls (wp_ics rfl (by decide)) (by decide) (Nat.le_of_ble_eq_true rfl) rfl rfl (Nat.le_of_ble_eq_true rfl) (Nat.le_of_ble_eq_true rfl)
theorem i124_80 {x : Int32} (h : m_01 x = true) : WP V 124 80 ls [.int x] t I L R Q = Q (some (.int x)) t I L R := wp_rtz rfl rfl h
theorem i124_81 {w1 w2 w3 : Value} {x : Int32} : WP V 124 81 [.int x, w1, w2, w3] st t I L R Q = WP V 124 82 [.int x, w1, w2, w3] (.int x :: st) t I L R Q := wp_go rfl
theorem i124_82  : WP V 124 82 ls st t I L R Q = WP V 124 83 ls (.int (nI 12) :: st) t I L R Q := wp_go rfl
theorem i124_83  : WP V 124 83 ls st t I L R Q = WP V 124 84 ls (.int (nI 19) :: st) t I L R Q := wp_go rfl
theorem i124_84 {x0 : Int32} {x1 : Int32} {x2 : Int32}  : WP V 124 84 ls [.int x0, .int x1, .int x2] t I L R Q = WPC V 111 [.int x2, .int x1, .int x0] 124 85 ls [] t I L R Q := wp_cls (wp_ics rfl (by decide)) (by decide) (Nat.le_of_ble_eq_true rfl) rfl rfl (Nat.le_of_ble_eq_true rfl) (Nat.le_of_ble_eq_true rfl)
theorem i124_85 {x : Int32} (h : m_01 x = true) : WP V 124 85 ls [.int x] t I L R Q = Q (some (.int x)) t I L R := wp_rtz rfl rfl h
-- TransactionCellsModel.act(IIIII)I
theorem i125_0 {w0 w2 w3 w4 w5 w6 : Value} {x : Int32} : WP V 125 0 [w0, .int x, w2, w3, w4, w5, w6] st t I L R Q = WP V 125 1 [w0, .int x, w2, w3, w4, w5, w6] (.int x :: st) t I L R Q := wp_go rfl
theorem i125_1  : WP V 125 1 ls st t I L R Q = WP V 125 2 ls (.int (nI 0) :: st) t I L R Q := wp_go rfl
theorem i125_2  : WP V 125 2 ls st t I L R Q = WP V 125 3 ls (.int (nI 5) :: st) t I L R Q := wp_go rfl
theorem i125_3 {x0 : Int32} {x1 : Int32} {x2 : Int32}  : WP V 125 3 ls [.int x0, .int x1, .int x2] t I L R Q = WPC V 111 [.int x2, .int x1, .int x0] 125 4 ls [] t I L R Q := wp_cls (wp_ics rfl (by decide)) (by decide) (Nat.le_of_ble_eq_true rfl) rfl rfl (Nat.le_of_ble_eq_true rfl) (Nat.le_of_ble_eq_true rfl)
theorem i125_4 {x : Int32} : WP V 125 4 ls (.int x :: st) t I L R Q = if x = nI 0 then WP V 125 5 ls st t I L R Q else WP V 125 7 ls st t I L R Q := wp_brn (c := m_cc .ne x 0) rfl rfl
theorem i125_5  : WP V 125 5 ls st t I L R Q = WP V 125 6 ls (.int (-101) :: st) t I L R Q := wp_go rfl
theorem i125_6 {x : Int32} : WP V 125 6 ls [.int x] t I L R Q = Q (some (.int x)) t I L R := wp_rti rfl rfl
theorem i125_7 {w0 w1 w3 w4 w5 w6 : Value} {x : Int32} : WP V 125 7 [w0, w1, .int x, w3, w4, w5, w6] st t I L R Q = WP V 125 8 [w0, w1, .int x, w3, w4, w5, w6] (.int x :: st) t I L R Q := wp_go rfl
theorem i125_8 {w0 w1 w2 w4 w5 w6 : Value} {x : Int32} : WP V 125 8 [w0, w1, w2, .int x, w4, w5, w6] st t I L R Q = WP V 125 9 [w0, w1, w2, .int x, w4, w5, w6] (.int x :: st) t I L R Q := wp_go rfl
theorem i125_9 {w0 w1 w2 w3 w5 w6 : Value} {x : Int32} : WP V 125 9 [w0, w1, w2, w3, .int x, w5, w6] st t I L R Q = WP V 125 10 [w0, w1, w2, w3, .int x, w5, w6] (.int x :: st) t I L R Q := wp_go rfl
theorem i125_10 {w0 w1 w2 w3 w4 w6 : Value} {x : Int32} : WP V 125 10 [w0, w1, w2, w3, w4, .int x, w6] st t I L R Q = WP V 125 11 [w0, w1, w2, w3, w4, .int x, w6] (.int x :: st) t I L R Q := wp_go rfl
theorem i125_11 {x0 : Int32} {x1 : Int32} {x2 : Int32} {x3 : Int32}  : WP V 125 11 ls [.int x0, .int x1, .int x2, .int x3] t I L R Q = WPC V 124 [.int x3, .int x2, .int x1, .int x0] 125 12 ls [] t I L R Q := wp_cls (wp_ics rfl (by decide)) (by decide) (Nat.le_of_ble_eq_true rfl) rfl rfl (Nat.le_of_ble_eq_true rfl) (Nat.le_of_ble_eq_true rfl)
theorem i125_12 {x : Int32} : WP V 125 12 ls (.int x :: st) t I L R Q = if x = nI 0 then WP V 125 13 ls st t I L R Q else WP V 125 15 ls st t I L R Q := wp_brn (c := m_cc .ne x 0) rfl rfl
theorem i125_13  : WP V 125 13 ls st t I L R Q = WP V 125 14 ls (.int (-102) :: st) t I L R Q := wp_go rfl
theorem i125_14 {x : Int32} : WP V 125 14 ls [.int x] t I L R Q = Q (some (.int x)) t I L R := wp_rti rfl rfl
theorem i125_15 {w1 w2 w3 w4 w5 w6 : Value} {x : Nat} : WP V 125 15 [.ref x, w1, w2, w3, w4, w5, w6] st t I L R Q = WP V 125 16 [.ref x, w1, w2, w3, w4, w5, w6] (.ref x :: st) t I L R Q := wp_go rfl
theorem i125_16 {x0 : Nat}  (h1 : x0 < t) (h2 : m_ob x0 8 = true) : WP V 125 16 ls [.ref x0] t I L R Q = WPC V 119 [.ref x0] 125 17 ls [] t I L R Q := wp_cls (wp_icv rfl rfl h1 h2) (by decide) (Nat.le_of_ble_eq_true rfl) rfl rfl (Nat.le_of_ble_eq_true rfl) (Nat.le_of_ble_eq_true rfl)
theorem i125_17 {x : Int32} : WP V 125 17 ls (.int x :: st) t I L R Q = if x = nI 0 then WP V 125 18 ls st t I L R Q else WP V 125 20 ls st t I L R Q := wp_brn (c := m_cc .ne x 0) rfl rfl
theorem i125_18  : WP V 125 18 ls st t I L R Q = WP V 125 19 ls (.int (-103) :: st) t I L R Q := wp_go rfl
theorem i125_19 {x : Int32} : WP V 125 19 ls [.int x] t I L R Q = Q (some (.int x)) t I L R := wp_rti rfl rfl
theorem i125_20 {w1 w2 w3 w4 w5 w6 : Value} {x : Nat} : WP V 125 20 [.ref x, w1, w2, w3, w4, w5, w6] st t I L R Q = WP V 125 21 [.ref x, w1, w2, w3, w4, w5, w6] (.ref x :: st) t I L R Q := wp_go rfl
theorem i125_21 {k : Nat} (h1 : k < t) (h2 : m_ob k 8 = true) : WP V 125 21 ls (.ref k :: st) t I L R Q = WP V 125 22 ls (m_rv (R k 6) :: st) t I L R Q := wp_getR rfl (by decide) h1 h2
theorem i125_22 {w0 w2 w3 w4 w5 w6 : Value} {x : Int32} : WP V 125 22 [w0, .int x, w2, w3, w4, w5, w6] st t I L R Q = WP V 125 23 [w0, .int x, w2, w3, w4, w5, w6] (.int x :: st) t I L R Q := wp_go rfl
theorem i125_23 {k j : Nat} (h2 : m_ar k 2 6 = true) (h1 : k < t) (h3 : j < 6) : WP V 125 23 ls (.int (nI j) :: .ref k :: st) t I L R Q = WP V 125 24 ls (.int (I k j) :: st) t I L R Q := wp_iaload rfl (by decide) h1 h2 h3
theorem i125_24  : WP V 125 24 ls st t I L R Q = WP V 125 25 ls (.int (nI 40) :: st) t I L R Q := wp_go rfl
theorem i125_25 {x y : Int32} : WP V 125 25 ls (.int y :: .int x :: st) t I L R Q = if x = y then WP V 125 26 ls st t I L R Q else WP V 125 28 ls st t I L R Q := wp_brn (c := m_cc .ne x y) rfl rfl
theorem i125_26  : WP V 125 26 ls st t I L R Q = WP V 125 27 ls (.int (-104) :: st) t I L R Q := wp_go rfl
theorem i125_27 {x : Int32} : WP V 125 27 ls [.int x] t I L R Q = Q (some (.int x)) t I L R := wp_rti rfl rfl
theorem i125_28  : WP V 125 28 ls st t I L R Q = WP V 125 29 ls (.int (nI 40) :: st) t I L R Q := wp_go rfl
theorem i125_29 {w0 w2 w3 w4 w5 w6 : Value} {x : Int32} : WP V 125 29 [w0, .int x, w2, w3, w4, w5, w6] st t I L R Q = WP V 125 30 [w0, .int x, w2, w3, w4, w5, w6] (.int x :: st) t I L R Q := wp_go rfl
theorem i125_30 {x y : Int32} : WP V 125 30 ls (.int y :: .int x :: st) t I L R Q = WP V 125 31 ls (.int (x * y) :: st) t I L R Q := wp_go rfl
theorem i125_31 {w1 w2 w3 w4 w5 w6 : Value} {x : Nat} : WP V 125 31 [.ref x, w1, w2, w3, w4, w5, w6] st t I L R Q = WP V 125 32 [.ref x, w1, w2, w3, w4, w5, w6] (.ref x :: st) t I L R Q := wp_go rfl
theorem i125_32 {k : Nat} (h1 : k < t) (h2 : m_ob k 8 = true) : WP V 125 32 ls (.ref k :: st) t I L R Q = WP V 125 33 ls (m_rv (R k 6) :: st) t I L R Q := wp_getR rfl (by decide) h1 h2
theorem i125_33 {w0 w2 w3 w4 w5 w6 : Value} {x : Int32} : WP V 125 33 [w0, .int x, w2, w3, w4, w5, w6] st t I L R Q = WP V 125 34 [w0, .int x, w2, w3, w4, w5, w6] (.int x :: st) t I L R Q := wp_go rfl
theorem i125_34 {k j : Nat} (h2 : m_ar k 2 6 = true) (h1 : k < t) (h3 : j < 6) : WP V 125 34 ls (.int (nI j) :: .ref k :: st) t I L R Q = WP V 125 35 ls (.int (I k j) :: st) t I L R Q := wp_iaload rfl (by decide) h1 h2 h3
theorem i125_35 {x y : Int32} : WP V 125 35 ls (.int y :: .int x :: st) t I L R Q = WP V 125 36 ls (.int (x + y) :: st) t I L R Q := wp_go rfl
theorem i125_36 {p : Int32} {w0 w1 w2 w3 w4 w6 : Value} {x : Int32} : WP V 125 36 [w0, w1, w2, w3, w4, .int p, w6] (.int x :: st) t I L R Q = WP V 125 37 [w0, w1, w2, w3, w4, .int p, .int x] st t I L R Q := wp_go rfl
theorem i125_37 {w1 w2 w3 w4 w5 w6 : Value} {x : Nat} : WP V 125 37 [.ref x, w1, w2, w3, w4, w5, w6] st t I L R Q = WP V 125 38 [.ref x, w1, w2, w3, w4, w5, w6] (.ref x :: st) t I L R Q := wp_go rfl
theorem i125_38 {k : Nat} (h1 : k < t) (h2 : m_ob k 8 = true) : WP V 125 38 ls (.ref k :: st) t I L R Q = WP V 125 39 ls (m_rv (R k 7) :: st) t I L R Q := wp_getR rfl (by decide) h1 h2
theorem i125_39 {w0 w1 w2 w3 w4 w5 : Value} {x : Int32} : WP V 125 39 [w0, w1, w2, w3, w4, w5, .int x] st t I L R Q = WP V 125 40 [w0, w1, w2, w3, w4, w5, .int x] (.int x :: st) t I L R Q := wp_go rfl
theorem i125_40 {w0 w1 w3 w4 w5 w6 : Value} {x : Int32} : WP V 125 40 [w0, w1, .int x, w3, w4, w5, w6] st t I L R Q = WP V 125 41 [w0, w1, .int x, w3, w4, w5, w6] (.int x :: st) t I L R Q := wp_go rfl
theorem i125_41 {k j : Nat} {x : Int32} (h2 : m_ar k 2 240 = true) (h1 : k < t) (h3 : j < 240) : WP V 125 41 ls (.int x :: .int (nI j) :: .ref k :: st) t I L R Q = WP V 125 42 ls st t (m_sc I k (m_sc (I k) j x)) L R Q := wp_iastore rfl (by decide) h1 h2 h3
theorem i125_42 {w1 w2 w3 w4 w5 w6 : Value} {x : Nat} : WP V 125 42 [.ref x, w1, w2, w3, w4, w5, w6] st t I L R Q = WP V 125 43 [.ref x, w1, w2, w3, w4, w5, w6] (.ref x :: st) t I L R Q := wp_go rfl
theorem i125_43 {k : Nat} (h1 : k < t) (h2 : m_ob k 8 = true) : WP V 125 43 ls (.ref k :: st) t I L R Q = WP V 125 44 ls (m_rv (R k 8) :: st) t I L R Q := wp_getR rfl (by decide) h1 h2
theorem i125_44 {w0 w1 w2 w3 w4 w5 : Value} {x : Int32} : WP V 125 44 [w0, w1, w2, w3, w4, w5, .int x] st t I L R Q = WP V 125 45 [w0, w1, w2, w3, w4, w5, .int x] (.int x :: st) t I L R Q := wp_go rfl
theorem i125_45 {w0 w1 w2 w4 w5 w6 : Value} {x : Int32} : WP V 125 45 [w0, w1, w2, .int x, w4, w5, w6] st t I L R Q = WP V 125 46 [w0, w1, w2, .int x, w4, w5, w6] (.int x :: st) t I L R Q := wp_go rfl
theorem i125_46 {k j : Nat} {x : Int32} (h2 : m_ar k 2 240 = true) (h1 : k < t) (h3 : j < 240) : WP V 125 46 ls (.int x :: .int (nI j) :: .ref k :: st) t I L R Q = WP V 125 47 ls st t (m_sc I k (m_sc (I k) j x)) L R Q := wp_iastore rfl (by decide) h1 h2 h3
theorem i125_47 {w1 w2 w3 w4 w5 w6 : Value} {x : Nat} : WP V 125 47 [.ref x, w1, w2, w3, w4, w5, w6] st t I L R Q = WP V 125 48 [.ref x, w1, w2, w3, w4, w5, w6] (.ref x :: st) t I L R Q := wp_go rfl
theorem i125_48 {k : Nat} (h1 : k < t) (h2 : m_ob k 8 = true) : WP V 125 48 ls (.ref k :: st) t I L R Q = WP V 125 49 ls (m_rv (R k 9) :: st) t I L R Q := wp_getR rfl (by decide) h1 h2
theorem i125_49 {w0 w1 w2 w3 w4 w5 : Value} {x : Int32} : WP V 125 49 [w0, w1, w2, w3, w4, w5, .int x] st t I L R Q = WP V 125 50 [w0, w1, w2, w3, w4, w5, .int x] (.int x :: st) t I L R Q := wp_go rfl
theorem i125_50 {w0 w1 w2 w3 w5 w6 : Value} {x : Int32} : WP V 125 50 [w0, w1, w2, w3, .int x, w5, w6] st t I L R Q = WP V 125 51 [w0, w1, w2, w3, .int x, w5, w6] (.int x :: st) t I L R Q := wp_go rfl
theorem i125_51 {k j : Nat} {x : Int32} (h2 : m_ar k 2 240 = true) (h1 : k < t) (h3 : j < 240) : WP V 125 51 ls (.int x :: .int (nI j) :: .ref k :: st) t I L R Q = WP V 125 52 ls st t (m_sc I k (m_sc (I k) j x)) L R Q := wp_iastore rfl (by decide) h1 h2 h3
theorem i125_52 {w1 w2 w3 w4 w5 w6 : Value} {x : Nat} : WP V 125 52 [.ref x, w1, w2, w3, w4, w5, w6] st t I L R Q = WP V 125 53 [.ref x, w1, w2, w3, w4, w5, w6] (.ref x :: st) t I L R Q := wp_go rfl
theorem i125_53 {k : Nat} (h1 : k < t) (h2 : m_ob k 8 = true) : WP V 125 53 ls (.ref k :: st) t I L R Q = WP V 125 54 ls (m_rv (R k 10) :: st) t I L R Q := wp_getR rfl (by decide) h1 h2
theorem i125_54 {w0 w1 w2 w3 w4 w5 : Value} {x : Int32} : WP V 125 54 [w0, w1, w2, w3, w4, w5, .int x] st t I L R Q = WP V 125 55 [w0, w1, w2, w3, w4, w5, .int x] (.int x :: st) t I L R Q := wp_go rfl
theorem i125_55 {w0 w1 w2 w3 w4 w6 : Value} {x : Int32} : WP V 125 55 [w0, w1, w2, w3, w4, .int x, w6] st t I L R Q = WP V 125 56 [w0, w1, w2, w3, w4, .int x, w6] (.int x :: st) t I L R Q := wp_go rfl
theorem i125_56 {k j : Nat} {x : Int32} (h2 : m_ar k 2 240 = true) (h1 : k < t) (h3 : j < 240) : WP V 125 56 ls (.int x :: .int (nI j) :: .ref k :: st) t I L R Q = WP V 125 57 ls st t (m_sc I k (m_sc (I k) j x)) L R Q := wp_iastore rfl (by decide) h1 h2 h3
theorem i125_57 {w1 w2 w3 w4 w5 w6 : Value} {x : Nat} : WP V 125 57 [.ref x, w1, w2, w3, w4, w5, w6] st t I L R Q = WP V 125 58 [.ref x, w1, w2, w3, w4, w5, w6] (.ref x :: st) t I L R Q := wp_go rfl
theorem i125_58 {k : Nat} (h1 : k < t) (h2 : m_ob k 8 = true) : WP V 125 58 ls (.ref k :: st) t I L R Q = WP V 125 59 ls (m_rv (R k 6) :: st) t I L R Q := wp_getR rfl (by decide) h1 h2
theorem i125_59 {w0 w2 w3 w4 w5 w6 : Value} {x : Int32} : WP V 125 59 [w0, .int x, w2, w3, w4, w5, w6] st t I L R Q = WP V 125 60 [w0, .int x, w2, w3, w4, w5, w6] (.int x :: st) t I L R Q := wp_go rfl
theorem i125_60 {v0 : Int32} {v1 : Nat} : WP V 125 60 ls (.int v0 :: .ref v1 :: st) t I L R Q = WP V 125 61 ls (.int v0 :: .ref v1 :: .int v0 :: .ref v1 :: st) t I L R Q := wp_go rfl
theorem i125_61 {k j : Nat} (h2 : m_ar k 2 6 = true) (h1 : k < t) (h3 : j < 6) : WP V 125 61 ls (.int (nI j) :: .ref k :: st) t I L R Q = WP V 125 62 ls (.int (I k j) :: st) t I L R Q := wp_iaload rfl (by decide) h1 h2 h3
theorem i125_62  : WP V 125 62 ls st t I L R Q = WP V 125 63 ls (.int (nI 1) :: st) t I L R Q := wp_go rfl
theorem i125_63 {x y : Int32} : WP V 125 63 ls (.int y :: .int x :: st) t I L R Q = WP V 125 64 ls (.int (x + y) :: st) t I L R Q := wp_go rfl
theorem i125_64 {k j : Nat} {x : Int32} (h2 : m_ar k 2 6 = true) (h1 : k < t) (h3 : j < 6) : WP V 125 64 ls (.int x :: .int (nI j) :: .ref k :: st) t I L R Q = WP V 125 65 ls st t (m_sc I k (m_sc (I k) j x)) L R Q := wp_iastore rfl (by decide) h1 h2 h3
theorem i125_65 {w1 w2 w3 w4 w5 w6 : Value} {x : Nat} : WP V 125 65 [.ref x, w1, w2, w3, w4, w5, w6] st t I L R Q = WP V 125 66 [.ref x, w1, w2, w3, w4, w5, w6] (.ref x :: st) t I L R Q := wp_go rfl
theorem i125_66 {k : Nat} (h1 : k < t) (h2 : m_ob k 8 = true) : WP V 125 66 ls (.ref k :: st) t I L R Q = WP V 125 67 ls (m_rv (R k 6) :: st) t I L R Q := wp_getR rfl (by decide) h1 h2
theorem i125_67 {w0 w2 w3 w4 w5 w6 : Value} {x : Int32} : WP V 125 67 [w0, .int x, w2, w3, w4, w5, w6] st t I L R Q = WP V 125 68 [w0, .int x, w2, w3, w4, w5, w6] (.int x :: st) t I L R Q := wp_go rfl
theorem i125_68 {k j : Nat} (h2 : m_ar k 2 6 = true) (h1 : k < t) (h3 : j < 6) : WP V 125 68 ls (.int (nI j) :: .ref k :: st) t I L R Q = WP V 125 69 ls (.int (I k j) :: st) t I L R Q := wp_iaload rfl (by decide) h1 h2 h3
theorem i125_69  : WP V 125 69 ls st t I L R Q = WP V 125 70 ls (.int (nI 1) :: st) t I L R Q := wp_go rfl
theorem i125_70 {x y : Int32} : WP V 125 70 ls (.int y :: .int x :: st) t I L R Q = WP V 125 71 ls (.int (x - y) :: st) t I L R Q := wp_go rfl
theorem i125_71 {x : Int32} : WP V 125 71 ls [.int x] t I L R Q = Q (some (.int x)) t I L R := wp_rti rfl rfl
-- TransactionCellsModel.wipe()I
theorem i126_0 {w1 w2 : Value} {x : Nat} : WP V 126 0 [.ref x, w1, w2] st t I L R Q = WP V 126 1 [.ref x, w1, w2] (.ref x :: st) t I L R Q := wp_go rfl
theorem i126_1 {x0 : Nat}  (h1 : x0 < t) (h2 : m_ob x0 8 = true) : WP V 126 1 ls [.ref x0] t I L R Q = WPC V 119 [.ref x0] 126 2 ls [] t I L R Q := wp_cls (wp_icv rfl rfl h1 h2) (by decide) (Nat.le_of_ble_eq_true rfl) rfl rfl (Nat.le_of_ble_eq_true rfl) (Nat.le_of_ble_eq_true rfl)
theorem i126_2 {x : Int32} : WP V 126 2 ls (.int x :: st) t I L R Q = if x = nI 0 then WP V 126 3 ls st t I L R Q else WP V 126 5 ls st t I L R Q := wp_brn (c := m_cc .ne x 0) rfl rfl
theorem i126_3  : WP V 126 3 ls st t I L R Q = WP V 126 4 ls (.int (-103) :: st) t I L R Q := wp_go rfl
theorem i126_4 {x : Int32} : WP V 126 4 ls [.int x] t I L R Q = Q (some (.int x)) t I L R := wp_rti rfl rfl
theorem i126_5  : WP V 126 5 ls st t I L R Q = WP V 126 6 ls (.int (nI 0) :: st) t I L R Q := wp_go rfl
theorem i126_6 {p : Nat} {w1 w2 : Value} {x : Int32} : WP V 126 6 [.ref p, w1, w2] (.int x :: st) t I L R Q = WP V 126 7 [.ref p, .int x, w2] st t I L R Q := wp_go rfl
theorem i126_7  : WP V 126 7 ls st t I L R Q = WP V 126 8 ls (.int (nI 0) :: st) t I L R Q := wp_go rfl
theorem i126_8 {p : Int32} {w0 w2 : Value} {x : Int32} : WP V 126 8 [w0, .int p, w2] (.int x :: st) t I L R Q = WP V 126 9 [w0, .int p, .int x] st t I L R Q := wp_go rfl
theorem i126_9 {w0 w1 : Value} {x : Int32} : WP V 126 9 [w0, w1, .int x] st t I L R Q = WP V 126 10 [w0, w1, .int x] (.int x :: st) t I L R Q := wp_go rfl
theorem i126_10  : WP V 126 10 ls st t I L R Q = WP V 126 11 ls (.int (nI 6) :: st) t I L R Q := wp_go rfl
theorem i126_11 {x y : Int32} : WP V 126 11 ls (.int y :: .int x :: st) t I L R Q = if y ≤ x then WP V 126 26 ls st t I L R Q else WP V 126 12 ls st t I L R Q := wp_br (c := m_cc .ge x y) rfl rfl
theorem i126_12 {w0 w2 : Value} {x : Int32} : WP V 126 12 [w0, .int x, w2] st t I L R Q = WP V 126 13 [w0, .int x, w2] (.int x :: st) t I L R Q := wp_go rfl
theorem i126_13 {w1 w2 : Value} {x : Nat} : WP V 126 13 [.ref x, w1, w2] st t I L R Q = WP V 126 14 [.ref x, w1, w2] (.ref x :: st) t I L R Q := wp_go rfl
theorem i126_14 {k : Nat} (h1 : k < t) (h2 : m_ob k 8 = true) : WP V 126 14 ls (.ref k :: st) t I L R Q = WP V 126 15 ls (m_rv (R k 6) :: st) t I L R Q := wp_getR rfl (by decide) h1 h2
theorem i126_15 {w0 w1 : Value} {x : Int32} : WP V 126 15 [w0, w1, .int x] st t I L R Q = WP V 126 16 [w0, w1, .int x] (.int x :: st) t I L R Q := wp_go rfl
theorem i126_16 {k j : Nat} (h2 : m_ar k 2 6 = true) (h1 : k < t) (h3 : j < 6) : WP V 126 16 ls (.int (nI j) :: .ref k :: st) t I L R Q = WP V 126 17 ls (.int (I k j) :: st) t I L R Q := wp_iaload rfl (by decide) h1 h2 h3
theorem i126_17 {x y : Int32} : WP V 126 17 ls (.int y :: .int x :: st) t I L R Q = WP V 126 18 ls (.int (x + y) :: st) t I L R Q := wp_go rfl
theorem i126_18 {p : Nat} {w1 w2 : Value} {x : Int32} : WP V 126 18 [.ref p, w1, w2] (.int x :: st) t I L R Q = WP V 126 19 [.ref p, .int x, w2] st t I L R Q := wp_go rfl
theorem i126_19 {w1 w2 : Value} {x : Nat} : WP V 126 19 [.ref x, w1, w2] st t I L R Q = WP V 126 20 [.ref x, w1, w2] (.ref x :: st) t I L R Q := wp_go rfl
theorem i126_20 {k : Nat} (h1 : k < t) (h2 : m_ob k 8 = true) : WP V 126 20 ls (.ref k :: st) t I L R Q = WP V 126 21 ls (m_rv (R k 6) :: st) t I L R Q := wp_getR rfl (by decide) h1 h2
theorem i126_21 {w0 w1 : Value} {x : Int32} : WP V 126 21 [w0, w1, .int x] st t I L R Q = WP V 126 22 [w0, w1, .int x] (.int x :: st) t I L R Q := wp_go rfl
theorem i126_22  : WP V 126 22 ls st t I L R Q = WP V 126 23 ls (.int (nI 0) :: st) t I L R Q := wp_go rfl
theorem i126_23 {k j : Nat} {x : Int32} (h2 : m_ar k 2 6 = true) (h1 : k < t) (h3 : j < 6) : WP V 126 23 ls (.int x :: .int (nI j) :: .ref k :: st) t I L R Q = WP V 126 24 ls st t (m_sc I k (m_sc (I k) j x)) L R Q := wp_iastore rfl (by decide) h1 h2 h3
theorem i126_24 {p : Int32} {w0 : Value} {x : Int32} : WP V 126 24 [w0, .int p, .int x] st t I L R Q = WP V 126 25 [w0, .int p, .int (x + (nI 1))] st t I L R Q := wp_go rfl
theorem i126_25  : WP V 126 25 ls st t I L R Q = WP V 126 9 ls st t I L R Q := wp_go rfl
theorem i126_26 {w0 w2 : Value} {x : Int32} : WP V 126 26 [w0, .int x, w2] st t I L R Q = WP V 126 27 [w0, .int x, w2] (.int x :: st) t I L R Q := wp_go rfl
theorem i126_27 {x : Int32} : WP V 126 27 ls [.int x] t I L R Q = Q (some (.int x)) t I L R := wp_rti rfl rfl
-- TransactionCellsModel.row(III)I
theorem i127_0 {w0 w2 w3 w4 : Value} {x : Int32} : WP V 127 0 [w0, .int x, w2, w3, w4] st t I L R Q = WP V 127 1 [w0, .int x, w2, w3, w4] (.int x :: st) t I L R Q := wp_go rfl
theorem i127_1  : WP V 127 1 ls st t I L R Q = WP V 127 2 ls (.int (nI 0) :: st) t I L R Q := wp_go rfl
theorem i127_2  : WP V 127 2 ls st t I L R Q = WP V 127 3 ls (.int (nI 5) :: st) t I L R Q := wp_go rfl
theorem i127_3 {x0 : Int32} {x1 : Int32} {x2 : Int32}  : WP V 127 3 ls [.int x0, .int x1, .int x2] t I L R Q = WPC V 111 [.int x2, .int x1, .int x0] 127 4 ls [] t I L R Q := wp_cls (wp_ics rfl (by decide)) (by decide) (Nat.le_of_ble_eq_true rfl) rfl rfl (Nat.le_of_ble_eq_true rfl) (Nat.le_of_ble_eq_true rfl)
theorem i127_4 {x : Int32} : WP V 127 4 ls (.int x :: st) t I L R Q = if x = nI 0 then WP V 127 5 ls st t I L R Q else WP V 127 7 ls st t I L R Q := wp_brn (c := m_cc .ne x 0) rfl rfl
theorem i127_5  : WP V 127 5 ls st t I L R Q = WP V 127 6 ls (.int (-101) :: st) t I L R Q := wp_go rfl
theorem i127_6 {x : Int32} : WP V 127 6 ls [.int x] t I L R Q = Q (some (.int x)) t I L R := wp_rti rfl rfl
theorem i127_7 {w0 w1 w3 w4 : Value} {x : Int32} : WP V 127 7 [w0, w1, .int x, w3, w4] st t I L R Q = WP V 127 8 [w0, w1, .int x, w3, w4] (.int x :: st) t I L R Q := wp_go rfl
theorem i127_8  : WP V 127 8 ls st t I L R Q = WP V 127 9 ls (.int (nI 0) :: st) t I L R Q := wp_go rfl
theorem i127_9  : WP V 127 9 ls st t I L R Q = WP V 127 10 ls (.int (nI 4) :: st) t I L R Q := wp_go rfl
theorem i127_10 {x0 : Int32} {x1 : Int32} {x2 : Int32}  : WP V 127 10 ls [.int x0, .int x1, .int x2] t I L R Q = WPC V 111 [.int x2, .int x1, .int x0] 127 11 ls [] t I L R Q := wp_cls (wp_ics rfl (by decide)) (by decide) (Nat.le_of_ble_eq_true rfl) rfl rfl (Nat.le_of_ble_eq_true rfl) (Nat.le_of_ble_eq_true rfl)
theorem i127_11 {x : Int32} : WP V 127 11 ls (.int x :: st) t I L R Q = if x = nI 0 then WP V 127 15 ls st t I L R Q else WP V 127 12 ls st t I L R Q := wp_br (c := m_cc .eq x 0) rfl rfl
theorem i127_12 {w0 w1 w2 w4 : Value} {x : Int32} : WP V 127 12 [w0, w1, w2, .int x, w4] st t I L R Q = WP V 127 13 [w0, w1, w2, .int x, w4] (.int x :: st) t I L R Q := wp_go rfl
theorem i127_13  : WP V 127 13 ls st t I L R Q = WP V 127 14 ls (.int (nI 16) :: st) t I L R Q := wp_go rfl
theorem i127_14 {x y : Int32} : WP V 127 14 ls (.int y :: .int x :: st) t I L R Q = if x ≤ y then WP V 127 17 ls st t I L R Q else WP V 127 15 ls st t I L R Q := wp_br (c := m_cc .le x y) rfl rfl
theorem i127_15  : WP V 127 15 ls st t I L R Q = WP V 127 16 ls (.int (-102) :: st) t I L R Q := wp_go rfl
theorem i127_16 {x : Int32} : WP V 127 16 ls [.int x] t I L R Q = Q (some (.int x)) t I L R := wp_rti rfl rfl
theorem i127_17 {w0 w1 w2 w4 : Value} {x : Int32} : WP V 127 17 [w0, w1, w2, .int x, w4] st t I L R Q = WP V 127 18 [w0, w1, w2, .int x, w4] (.int x :: st) t I L R Q := wp_go rfl
theorem i127_18 {x : Int32} : WP V 127 18 ls (.int x :: st) t I L R Q = if nI 0 ≤ x then WP V 127 21 ls st t I L R Q else WP V 127 19 ls st t I L R Q := wp_br (c := m_cc .ge x 0) rfl rfl
theorem i127_19  : WP V 127 19 ls st t I L R Q = WP V 127 20 ls (.int (-15) :: st) t I L R Q := wp_go rfl
theorem i127_20 {x : Int32} : WP V 127 20 ls [.int x] t I L R Q = Q (some (.int x)) t I L R := wp_rti rfl rfl
theorem i127_21 {w1 w2 w3 w4 : Value} {x : Nat} : WP V 127 21 [.ref x, w1, w2, w3, w4] st t I L R Q = WP V 127 22 [.ref x, w1, w2, w3, w4] (.ref x :: st) t I L R Q := wp_go rfl
theorem i127_22 {k : Nat} (h1 : k < t) (h2 : m_ob k 8 = true) : WP V 127 22 ls (.ref k :: st) t I L R Q = WP V 127 23 ls (m_rv (R k 11) :: st) t I L R Q := wp_getR rfl (by decide) h1 h2
theorem i127_23 {w0 w2 w3 w4 : Value} {x : Int32} : WP V 127 23 [w0, .int x, w2, w3, w4] st t I L R Q = WP V 127 24 [w0, .int x, w2, w3, w4] (.int x :: st) t I L R Q := wp_go rfl
theorem i127_24  : WP V 127 24 ls st t I L R Q = WP V 127 25 ls (.int (nI 1) :: st) t I L R Q := wp_go rfl
theorem i127_25 {k j : Nat} {x : Int32} (h2 : m_ar k 3 6 = true) (h1 : k < t) (h3 : j < 6) : WP V 127 25 ls (.int x :: .int (nI j) :: .ref k :: st) t I L R Q = WP V 127 26 ls st t (m_sc I k (m_sc (I k) j (x &&& 1))) L R Q := wp_bastore rfl (by decide) h1 h2 h3
theorem i127_26 {w1 w2 w3 w4 : Value} {x : Nat} : WP V 127 26 [.ref x, w1, w2, w3, w4] st t I L R Q = WP V 127 27 [.ref x, w1, w2, w3, w4] (.ref x :: st) t I L R Q := wp_go rfl
theorem i127_27 {k : Nat} (h1 : k < t) (h2 : m_ob k 8 = true) : WP V 127 27 ls (.ref k :: st) t I L R Q = WP V 127 28 ls (m_rv (R k 12) :: st) t I L R Q := wp_getR rfl (by decide) h1 h2
theorem i127_28 {w0 w2 w3 w4 : Value} {x : Int32} : WP V 127 28 [w0, .int x, w2, w3, w4] st t I L R Q = WP V 127 29 [w0, .int x, w2, w3, w4] (.int x :: st) t I L R Q := wp_go rfl
theorem i127_29 {w0 w1 w3 w4 : Value} {x : Int32} : WP V 127 29 [w0, w1, .int x, w3, w4] st t I L R Q = WP V 127 30 [w0, w1, .int x, w3, w4] (.int x :: st) t I L R Q := wp_go rfl
theorem i127_30 {k j : Nat} {x : Int32} (h2 : m_ar k 2 6 = true) (h1 : k < t) (h3 : j < 6) : WP V 127 30 ls (.int x :: .int (nI j) :: .ref k :: st) t I L R Q = WP V 127 31 ls st t (m_sc I k (m_sc (I k) j x)) L R Q := wp_iastore rfl (by decide) h1 h2 h3
theorem i127_31 {w1 w2 w3 w4 : Value} {x : Nat} : WP V 127 31 [.ref x, w1, w2, w3, w4] st t I L R Q = WP V 127 32 [.ref x, w1, w2, w3, w4] (.ref x :: st) t I L R Q := wp_go rfl
theorem i127_32 {k : Nat} (h1 : k < t) (h2 : m_ob k 8 = true) : WP V 127 32 ls (.ref k :: st) t I L R Q = WP V 127 33 ls (m_rv (R k 13) :: st) t I L R Q := wp_getR rfl (by decide) h1 h2
theorem i127_33 {w0 w2 w3 w4 : Value} {x : Int32} : WP V 127 33 [w0, .int x, w2, w3, w4] st t I L R Q = WP V 127 34 [w0, .int x, w2, w3, w4] (.int x :: st) t I L R Q := wp_go rfl
theorem i127_34 {w0 w1 w2 w4 : Value} {x : Int32} : WP V 127 34 [w0, w1, w2, .int x, w4] st t I L R Q = WP V 127 35 [w0, w1, w2, .int x, w4] (.int x :: st) t I L R Q := wp_go rfl
theorem i127_35 {k j : Nat} {x : Int32} (h2 : m_ar k 2 6 = true) (h1 : k < t) (h3 : j < 6) : WP V 127 35 ls (.int x :: .int (nI j) :: .ref k :: st) t I L R Q = WP V 127 36 ls st t (m_sc I k (m_sc (I k) j x)) L R Q := wp_iastore rfl (by decide) h1 h2 h3
theorem i127_36  : WP V 127 36 ls st t I L R Q = WP V 127 37 ls (.int (nI 0) :: st) t I L R Q := wp_go rfl
theorem i127_37 {p : Int32} {w0 w1 w2 w4 : Value} {x : Int32} : WP V 127 37 [w0, w1, w2, .int p, w4] (.int x :: st) t I L R Q = WP V 127 38 [w0, w1, w2, .int p, .int x] st t I L R Q := wp_go rfl
theorem i127_38 {w0 w1 w2 w3 : Value} {x : Int32} : WP V 127 38 [w0, w1, w2, w3, .int x] st t I L R Q = WP V 127 39 [w0, w1, w2, w3, .int x] (.int x :: st) t I L R Q := wp_go rfl
theorem i127_39  : WP V 127 39 ls st t I L R Q = WP V 127 40 ls (.int (nI 16) :: st) t I L R Q := wp_go rfl
theorem i127_40 {x y : Int32} : WP V 127 40 ls (.int y :: .int x :: st) t I L R Q = if y ≤ x then WP V 127 52 ls st t I L R Q else WP V 127 41 ls st t I L R Q := wp_br (c := m_cc .ge x y) rfl rfl
theorem i127_41 {w1 w2 w3 w4 : Value} {x : Nat} : WP V 127 41 [.ref x, w1, w2, w3, w4] st t I L R Q = WP V 127 42 [.ref x, w1, w2, w3, w4] (.ref x :: st) t I L R Q := wp_go rfl
theorem i127_42 {k : Nat} (h1 : k < t) (h2 : m_ob k 8 = true) : WP V 127 42 ls (.ref k :: st) t I L R Q = WP V 127 43 ls (m_rv (R k 14) :: st) t I L R Q := wp_getR rfl (by decide) h1 h2
theorem i127_43  : WP V 127 43 ls st t I L R Q = WP V 127 44 ls (.int (nI 16) :: st) t I L R Q := wp_go rfl
theorem i127_44 {w0 w2 w3 w4 : Value} {x : Int32} : WP V 127 44 [w0, .int x, w2, w3, w4] st t I L R Q = WP V 127 45 [w0, .int x, w2, w3, w4] (.int x :: st) t I L R Q := wp_go rfl
theorem i127_45 {x y : Int32} : WP V 127 45 ls (.int y :: .int x :: st) t I L R Q = WP V 127 46 ls (.int (x * y) :: st) t I L R Q := wp_go rfl
theorem i127_46 {w0 w1 w2 w3 : Value} {x : Int32} : WP V 127 46 [w0, w1, w2, w3, .int x] st t I L R Q = WP V 127 47 [w0, w1, w2, w3, .int x] (.int x :: st) t I L R Q := wp_go rfl
theorem i127_47 {x y : Int32} : WP V 127 47 ls (.int y :: .int x :: st) t I L R Q = WP V 127 48 ls (.int (x + y) :: st) t I L R Q := wp_go rfl
theorem i127_48  : WP V 127 48 ls st t I L R Q = WP V 127 49 ls (.long (lN 0) :: st) t I L R Q := wp_go rfl
theorem i127_49 {k j : Nat} {x : Int64} (h2 : m_ar k 4 96 = true) (h1 : k < t) (h3 : j < 96) : WP V 127 49 ls (.long x :: .int (nI j) :: .ref k :: st) t I L R Q = WP V 127 50 ls st t I (m_sc L k (m_sc (L k) j x)) R Q := wp_lastore rfl (by decide) h1 h2 h3
theorem i127_50 {p : Int32} {w0 w1 w2 : Value} {x : Int32} : WP V 127 50 [w0, w1, w2, .int p, .int x] st t I L R Q = WP V 127 51 [w0, w1, w2, .int p, .int (x + (nI 1))] st t I L R Q := wp_go rfl
theorem i127_51  : WP V 127 51 ls st t I L R Q = WP V 127 38 ls st t I L R Q := wp_go rfl
theorem i127_52  : WP V 127 52 ls st t I L R Q = WP V 127 53 ls (.int (nI 0) :: st) t I L R Q := wp_go rfl
theorem i127_53 {x : Int32} : WP V 127 53 ls [.int x] t I L R Q = Q (some (.int x)) t I L R := wp_rti rfl rfl
-- TransactionCellsModel.item(IIJ)I
theorem i128_0 {w0 w2 w3 w4 w5 : Value} {x : Int32} : WP V 128 0 [w0, .int x, w2, w3, w4, w5] st t I L R Q = WP V 128 1 [w0, .int x, w2, w3, w4, w5] (.int x :: st) t I L R Q := wp_go rfl
theorem i128_1  : WP V 128 1 ls st t I L R Q = WP V 128 2 ls (.int (nI 0) :: st) t I L R Q := wp_go rfl
theorem i128_2  : WP V 128 2 ls st t I L R Q = WP V 128 3 ls (.int (nI 5) :: st) t I L R Q := wp_go rfl
theorem i128_3 {x0 : Int32} {x1 : Int32} {x2 : Int32}  : WP V 128 3 ls [.int x0, .int x1, .int x2] t I L R Q = WPC V 111 [.int x2, .int x1, .int x0] 128 4 ls [] t I L R Q := wp_cls (wp_ics rfl (by decide)) (by decide) (Nat.le_of_ble_eq_true rfl) rfl rfl (Nat.le_of_ble_eq_true rfl) (Nat.le_of_ble_eq_true rfl)
theorem i128_4 {x : Int32} : WP V 128 4 ls (.int x :: st) t I L R Q = if x = nI 0 then WP V 128 5 ls st t I L R Q else WP V 128 7 ls st t I L R Q := wp_brn (c := m_cc .ne x 0) rfl rfl
theorem i128_5  : WP V 128 5 ls st t I L R Q = WP V 128 6 ls (.int (-101) :: st) t I L R Q := wp_go rfl
theorem i128_6 {x : Int32} : WP V 128 6 ls [.int x] t I L R Q = Q (some (.int x)) t I L R := wp_rti rfl rfl
theorem i128_7 {w1 w2 w3 w4 w5 : Value} {x : Nat} : WP V 128 7 [.ref x, w1, w2, w3, w4, w5] st t I L R Q = WP V 128 8 [.ref x, w1, w2, w3, w4, w5] (.ref x :: st) t I L R Q := wp_go rfl
theorem i128_8 {k : Nat} (h1 : k < t) (h2 : m_ob k 8 = true) : WP V 128 8 ls (.ref k :: st) t I L R Q = WP V 128 9 ls (m_rv (R k 11) :: st) t I L R Q := wp_getR rfl (by decide) h1 h2
theorem i128_9 {w0 w2 w3 w4 w5 : Value} {x : Int32} : WP V 128 9 [w0, .int x, w2, w3, w4, w5] st t I L R Q = WP V 128 10 [w0, .int x, w2, w3, w4, w5] (.int x :: st) t I L R Q := wp_go rfl
theorem i128_10 {k j : Nat} (h2 : m_ar k 3 6 = true) (h1 : k < t) (h3 : j < 6) : WP V 128 10 ls (.int (nI j) :: .ref k :: st) t I L R Q = WP V 128 11 ls (.int (I k j) :: st) t I L R Q := wp_baload rfl (by decide) h1 h2 h3
theorem i128_11 {x : Int32} : WP V 128 11 ls (.int x :: st) t I L R Q = if x = nI 0 then WP V 128 12 ls st t I L R Q else WP V 128 14 ls st t I L R Q := wp_brn (c := m_cc .ne x 0) rfl rfl
theorem i128_12  : WP V 128 12 ls st t I L R Q = WP V 128 13 ls (.int (-103) :: st) t I L R Q := wp_go rfl
theorem i128_13 {x : Int32} : WP V 128 13 ls [.int x] t I L R Q = Q (some (.int x)) t I L R := wp_rti rfl rfl
theorem i128_14 {w0 w1 w3 w4 w5 : Value} {x : Int32} : WP V 128 14 [w0, w1, .int x, w3, w4, w5] st t I L R Q = WP V 128 15 [w0, w1, .int x, w3, w4, w5] (.int x :: st) t I L R Q := wp_go rfl
theorem i128_15  : WP V 128 15 ls st t I L R Q = WP V 128 16 ls (.int (nI 0) :: st) t I L R Q := wp_go rfl
theorem i128_16 {w1 w2 w3 w4 w5 : Value} {x : Nat} : WP V 128 16 [.ref x, w1, w2, w3, w4, w5] st t I L R Q = WP V 128 17 [.ref x, w1, w2, w3, w4, w5] (.ref x :: st) t I L R Q := wp_go rfl
theorem i128_17 {k : Nat} (h1 : k < t) (h2 : m_ob k 8 = true) : WP V 128 17 ls (.ref k :: st) t I L R Q = WP V 128 18 ls (m_rv (R k 13) :: st) t I L R Q := wp_getR rfl (by decide) h1 h2
theorem i128_18 {w0 w2 w3 w4 w5 : Value} {x : Int32} : WP V 128 18 [w0, .int x, w2, w3, w4, w5] st t I L R Q = WP V 128 19 [w0, .int x, w2, w3, w4, w5] (.int x :: st) t I L R Q := wp_go rfl
theorem i128_19 {k j : Nat} (h2 : m_ar k 2 6 = true) (h1 : k < t) (h3 : j < 6) : WP V 128 19 ls (.int (nI j) :: .ref k :: st) t I L R Q = WP V 128 20 ls (.int (I k j) :: st) t I L R Q := wp_iaload rfl (by decide) h1 h2 h3
theorem i128_20  : WP V 128 20 ls st t I L R Q = WP V 128 21 ls (.int (nI 1) :: st) t I L R Q := wp_go rfl
theorem i128_21 {x y : Int32} : WP V 128 21 ls (.int y :: .int x :: st) t I L R Q = WP V 128 22 ls (.int (x - y) :: st) t I L R Q := wp_go rfl
theorem i128_22 {x0 : Int32} {x1 : Int32} {x2 : Int32}  : WP V 128 22 ls [.int x0, .int x1, .int x2] t I L R Q = WPC V 111 [.int x2, .int x1, .int x0] 128 23 ls [] t I L R Q := wp_cls (wp_ics rfl (by decide)) (by decide) (Nat.le_of_ble_eq_true rfl) rfl rfl (Nat.le_of_ble_eq_true rfl) (Nat.le_of_ble_eq_true rfl)
theorem i128_23 {x : Int32} : WP V 128 23 ls (.int x :: st) t I L R Q = if x = nI 0 then WP V 128 24 ls st t I L R Q else WP V 128 26 ls st t I L R Q := wp_brn (c := m_cc .ne x 0) rfl rfl
theorem i128_24  : WP V 128 24 ls st t I L R Q = WP V 128 25 ls (.int (-102) :: st) t I L R Q := wp_go rfl
theorem i128_25 {x : Int32} : WP V 128 25 ls [.int x] t I L R Q = Q (some (.int x)) t I L R := wp_rti rfl rfl
theorem i128_26 {w1 w2 w3 w4 w5 : Value} {x : Nat} : WP V 128 26 [.ref x, w1, w2, w3, w4, w5] st t I L R Q = WP V 128 27 [.ref x, w1, w2, w3, w4, w5] (.ref x :: st) t I L R Q := wp_go rfl
theorem i128_27 {k : Nat} (h1 : k < t) (h2 : m_ob k 8 = true) : WP V 128 27 ls (.ref k :: st) t I L R Q = WP V 128 28 ls (m_rv (R k 12) :: st) t I L R Q := wp_getR rfl (by decide) h1 h2
theorem i128_28 {w0 w2 w3 w4 w5 : Value} {x : Int32} : WP V 128 28 [w0, .int x, w2, w3, w4, w5] st t I L R Q = WP V 128 29 [w0, .int x, w2, w3, w4, w5] (.int x :: st) t I L R Q := wp_go rfl
theorem i128_29 {k j : Nat} (h2 : m_ar k 2 6 = true) (h1 : k < t) (h3 : j < 6) : WP V 128 29 ls (.int (nI j) :: .ref k :: st) t I L R Q = WP V 128 30 ls (.int (I k j) :: st) t I L R Q := wp_iaload rfl (by decide) h1 h2 h3
theorem i128_30 {w0 w1 w2 w3 w5 : Value} {x : Int32} : WP V 128 30 [w0, w1, w2, w3, m_u, w5] (.int x :: st) t I L R Q = WP V 128 31 [w0, w1, w2, w3, m_u, .int x] st t I L R Q := wp_go rfl
theorem i128_31 {w1 w2 w3 w4 w5 : Value} {x : Nat} : WP V 128 31 [.ref x, w1, w2, w3, w4, w5] st t I L R Q = WP V 128 32 [.ref x, w1, w2, w3, w4, w5] (.ref x :: st) t I L R Q := wp_go rfl
theorem i128_32 {k : Nat} (h1 : k < t) (h2 : m_ob k 8 = true) : WP V 128 32 ls (.ref k :: st) t I L R Q = WP V 128 33 ls (m_rv (R k 14) :: st) t I L R Q := wp_getR rfl (by decide) h1 h2
theorem i128_33  : WP V 128 33 ls st t I L R Q = WP V 128 34 ls (.int (nI 16) :: st) t I L R Q := wp_go rfl
theorem i128_34 {w0 w2 w3 w4 w5 : Value} {x : Int32} : WP V 128 34 [w0, .int x, w2, w3, w4, w5] st t I L R Q = WP V 128 35 [w0, .int x, w2, w3, w4, w5] (.int x :: st) t I L R Q := wp_go rfl
theorem i128_35 {x y : Int32} : WP V 128 35 ls (.int y :: .int x :: st) t I L R Q = WP V 128 36 ls (.int (x * y) :: st) t I L R Q := wp_go rfl
theorem i128_36 {w0 w1 w3 w4 w5 : Value} {x : Int32} : WP V 128 36 [w0, w1, .int x, w3, w4, w5] st t I L R Q = WP V 128 37 [w0, w1, .int x, w3, w4, w5] (.int x :: st) t I L R Q := wp_go rfl
theorem i128_37 {x y : Int32} : WP V 128 37 ls (.int y :: .int x :: st) t I L R Q = WP V 128 38 ls (.int (x + y) :: st) t I L R Q := wp_go rfl
theorem i128_38 {w0 w1 w2 w3 w4 : Value} {x : Int32} : WP V 128 38 [w0, w1, w2, w3, w4, .int x] st t I L R Q = WP V 128 39 [w0, w1, w2, w3, w4, .int x] (.int x :: st) t I L R Q := wp_go rfl
theorem i128_39 {x : Int32} : WP V 128 39 ls (.int x :: st) t I L R Q = if x = nI 0 then WP V 128 40 ls st t I L R Q else WP V 128 44 ls st t I L R Q := wp_brn (c := m_cc .ne x 0) rfl rfl
theorem i128_40 {w0 w1 w2 w4 w5 : Value} {x : Int64} : WP V 128 40 [w0, w1, w2, .long x, w4, w5] st t I L R Q = WP V 128 41 [w0, w1, w2, .long x, w4, w5] (.long x :: st) t I L R Q := wp_go rfl
theorem i128_41  : WP V 128 41 ls st t I L R Q = WP V 128 42 ls (.long (lN 1) :: st) t I L R Q := wp_go rfl
theorem i128_42 {x y : Int64} : WP V 128 42 ls (.long y :: .long x :: st) t I L R Q = WP V 128 43 ls (.long (x &&& y) :: st) t I L R Q := wp_go rfl
theorem i128_43  : WP V 128 43 ls st t I L R Q = WP V 128 68 ls st t I L R Q := wp_go rfl
theorem i128_44 {w0 w1 w2 w3 w4 : Value} {x : Int32} : WP V 128 44 [w0, w1, w2, w3, w4, .int x] st t I L R Q = WP V 128 45 [w0, w1, w2, w3, w4, .int x] (.int x :: st) t I L R Q := wp_go rfl
theorem i128_45  : WP V 128 45 ls st t I L R Q = WP V 128 46 ls (.int (nI 1) :: st) t I L R Q := wp_go rfl
theorem i128_46 {x y : Int32} : WP V 128 46 ls (.int y :: .int x :: st) t I L R Q = if x = y then WP V 128 47 ls st t I L R Q else WP V 128 52 ls st t I L R Q := wp_brn (c := m_cc .ne x y) rfl rfl
theorem i128_47 {w0 w1 w2 w4 w5 : Value} {x : Int64} : WP V 128 47 [w0, w1, w2, .long x, w4, w5] st t I L R Q = WP V 128 48 [w0, w1, w2, .long x, w4, w5] (.long x :: st) t I L R Q := wp_go rfl
theorem i128_48 {x : Int64} : WP V 128 48 ls (.long x :: st) t I L R Q = WP V 128 49 ls (.int x.toInt32 :: st) t I L R Q := wp_go rfl
theorem i128_49 {x : Int32} : WP V 128 49 ls (.int x :: st) t I L R Q = WP V 128 50 ls (.int x.toInt8.toInt32 :: st) t I L R Q := wp_go rfl
theorem i128_50 {x : Int32} : WP V 128 50 ls (.int x :: st) t I L R Q = WP V 128 51 ls (.long x.toInt64 :: st) t I L R Q := wp_go rfl
theorem i128_51  : WP V 128 51 ls st t I L R Q = WP V 128 68 ls st t I L R Q := wp_go rfl
theorem i128_52 {w0 w1 w2 w3 w4 : Value} {x : Int32} : WP V 128 52 [w0, w1, w2, w3, w4, .int x] st t I L R Q = WP V 128 53 [w0, w1, w2, w3, w4, .int x] (.int x :: st) t I L R Q := wp_go rfl
theorem i128_53  : WP V 128 53 ls st t I L R Q = WP V 128 54 ls (.int (nI 2) :: st) t I L R Q := wp_go rfl
theorem i128_54 {x y : Int32} : WP V 128 54 ls (.int y :: .int x :: st) t I L R Q = if x = y then WP V 128 55 ls st t I L R Q else WP V 128 60 ls st t I L R Q := wp_brn (c := m_cc .ne x y) rfl rfl
theorem i128_55 {w0 w1 w2 w4 w5 : Value} {x : Int64} : WP V 128 55 [w0, w1, w2, .long x, w4, w5] st t I L R Q = WP V 128 56 [w0, w1, w2, .long x, w4, w5] (.long x :: st) t I L R Q := wp_go rfl
theorem i128_56 {x : Int64} : WP V 128 56 ls (.long x :: st) t I L R Q = WP V 128 57 ls (.int x.toInt32 :: st) t I L R Q := wp_go rfl
theorem i128_57 {x : Int32} : WP V 128 57 ls (.int x :: st) t I L R Q = WP V 128 58 ls (.int x.toInt16.toInt32 :: st) t I L R Q := wp_go rfl
theorem i128_58 {x : Int32} : WP V 128 58 ls (.int x :: st) t I L R Q = WP V 128 59 ls (.long x.toInt64 :: st) t I L R Q := wp_go rfl
theorem i128_59  : WP V 128 59 ls st t I L R Q = WP V 128 68 ls st t I L R Q := wp_go rfl
theorem i128_60 {w0 w1 w2 w3 w4 : Value} {x : Int32} : WP V 128 60 [w0, w1, w2, w3, w4, .int x] st t I L R Q = WP V 128 61 [w0, w1, w2, w3, w4, .int x] (.int x :: st) t I L R Q := wp_go rfl
theorem i128_61  : WP V 128 61 ls st t I L R Q = WP V 128 62 ls (.int (nI 3) :: st) t I L R Q := wp_go rfl
theorem i128_62 {x y : Int32} : WP V 128 62 ls (.int y :: .int x :: st) t I L R Q = if x = y then WP V 128 63 ls st t I L R Q else WP V 128 67 ls st t I L R Q := wp_brn (c := m_cc .ne x y) rfl rfl
theorem i128_63 {w0 w1 w2 w4 w5 : Value} {x : Int64} : WP V 128 63 [w0, w1, w2, .long x, w4, w5] st t I L R Q = WP V 128 64 [w0, w1, w2, .long x, w4, w5] (.long x :: st) t I L R Q := wp_go rfl
theorem i128_64 {x : Int64} : WP V 128 64 ls (.long x :: st) t I L R Q = WP V 128 65 ls (.int x.toInt32 :: st) t I L R Q := wp_go rfl
theorem i128_65 {x : Int32} : WP V 128 65 ls (.int x :: st) t I L R Q = WP V 128 66 ls (.long x.toInt64 :: st) t I L R Q := wp_go rfl
theorem i128_66  : WP V 128 66 ls st t I L R Q = WP V 128 68 ls st t I L R Q := wp_go rfl
theorem i128_67 {w0 w1 w2 w4 w5 : Value} {x : Int64} : WP V 128 67 [w0, w1, w2, .long x, w4, w5] st t I L R Q = WP V 128 68 [w0, w1, w2, .long x, w4, w5] (.long x :: st) t I L R Q := wp_go rfl
theorem i128_68 {k j : Nat} {x : Int64} (h2 : m_ar k 4 96 = true) (h1 : k < t) (h3 : j < 96) : WP V 128 68 ls (.long x :: .int (nI j) :: .ref k :: st) t I L R Q = WP V 128 69 ls st t I (m_sc L k (m_sc (L k) j x)) R Q := wp_lastore rfl (by decide) h1 h2 h3
theorem i128_69  : WP V 128 69 ls st t I L R Q = WP V 128 70 ls (.int (nI 0) :: st) t I L R Q := wp_go rfl
theorem i128_70 {x : Int32} : WP V 128 70 ls [.int x] t I L R Q = Q (some (.int x)) t I L R := wp_rti rfl rfl
-- TransactionCellsModel.tear(I)I
theorem i129_0 {w0 w2 : Value} {x : Int32} : WP V 129 0 [w0, .int x, w2] st t I L R Q = WP V 129 1 [w0, .int x, w2] (.int x :: st) t I L R Q := wp_go rfl
theorem i129_1  : WP V 129 1 ls st t I L R Q = WP V 129 2 ls (.int (nI 0) :: st) t I L R Q := wp_go rfl
theorem i129_2  : WP V 129 2 ls st t I L R Q = WP V 129 3 ls (.int (nI 5) :: st) t I L R Q := wp_go rfl
theorem i129_3 {x0 : Int32} {x1 : Int32} {x2 : Int32}  : WP V 129 3 ls [.int x0, .int x1, .int x2] t I L R Q = WPC V 111 [.int x2, .int x1, .int x0] 129 4 ls [] t I L R Q := wp_cls (wp_ics rfl (by decide)) (by decide) (Nat.le_of_ble_eq_true rfl) rfl rfl (Nat.le_of_ble_eq_true rfl) (Nat.le_of_ble_eq_true rfl)
theorem i129_4 {x : Int32} : WP V 129 4 ls (.int x :: st) t I L R Q = if x = nI 0 then WP V 129 5 ls st t I L R Q else WP V 129 7 ls st t I L R Q := wp_brn (c := m_cc .ne x 0) rfl rfl
theorem i129_5  : WP V 129 5 ls st t I L R Q = WP V 129 6 ls (.int (-101) :: st) t I L R Q := wp_go rfl
theorem i129_6 {x : Int32} : WP V 129 6 ls [.int x] t I L R Q = Q (some (.int x)) t I L R := wp_rti rfl rfl
theorem i129_7 {w1 w2 : Value} {x : Nat} : WP V 129 7 [.ref x, w1, w2] st t I L R Q = WP V 129 8 [.ref x, w1, w2] (.ref x :: st) t I L R Q := wp_go rfl
theorem i129_8 {k : Nat} (h1 : k < t) (h2 : m_ob k 8 = true) : WP V 129 8 ls (.ref k :: st) t I L R Q = WP V 129 9 ls (m_rv (R k 11) :: st) t I L R Q := wp_getR rfl (by decide) h1 h2
theorem i129_9 {w0 w2 : Value} {x : Int32} : WP V 129 9 [w0, .int x, w2] st t I L R Q = WP V 129 10 [w0, .int x, w2] (.int x :: st) t I L R Q := wp_go rfl
theorem i129_10 {k j : Nat} (h2 : m_ar k 3 6 = true) (h1 : k < t) (h3 : j < 6) : WP V 129 10 ls (.int (nI j) :: .ref k :: st) t I L R Q = WP V 129 11 ls (.int (I k j) :: st) t I L R Q := wp_baload rfl (by decide) h1 h2 h3
theorem i129_11 {x : Int32} : WP V 129 11 ls (.int x :: st) t I L R Q = if x = nI 0 then WP V 129 14 ls st t I L R Q else WP V 129 12 ls st t I L R Q := wp_br (c := m_cc .eq x 0) rfl rfl
theorem i129_12  : WP V 129 12 ls st t I L R Q = WP V 129 13 ls (.int (nI 0) :: st) t I L R Q := wp_go rfl
theorem i129_13  : WP V 129 13 ls st t I L R Q = WP V 129 15 ls st t I L R Q := wp_go rfl
theorem i129_14  : WP V 129 14 ls st t I L R Q = WP V 129 15 ls (.int (nI 1) :: st) t I L R Q := wp_go rfl
theorem i129_15 {p : Int32} {w0 w2 : Value} {x : Int32} : WP V 129 15 [w0, .int p, w2] (.int x :: st) t I L R Q = WP V 129 16 [w0, .int p, .int x] st t I L R Q := wp_go rfl
theorem i129_16 {w1 w2 : Value} {x : Nat} : WP V 129 16 [.ref x, w1, w2] st t I L R Q = WP V 129 17 [.ref x, w1, w2] (.ref x :: st) t I L R Q := wp_go rfl
theorem i129_17 {k : Nat} (h1 : k < t) (h2 : m_ob k 8 = true) : WP V 129 17 ls (.ref k :: st) t I L R Q = WP V 129 18 ls (m_rv (R k 11) :: st) t I L R Q := wp_getR rfl (by decide) h1 h2
theorem i129_18 {w0 w2 : Value} {x : Int32} : WP V 129 18 [w0, .int x, w2] st t I L R Q = WP V 129 19 [w0, .int x, w2] (.int x :: st) t I L R Q := wp_go rfl
theorem i129_19  : WP V 129 19 ls st t I L R Q = WP V 129 20 ls (.int (nI 0) :: st) t I L R Q := wp_go rfl
theorem i129_20 {k j : Nat} {x : Int32} (h2 : m_ar k 3 6 = true) (h1 : k < t) (h3 : j < 6) : WP V 129 20 ls (.int x :: .int (nI j) :: .ref k :: st) t I L R Q = WP V 129 21 ls st t (m_sc I k (m_sc (I k) j (x &&& 1))) L R Q := wp_bastore rfl (by decide) h1 h2 h3
theorem i129_21  : WP V 129 21 ls st t I L R Q = WP V 129 22 ls (.int (nI 1) :: st) t I L R Q := wp_go rfl
theorem i129_22 {w0 w1 : Value} {x : Int32} : WP V 129 22 [w0, w1, .int x] st t I L R Q = WP V 129 23 [w0, w1, .int x] (.int x :: st) t I L R Q := wp_go rfl
theorem i129_23 {x y : Int32} : WP V 129 23 ls (.int y :: .int x :: st) t I L R Q = WP V 129 24 ls (.int (x - y) :: st) t I L R Q := wp_go rfl
theorem i129_24 {x : Int32} : WP V 129 24 ls [.int x] t I L R Q = Q (some (.int x)) t I L R := wp_rti rfl rfl
-- TransactionCellsModel.remember()V
theorem i130_0  : WP V 130 0 ls st t I L R Q = WP V 130 1 ls (.int (nI 0) :: st) t I L R Q := wp_go rfl
theorem i130_1 {p : Nat} {w1 : Value} {x : Int32} : WP V 130 1 [.ref p, w1] (.int x :: st) t I L R Q = WP V 130 2 [.ref p, .int x] st t I L R Q := wp_go rfl
theorem i130_2 {w0 : Value} {x : Int32} : WP V 130 2 [w0, .int x] st t I L R Q = WP V 130 3 [w0, .int x] (.int x :: st) t I L R Q := wp_go rfl
theorem i130_3  : WP V 130 3 ls st t I L R Q = WP V 130 4 ls (.int (nI 8) :: st) t I L R Q := wp_go rfl
theorem i130_4 {x y : Int32} : WP V 130 4 ls (.int y :: .int x :: st) t I L R Q = if y ≤ x then WP V 130 27 ls st t I L R Q else WP V 130 5 ls st t I L R Q := wp_br (c := m_cc .ge x y) rfl rfl
theorem i130_5 {w1 : Value} {x : Nat} : WP V 130 5 [.ref x, w1] st t I L R Q = WP V 130 6 [.ref x, w1] (.ref x :: st) t I L R Q := wp_go rfl
theorem i130_6 {k : Nat} (h1 : k < t) (h2 : m_ob k 8 = true) : WP V 130 6 ls (.ref k :: st) t I L R Q = WP V 130 7 ls (m_rv (R k 15) :: st) t I L R Q := wp_getR rfl (by decide) h1 h2
theorem i130_7 {w0 : Value} {x : Int32} : WP V 130 7 [w0, .int x] st t I L R Q = WP V 130 8 [w0, .int x] (.int x :: st) t I L R Q := wp_go rfl
theorem i130_8 {w1 : Value} {x : Nat} : WP V 130 8 [.ref x, w1] st t I L R Q = WP V 130 9 [.ref x, w1] (.ref x :: st) t I L R Q := wp_go rfl
theorem i130_9 {k : Nat} (h1 : k < t) (h2 : m_ob k 8 = true) : WP V 130 9 ls (.ref k :: st) t I L R Q = WP V 130 10 ls (m_rv (R k 0) :: st) t I L R Q := wp_getR rfl (by decide) h1 h2
theorem i130_10 {w0 : Value} {x : Int32} : WP V 130 10 [w0, .int x] st t I L R Q = WP V 130 11 [w0, .int x] (.int x :: st) t I L R Q := wp_go rfl
theorem i130_11 {x0 : Int32} {r0 : Nat} {r1 : Int32} {r2 : Nat} : WP V 130 11 ls [.int x0, .ref r0, .int r1, .ref r2] t I L R Q = WPC V 112 [.int x0] 130 12 ls [.ref r0, .int r1, .ref r2] t I L R Q := wp_cls (wp_ics rfl (by decide)) (by decide) (Nat.le_of_ble_eq_true rfl) rfl rfl (Nat.le_of_ble_eq_true rfl) (Nat.le_of_ble_eq_true rfl)
theorem i130_12 {k j : Nat} (h2 : m_ar k 2 612 = true) (h1 : k < t) (h3 : j < 612) : WP V 130 12 ls (.int (nI j) :: .ref k :: st) t I L R Q = WP V 130 13 ls (.int (I k j) :: st) t I L R Q := wp_iaload rfl (by decide) h1 h2 h3
theorem i130_13 {k j : Nat} {x : Int32} (h2 : m_ar k 2 8 = true) (h1 : k < t) (h3 : j < 8) : WP V 130 13 ls (.int x :: .int (nI j) :: .ref k :: st) t I L R Q = WP V 130 14 ls st t (m_sc I k (m_sc (I k) j x)) L R Q := wp_iastore rfl (by decide) h1 h2 h3
theorem i130_14 {w1 : Value} {x : Nat} : WP V 130 14 [.ref x, w1] st t I L R Q = WP V 130 15 [.ref x, w1] (.ref x :: st) t I L R Q := wp_go rfl
theorem i130_15 {k : Nat} (h1 : k < t) (h2 : m_ob k 8 = true) : WP V 130 15 ls (.ref k :: st) t I L R Q = WP V 130 16 ls (m_rv (R k 16) :: st) t I L R Q := wp_getR rfl (by decide) h1 h2
theorem i130_16 {w0 : Value} {x : Int32} : WP V 130 16 [w0, .int x] st t I L R Q = WP V 130 17 [w0, .int x] (.int x :: st) t I L R Q := wp_go rfl
theorem i130_17 {w1 : Value} {x : Nat} : WP V 130 17 [.ref x, w1] st t I L R Q = WP V 130 18 [.ref x, w1] (.ref x :: st) t I L R Q := wp_go rfl
theorem i130_18 {k : Nat} (h1 : k < t) (h2 : m_ob k 8 = true) : WP V 130 18 ls (.ref k :: st) t I L R Q = WP V 130 19 ls (m_rv (R k 0) :: st) t I L R Q := wp_getR rfl (by decide) h1 h2
theorem i130_19 {w0 : Value} {x : Int32} : WP V 130 19 [w0, .int x] st t I L R Q = WP V 130 20 [w0, .int x] (.int x :: st) t I L R Q := wp_go rfl
theorem i130_20 {x0 : Int32} {r0 : Nat} {r1 : Int32} {r2 : Nat} : WP V 130 20 ls [.int x0, .ref r0, .int r1, .ref r2] t I L R Q = WPC V 112 [.int x0] 130 21 ls [.ref r0, .int r1, .ref r2] t I L R Q := wp_cls (wp_ics rfl (by decide)) (by decide) (Nat.le_of_ble_eq_true rfl) rfl rfl (Nat.le_of_ble_eq_true rfl) (Nat.le_of_ble_eq_true rfl)
theorem i130_21  : WP V 130 21 ls st t I L R Q = WP V 130 22 ls (.int (nI 1) :: st) t I L R Q := wp_go rfl
theorem i130_22 {x y : Int32} : WP V 130 22 ls (.int y :: .int x :: st) t I L R Q = WP V 130 23 ls (.int (x + y) :: st) t I L R Q := wp_go rfl
theorem i130_23 {k j : Nat} (h2 : m_ar k 2 612 = true) (h1 : k < t) (h3 : j < 612) : WP V 130 23 ls (.int (nI j) :: .ref k :: st) t I L R Q = WP V 130 24 ls (.int (I k j) :: st) t I L R Q := wp_iaload rfl (by decide) h1 h2 h3
theorem i130_24 {k j : Nat} {x : Int32} (h2 : m_ar k 2 8 = true) (h1 : k < t) (h3 : j < 8) : WP V 130 24 ls (.int x :: .int (nI j) :: .ref k :: st) t I L R Q = WP V 130 25 ls st t (m_sc I k (m_sc (I k) j x)) L R Q := wp_iastore rfl (by decide) h1 h2 h3
theorem i130_25 {p : Nat} {x : Int32} : WP V 130 25 [.ref p, .int x] st t I L R Q = WP V 130 26 [.ref p, .int (x + (nI 1))] st t I L R Q := wp_go rfl
theorem i130_26  : WP V 130 26 ls st t I L R Q = WP V 130 2 ls st t I L R Q := wp_go rfl
theorem i130_27  : WP V 130 27 ls [] t I L R Q = Q none t I L R := wp_rtv rfl rfl
-- TransactionCellsModel.cell(III)I
theorem i131_0 {w0 w2 w3 w4 : Value} {x : Int32} : WP V 131 0 [w0, .int x, w2, w3, w4] st t I L R Q = WP V 131 1 [w0, .int x, w2, w3, w4] (.int x :: st) t I L R Q := wp_go rfl
theorem i131_1 {x0 : Int32}  : WP V 131 1 ls [.int x0] t I L R Q = WPC V 121 [.int x0] 131 2 ls [] t I L R Q := wp_cls (wp_ics rfl (by decide)) (by decide) (Nat.le_of_ble_eq_true rfl) rfl rfl (Nat.le_of_ble_eq_true rfl) (Nat.le_of_ble_eq_true rfl)
theorem i131_2 {x : Int32} : WP V 131 2 ls (.int x :: st) t I L R Q = if x = nI 0 then WP V 131 11 ls st t I L R Q else WP V 131 3 ls st t I L R Q := wp_br (c := m_cc .eq x 0) rfl rfl
theorem i131_3 {w0 w1 w3 w4 : Value} {x : Int32} : WP V 131 3 [w0, w1, .int x, w3, w4] st t I L R Q = WP V 131 4 [w0, w1, .int x, w3, w4] (.int x :: st) t I L R Q := wp_go rfl
theorem i131_4  : WP V 131 4 ls st t I L R Q = WP V 131 5 ls (.int (nI 2) :: st) t I L R Q := wp_go rfl
theorem i131_5 {x y : Int32} : WP V 131 5 ls (.int y :: .int x :: st) t I L R Q = if x = y then WP V 131 6 ls st t I L R Q else WP V 131 13 ls st t I L R Q := wp_brn (c := m_cc .ne x y) rfl rfl
theorem i131_6 {w0 w1 w2 w4 : Value} {x : Int32} : WP V 131 6 [w0, w1, w2, .int x, w4] st t I L R Q = WP V 131 7 [w0, w1, w2, .int x, w4] (.int x :: st) t I L R Q := wp_go rfl
theorem i131_7  : WP V 131 7 ls st t I L R Q = WP V 131 8 ls (.int (nI 0) :: st) t I L R Q := wp_go rfl
theorem i131_8  : WP V 131 8 ls st t I L R Q = WP V 131 9 ls (.int (nI 5) :: st) t I L R Q := wp_go rfl
theorem i131_9 {x0 : Int32} {x1 : Int32} {x2 : Int32}  : WP V 131 9 ls [.int x0, .int x1, .int x2] t I L R Q = WPC V 111 [.int x2, .int x1, .int x0] 131 10 ls [] t I L R Q := wp_cls (wp_ics rfl (by decide)) (by decide) (Nat.le_of_ble_eq_true rfl) rfl rfl (Nat.le_of_ble_eq_true rfl) (Nat.le_of_ble_eq_true rfl)
theorem i131_10 {x : Int32} : WP V 131 10 ls (.int x :: st) t I L R Q = if x = nI 0 then WP V 131 11 ls st t I L R Q else WP V 131 13 ls st t I L R Q := wp_brn (c := m_cc .ne x 0) rfl rfl
theorem i131_11  : WP V 131 11 ls st t I L R Q = WP V 131 12 ls (.int (-101) :: st) t I L R Q := wp_go rfl
theorem i131_12 {x : Int32} : WP V 131 12 ls [.int x] t I L R Q = Q (some (.int x)) t I L R := wp_rti rfl rfl
theorem i131_13 {w0 w1 w3 w4 : Value} {x : Int32} : WP V 131 13 [w0, w1, .int x, w3, w4] st t I L R Q = WP V 131 14 [w0, w1, .int x, w3, w4] (.int x :: st) t I L R Q := wp_go rfl
theorem i131_14  : WP V 131 14 ls st t I L R Q = WP V 131 15 ls (.int (nI 0) :: st) t I L R Q := wp_go rfl
theorem i131_15  : WP V 131 15 ls st t I L R Q = WP V 131 16 ls (.int (nI 2) :: st) t I L R Q := wp_go rfl
theorem i131_16 {x0 : Int32} {x1 : Int32} {x2 : Int32}  : WP V 131 16 ls [.int x0, .int x1, .int x2] t I L R Q = WPC V 111 [.int x2, .int x1, .int x0] 131 17 ls [] t I L R Q := wp_cls (wp_ics rfl (by decide)) (by decide) (Nat.le_of_ble_eq_true rfl) rfl rfl (Nat.le_of_ble_eq_true rfl) (Nat.le_of_ble_eq_true rfl)
theorem i131_17 {x : Int32} : WP V 131 17 ls (.int x :: st) t I L R Q = if x = nI 0 then WP V 131 18 ls st t I L R Q else WP V 131 20 ls st t I L R Q := wp_brn (c := m_cc .ne x 0) rfl rfl
theorem i131_18  : WP V 131 18 ls st t I L R Q = WP V 131 19 ls (.int (-102) :: st) t I L R Q := wp_go rfl
theorem i131_19 {x : Int32} : WP V 131 19 ls [.int x] t I L R Q = Q (some (.int x)) t I L R := wp_rti rfl rfl
theorem i131_20 {w1 w2 w3 w4 : Value} {x : Nat} : WP V 131 20 [.ref x, w1, w2, w3, w4] st t I L R Q = WP V 131 21 [.ref x, w1, w2, w3, w4] (.ref x :: st) t I L R Q := wp_go rfl
theorem i131_21 {x0 : Nat}  (h1 : x0 < t) (h2 : m_ob x0 8 = true) : WP V 131 21 ls [.ref x0] t I L R Q = WPC V 119 [.ref x0] 131 22 ls [] t I L R Q := wp_cls (wp_icv rfl rfl h1 h2) (by decide) (Nat.le_of_ble_eq_true rfl) rfl rfl (Nat.le_of_ble_eq_true rfl) (Nat.le_of_ble_eq_true rfl)
theorem i131_22 {x : Int32} : WP V 131 22 ls (.int x :: st) t I L R Q = if x = nI 0 then WP V 131 23 ls st t I L R Q else WP V 131 25 ls st t I L R Q := wp_brn (c := m_cc .ne x 0) rfl rfl
theorem i131_23  : WP V 131 23 ls st t I L R Q = WP V 131 24 ls (.int (-103) :: st) t I L R Q := wp_go rfl
theorem i131_24 {x : Int32} : WP V 131 24 ls [.int x] t I L R Q = Q (some (.int x)) t I L R := wp_rti rfl rfl
theorem i131_25 {w0 w2 w3 w4 : Value} {x : Int32} : WP V 131 25 [w0, .int x, w2, w3, w4] st t I L R Q = WP V 131 26 [w0, .int x, w2, w3, w4] (.int x :: st) t I L R Q := wp_go rfl
theorem i131_26 {x0 : Int32}  : WP V 131 26 ls [.int x0] t I L R Q = WPC V 112 [.int x0] 131 27 ls [] t I L R Q := wp_cls (wp_ics rfl (by decide)) (by decide) (Nat.le_of_ble_eq_true rfl) rfl rfl (Nat.le_of_ble_eq_true rfl) (Nat.le_of_ble_eq_true rfl)
theorem i131_27 {p : Int32} {w0 w1 w2 w4 : Value} {x : Int32} : WP V 131 27 [w0, w1, w2, .int p, w4] (.int x :: st) t I L R Q = WP V 131 28 [w0, w1, w2, .int p, .int x] st t I L R Q := wp_go rfl
theorem i131_28 {w1 w2 w3 w4 : Value} {x : Nat} : WP V 131 28 [.ref x, w1, w2, w3, w4] st t I L R Q = WP V 131 29 [.ref x, w1, w2, w3, w4] (.ref x :: st) t I L R Q := wp_go rfl
theorem i131_29 {k : Nat} (h1 : k < t) (h2 : m_ob k 8 = true) : WP V 131 29 ls (.ref k :: st) t I L R Q = WP V 131 30 ls (m_rv (R k 0) :: st) t I L R Q := wp_getR rfl (by decide) h1 h2
theorem i131_30 {w0 w1 w2 w3 : Value} {x : Int32} : WP V 131 30 [w0, w1, w2, w3, .int x] st t I L R Q = WP V 131 31 [w0, w1, w2, w3, .int x] (.int x :: st) t I L R Q := wp_go rfl
theorem i131_31 {w0 w1 w3 w4 : Value} {x : Int32} : WP V 131 31 [w0, w1, .int x, w3, w4] st t I L R Q = WP V 131 32 [w0, w1, .int x, w3, w4] (.int x :: st) t I L R Q := wp_go rfl
theorem i131_32 {k j : Nat} {x : Int32} (h2 : m_ar k 2 612 = true) (h1 : k < t) (h3 : j < 612) : WP V 131 32 ls (.int x :: .int (nI j) :: .ref k :: st) t I L R Q = WP V 131 33 ls st t (m_sc I k (m_sc (I k) j x)) L R Q := wp_iastore rfl (by decide) h1 h2 h3
theorem i131_33 {w1 w2 w3 w4 : Value} {x : Nat} : WP V 131 33 [.ref x, w1, w2, w3, w4] st t I L R Q = WP V 131 34 [.ref x, w1, w2, w3, w4] (.ref x :: st) t I L R Q := wp_go rfl
theorem i131_34 {k : Nat} (h1 : k < t) (h2 : m_ob k 8 = true) : WP V 131 34 ls (.ref k :: st) t I L R Q = WP V 131 35 ls (m_rv (R k 0) :: st) t I L R Q := wp_getR rfl (by decide) h1 h2
theorem i131_35 {w0 w1 w2 w3 : Value} {x : Int32} : WP V 131 35 [w0, w1, w2, w3, .int x] st t I L R Q = WP V 131 36 [w0, w1, w2, w3, .int x] (.int x :: st) t I L R Q := wp_go rfl
theorem i131_36  : WP V 131 36 ls st t I L R Q = WP V 131 37 ls (.int (nI 1) :: st) t I L R Q := wp_go rfl
theorem i131_37 {x y : Int32} : WP V 131 37 ls (.int y :: .int x :: st) t I L R Q = WP V 131 38 ls (.int (x + y) :: st) t I L R Q := wp_go rfl
theorem i131_38 {w0 w1 w3 w4 : Value} {x : Int32} : WP V 131 38 [w0, w1, .int x, w3, w4] st t I L R Q = WP V 131 39 [w0, w1, .int x, w3, w4] (.int x :: st) t I L R Q := wp_go rfl
theorem i131_39 {x : Int32} : WP V 131 39 ls (.int x :: st) t I L R Q = if x = nI 0 then WP V 131 40 ls st t I L R Q else WP V 131 42 ls st t I L R Q := wp_brn (c := m_cc .ne x 0) rfl rfl
theorem i131_40  : WP V 131 40 ls st t I L R Q = WP V 131 41 ls (.int (nI 0) :: st) t I L R Q := wp_go rfl
theorem i131_41  : WP V 131 41 ls st t I L R Q = WP V 131 43 ls st t I L R Q := wp_go rfl
theorem i131_42 {w0 w1 w2 w4 : Value} {x : Int32} : WP V 131 42 [w0, w1, w2, .int x, w4] st t I L R Q = WP V 131 43 [w0, w1, w2, .int x, w4] (.int x :: st) t I L R Q := wp_go rfl
theorem i131_43 {k j : Nat} {x : Int32} (h2 : m_ar k 2 612 = true) (h1 : k < t) (h3 : j < 612) : WP V 131 43 ls (.int x :: .int (nI j) :: .ref k :: st) t I L R Q = WP V 131 44 ls st t (m_sc I k (m_sc (I k) j x)) L R Q := wp_iastore rfl (by decide) h1 h2 h3
theorem i131_44 {w1 w2 w3 w4 : Value} {x : Nat} : WP V 131 44 [.ref x, w1, w2, w3, w4] st t I L R Q = WP V 131 45 [.ref x, w1, w2, w3, w4] (.ref x :: st) t I L R Q := wp_go rfl
theorem i131_45 {k : Nat} (h1 : k < t) (h2 : m_ob k 8 = true) : WP V 131 45 ls (.ref k :: st) t I L R Q = WP V 131 46 ls (m_rv (R k 0) :: st) t I L R Q := wp_getR rfl (by decide) h1 h2
theorem i131_46 {w0 w1 w2 w3 : Value} {x : Int32} : WP V 131 46 [w0, w1, w2, w3, .int x] st t I L R Q = WP V 131 47 [w0, w1, w2, w3, .int x] (.int x :: st) t I L R Q := wp_go rfl
theorem i131_47  : WP V 131 47 ls st t I L R Q = WP V 131 48 ls (.int (nI 3) :: st) t I L R Q := wp_go rfl
theorem i131_48 {x y : Int32} : WP V 131 48 ls (.int y :: .int x :: st) t I L R Q = WP V 131 49 ls (.int (x + y) :: st) t I L R Q := wp_go rfl
theorem i131_49 {w0 w1 w3 w4 : Value} {x : Int32} : WP V 131 49 [w0, w1, .int x, w3, w4] st t I L R Q = WP V 131 50 [w0, w1, .int x, w3, w4] (.int x :: st) t I L R Q := wp_go rfl
theorem i131_50 {k j : Nat} {x : Int32} (h2 : m_ar k 2 612 = true) (h1 : k < t) (h3 : j < 612) : WP V 131 50 ls (.int x :: .int (nI j) :: .ref k :: st) t I L R Q = WP V 131 51 ls st t (m_sc I k (m_sc (I k) j x)) L R Q := wp_iastore rfl (by decide) h1 h2 h3
theorem i131_51 {w1 w2 w3 w4 : Value} {x : Nat} : WP V 131 51 [.ref x, w1, w2, w3, w4] st t I L R Q = WP V 131 52 [.ref x, w1, w2, w3, w4] (.ref x :: st) t I L R Q := wp_go rfl
theorem i131_52 {k : Nat} (h1 : k < t) (h2 : m_ob k 8 = true) : WP V 131 52 ls (.ref k :: st) t I L R Q = WP V 131 53 ls (m_rv (R k 0) :: st) t I L R Q := wp_getR rfl (by decide) h1 h2
theorem i131_53 {w0 w1 w2 w3 : Value} {x : Int32} : WP V 131 53 [w0, w1, w2, w3, .int x] st t I L R Q = WP V 131 54 [w0, w1, w2, w3, .int x] (.int x :: st) t I L R Q := wp_go rfl
theorem i131_54  : WP V 131 54 ls st t I L R Q = WP V 131 55 ls (.int (nI 3) :: st) t I L R Q := wp_go rfl
theorem i131_55 {x y : Int32} : WP V 131 55 ls (.int y :: .int x :: st) t I L R Q = WP V 131 56 ls (.int (x + y) :: st) t I L R Q := wp_go rfl
theorem i131_56  : WP V 131 56 ls st t I L R Q = WP V 131 57 ls (.int (nI 1) :: st) t I L R Q := wp_go rfl
theorem i131_57 {x y : Int32} : WP V 131 57 ls (.int y :: .int x :: st) t I L R Q = WP V 131 58 ls (.int (x + y) :: st) t I L R Q := wp_go rfl
theorem i131_58 {w1 w2 w3 w4 : Value} {x : Nat} : WP V 131 58 [.ref x, w1, w2, w3, w4] st t I L R Q = WP V 131 59 [.ref x, w1, w2, w3, w4] (.ref x :: st) t I L R Q := wp_go rfl
theorem i131_59 {k : Nat} (h1 : k < t) (h2 : m_ob k 8 = true) : WP V 131 59 ls (.ref k :: st) t I L R Q = WP V 131 60 ls (m_rv (R k 0) :: st) t I L R Q := wp_getR rfl (by decide) h1 h2
theorem i131_60 {w0 w1 w2 w3 : Value} {x : Int32} : WP V 131 60 [w0, w1, w2, w3, .int x] st t I L R Q = WP V 131 61 [w0, w1, w2, w3, .int x] (.int x :: st) t I L R Q := wp_go rfl
theorem i131_61  : WP V 131 61 ls st t I L R Q = WP V 131 62 ls (.int (nI 1) :: st) t I L R Q := wp_go rfl
theorem i131_62 {x y : Int32} : WP V 131 62 ls (.int y :: .int x :: st) t I L R Q = WP V 131 63 ls (.int (x + y) :: st) t I L R Q := wp_go rfl
theorem i131_63 {k j : Nat} (h2 : m_ar k 2 612 = true) (h1 : k < t) (h3 : j < 612) : WP V 131 63 ls (.int (nI j) :: .ref k :: st) t I L R Q = WP V 131 64 ls (.int (I k j) :: st) t I L R Q := wp_iaload rfl (by decide) h1 h2 h3
theorem i131_64 {k j : Nat} {x : Int32} (h2 : m_ar k 2 612 = true) (h1 : k < t) (h3 : j < 612) : WP V 131 64 ls (.int x :: .int (nI j) :: .ref k :: st) t I L R Q = WP V 131 65 ls st t (m_sc I k (m_sc (I k) j x)) L R Q := wp_iastore rfl (by decide) h1 h2 h3
theorem i131_65 {w1 w2 w3 w4 : Value} {x : Nat} : WP V 131 65 [.ref x, w1, w2, w3, w4] st t I L R Q = WP V 131 66 [.ref x, w1, w2, w3, w4] (.ref x :: st) t I L R Q := wp_go rfl
theorem i131_66 {x0 : Nat}  (h1 : x0 < t) (h2 : m_ob x0 8 = true) : WP V 131 66 ls [.ref x0] t I L R Q = WPC V 130 [.ref x0] 131 67 ls [] t I L R Q := wp_cls (wp_icv rfl rfl h1 h2) (by decide) (Nat.le_of_ble_eq_true rfl) rfl rfl (Nat.le_of_ble_eq_true rfl) (Nat.le_of_ble_eq_true rfl)
theorem i131_67  : WP V 131 67 ls st t I L R Q = WP V 131 68 ls (.int (nI 0) :: st) t I L R Q := wp_go rfl
theorem i131_68 {x : Int32} : WP V 131 68 ls [.int x] t I L R Q = Q (some (.int x)) t I L R := wp_rti rfl rfl
-- TransactionCellsModel.way(I)I
theorem i132_0 {w0 w2 : Value} {x : Int32} : WP V 132 0 [w0, .int x, w2] st t I L R Q = WP V 132 1 [w0, .int x, w2] (.int x :: st) t I L R Q := wp_go rfl
theorem i132_1  : WP V 132 1 ls st t I L R Q = WP V 132 2 ls (.int (nI 0) :: st) t I L R Q := wp_go rfl
theorem i132_2  : WP V 132 2 ls st t I L R Q = WP V 132 3 ls (.int (nI 3) :: st) t I L R Q := wp_go rfl
theorem i132_3 {x0 : Int32} {x1 : Int32} {x2 : Int32}  : WP V 132 3 ls [.int x0, .int x1, .int x2] t I L R Q = WPC V 111 [.int x2, .int x1, .int x0] 132 4 ls [] t I L R Q := wp_cls (wp_ics rfl (by decide)) (by decide) (Nat.le_of_ble_eq_true rfl) rfl rfl (Nat.le_of_ble_eq_true rfl) (Nat.le_of_ble_eq_true rfl)
theorem i132_4 {x : Int32} : WP V 132 4 ls (.int x :: st) t I L R Q = if x = nI 0 then WP V 132 5 ls st t I L R Q else WP V 132 7 ls st t I L R Q := wp_brn (c := m_cc .ne x 0) rfl rfl
theorem i132_5  : WP V 132 5 ls st t I L R Q = WP V 132 6 ls (.int (-102) :: st) t I L R Q := wp_go rfl
theorem i132_6 {x : Int32} : WP V 132 6 ls [.int x] t I L R Q = Q (some (.int x)) t I L R := wp_rti rfl rfl
theorem i132_7 {w1 w2 : Value} {x : Nat} : WP V 132 7 [.ref x, w1, w2] st t I L R Q = WP V 132 8 [.ref x, w1, w2] (.ref x :: st) t I L R Q := wp_go rfl
theorem i132_8 {x0 : Nat}  (h1 : x0 < t) (h2 : m_ob x0 8 = true) : WP V 132 8 ls [.ref x0] t I L R Q = WPC V 119 [.ref x0] 132 9 ls [] t I L R Q := wp_cls (wp_icv rfl rfl h1 h2) (by decide) (Nat.le_of_ble_eq_true rfl) rfl rfl (Nat.le_of_ble_eq_true rfl) (Nat.le_of_ble_eq_true rfl)
theorem i132_9 {x : Int32} : WP V 132 9 ls (.int x :: st) t I L R Q = if x = nI 0 then WP V 132 10 ls st t I L R Q else WP V 132 12 ls st t I L R Q := wp_brn (c := m_cc .ne x 0) rfl rfl
theorem i132_10  : WP V 132 10 ls st t I L R Q = WP V 132 11 ls (.int (-103) :: st) t I L R Q := wp_go rfl
theorem i132_11 {x : Int32} : WP V 132 11 ls [.int x] t I L R Q = Q (some (.int x)) t I L R := wp_rti rfl rfl
theorem i132_12 {w1 w2 : Value} {x : Nat} : WP V 132 12 [.ref x, w1, w2] st t I L R Q = WP V 132 13 [.ref x, w1, w2] (.ref x :: st) t I L R Q := wp_go rfl
theorem i132_13 {k : Nat} (h1 : k < t) (h2 : m_ob k 8 = true) : WP V 132 13 ls (.ref k :: st) t I L R Q = WP V 132 14 ls (.int (I k 1) :: st) t I L R Q := wp_getI rfl (by decide) h1 h2
theorem i132_14 {p : Int32} {w0 w2 : Value} {x : Int32} : WP V 132 14 [w0, .int p, w2] (.int x :: st) t I L R Q = WP V 132 15 [w0, .int p, .int x] st t I L R Q := wp_go rfl
theorem i132_15 {w1 w2 : Value} {x : Nat} : WP V 132 15 [.ref x, w1, w2] st t I L R Q = WP V 132 16 [.ref x, w1, w2] (.ref x :: st) t I L R Q := wp_go rfl
theorem i132_16 {w0 w2 : Value} {x : Int32} : WP V 132 16 [w0, .int x, w2] st t I L R Q = WP V 132 17 [w0, .int x, w2] (.int x :: st) t I L R Q := wp_go rfl
theorem i132_17 {k : Nat} {x : Int32} (h1 : k < t) (h2 : m_ob k 8 = true) : WP V 132 17 ls (.int x :: .ref k :: st) t I L R Q = WP V 132 18 ls st t (m_sc I k (m_sc (I k) 1 x)) L R Q := wp_putI rfl (by decide) h1 h2
theorem i132_18 {w0 w1 : Value} {x : Int32} : WP V 132 18 [w0, w1, .int x] st t I L R Q = WP V 132 19 [w0, w1, .int x] (.int x :: st) t I L R Q := wp_go rfl
theorem i132_19 {x : Int32} : WP V 132 19 ls [.int x] t I L R Q = Q (some (.int x)) t I L R := wp_rti rfl rfl
-- TransactionCellsModel.code(II)I
theorem i133_0 {w0 w2 : Value} {x : Int32} : WP V 133 0 [w0, .int x, w2] st t I L R Q = WP V 133 1 [w0, .int x, w2] (.int x :: st) t I L R Q := wp_go rfl
theorem i133_1 {x0 : Int32}  : WP V 133 1 ls [.int x0] t I L R Q = WPC V 122 [.int x0] 133 2 ls [] t I L R Q := wp_cls (wp_ics rfl (by decide)) (by decide) (Nat.le_of_ble_eq_true rfl) rfl rfl (Nat.le_of_ble_eq_true rfl) (Nat.le_of_ble_eq_true rfl)
theorem i133_2 {x : Int32} : WP V 133 2 ls (.int x :: st) t I L R Q = if x = nI 0 then WP V 133 8 ls st t I L R Q else WP V 133 3 ls st t I L R Q := wp_br (c := m_cc .eq x 0) rfl rfl
theorem i133_3 {w0 w1 : Value} {x : Int32} : WP V 133 3 [w0, w1, .int x] st t I L R Q = WP V 133 4 [w0, w1, .int x] (.int x :: st) t I L R Q := wp_go rfl
theorem i133_4  : WP V 133 4 ls st t I L R Q = WP V 133 5 ls (.int (nI 0) :: st) t I L R Q := wp_go rfl
theorem i133_5  : WP V 133 5 ls st t I L R Q = WP V 133 6 ls (.int (nI 5) :: st) t I L R Q := wp_go rfl
theorem i133_6 {x0 : Int32} {x1 : Int32} {x2 : Int32}  : WP V 133 6 ls [.int x0, .int x1, .int x2] t I L R Q = WPC V 111 [.int x2, .int x1, .int x0] 133 7 ls [] t I L R Q := wp_cls (wp_ics rfl (by decide)) (by decide) (Nat.le_of_ble_eq_true rfl) rfl rfl (Nat.le_of_ble_eq_true rfl) (Nat.le_of_ble_eq_true rfl)
theorem i133_7 {x : Int32} : WP V 133 7 ls (.int x :: st) t I L R Q = if x = nI 0 then WP V 133 8 ls st t I L R Q else WP V 133 10 ls st t I L R Q := wp_brn (c := m_cc .ne x 0) rfl rfl
theorem i133_8  : WP V 133 8 ls st t I L R Q = WP V 133 9 ls (.int (-101) :: st) t I L R Q := wp_go rfl
theorem i133_9 {x : Int32} : WP V 133 9 ls [.int x] t I L R Q = Q (some (.int x)) t I L R := wp_rti rfl rfl
theorem i133_10 {w1 w2 : Value} {x : Nat} : WP V 133 10 [.ref x, w1, w2] st t I L R Q = WP V 133 11 [.ref x, w1, w2] (.ref x :: st) t I L R Q := wp_go rfl
theorem i133_11 {k : Nat} (h1 : k < t) (h2 : m_ob k 8 = true) : WP V 133 11 ls (.ref k :: st) t I L R Q = WP V 133 12 ls (m_rv (R k 0) :: st) t I L R Q := wp_getR rfl (by decide) h1 h2
theorem i133_12 {w0 w2 : Value} {x : Int32} : WP V 133 12 [w0, .int x, w2] st t I L R Q = WP V 133 13 [w0, .int x, w2] (.int x :: st) t I L R Q := wp_go rfl
theorem i133_13 {x0 : Int32} {r0 : Nat} : WP V 133 13 ls [.int x0, .ref r0] t I L R Q = WPC V 113 [.int x0] 133 14 ls [.ref r0] t I L R Q := wp_cls (wp_ics rfl (by decide)) (by decide) (Nat.le_of_ble_eq_true rfl) rfl rfl (Nat.le_of_ble_eq_true rfl) (Nat.le_of_ble_eq_true rfl)
theorem i133_14  : WP V 133 14 ls st t I L R Q = WP V 133 15 ls (.int (nI 0) :: st) t I L R Q := wp_go rfl
theorem i133_15 {x y : Int32} : WP V 133 15 ls (.int y :: .int x :: st) t I L R Q = WP V 133 16 ls (.int (x + y) :: st) t I L R Q := wp_go rfl
theorem i133_16 {k j : Nat} (h2 : m_ar k 2 612 = true) (h1 : k < t) (h3 : j < 612) : WP V 133 16 ls (.int (nI j) :: .ref k :: st) t I L R Q = WP V 133 17 ls (.int (I k j) :: st) t I L R Q := wp_iaload rfl (by decide) h1 h2 h3
theorem i133_17 {x : Int32} : WP V 133 17 ls (.int x :: st) t I L R Q = if x = nI 0 then WP V 133 20 ls st t I L R Q else WP V 133 18 ls st t I L R Q := wp_br (c := m_cc .eq x 0) rfl rfl
theorem i133_18  : WP V 133 18 ls st t I L R Q = WP V 133 19 ls (.int (-103) :: st) t I L R Q := wp_go rfl
theorem i133_19 {x : Int32} : WP V 133 19 ls [.int x] t I L R Q = Q (some (.int x)) t I L R := wp_rti rfl rfl
theorem i133_20 {w1 w2 : Value} {x : Nat} : WP V 133 20 [.ref x, w1, w2] st t I L R Q = WP V 133 21 [.ref x, w1, w2] (.ref x :: st) t I L R Q := wp_go rfl
theorem i133_21 {k : Nat} (h1 : k < t) (h2 : m_ob k 8 = true) : WP V 133 21 ls (.ref k :: st) t I L R Q = WP V 133 22 ls (m_rv (R k 0) :: st) t I L R Q := wp_getR rfl (by decide) h1 h2
theorem i133_22 {w0 w2 : Value} {x : Int32} : WP V 133 22 [w0, .int x, w2] st t I L R Q = WP V 133 23 [w0, .int x, w2] (.int x :: st) t I L R Q := wp_go rfl
theorem i133_23 {x0 : Int32} {r0 : Nat} : WP V 133 23 ls [.int x0, .ref r0] t I L R Q = WPC V 113 [.int x0] 133 24 ls [.ref r0] t I L R Q := wp_cls (wp_ics rfl (by decide)) (by decide) (Nat.le_of_ble_eq_true rfl) rfl rfl (Nat.le_of_ble_eq_true rfl) (Nat.le_of_ble_eq_true rfl)
theorem i133_24  : WP V 133 24 ls st t I L R Q = WP V 133 25 ls (.int (nI 7) :: st) t I L R Q := wp_go rfl
theorem i133_25 {x y : Int32} : WP V 133 25 ls (.int y :: .int x :: st) t I L R Q = WP V 133 26 ls (.int (x + y) :: st) t I L R Q := wp_go rfl
theorem i133_26 {w0 w1 : Value} {x : Int32} : WP V 133 26 [w0, w1, .int x] st t I L R Q = WP V 133 27 [w0, w1, .int x] (.int x :: st) t I L R Q := wp_go rfl
theorem i133_27 {k j : Nat} {x : Int32} (h2 : m_ar k 2 612 = true) (h1 : k < t) (h3 : j < 612) : WP V 133 27 ls (.int x :: .int (nI j) :: .ref k :: st) t I L R Q = WP V 133 28 ls st t (m_sc I k (m_sc (I k) j x)) L R Q := wp_iastore rfl (by decide) h1 h2 h3
theorem i133_28  : WP V 133 28 ls st t I L R Q = WP V 133 29 ls (.int (nI 0) :: st) t I L R Q := wp_go rfl
theorem i133_29 {x : Int32} : WP V 133 29 ls [.int x] t I L R Q = Q (some (.int x)) t I L R := wp_rti rfl rfl
-- TransactionCellsModel.start(I)I
theorem i134_0 {w0 : Value} {x : Int32} : WP V 134 0 [w0, .int x] st t I L R Q = WP V 134 1 [w0, .int x] (.int x :: st) t I L R Q := wp_go rfl
theorem i134_1 {x0 : Int32}  : WP V 134 1 ls [.int x0] t I L R Q = WPC V 122 [.int x0] 134 2 ls [] t I L R Q := wp_cls (wp_ics rfl (by decide)) (by decide) (Nat.le_of_ble_eq_true rfl) rfl rfl (Nat.le_of_ble_eq_true rfl) (Nat.le_of_ble_eq_true rfl)
theorem i134_2 {x : Int32} : WP V 134 2 ls (.int x :: st) t I L R Q = if x = nI 0 then WP V 134 3 ls st t I L R Q else WP V 134 5 ls st t I L R Q := wp_brn (c := m_cc .ne x 0) rfl rfl
theorem i134_3  : WP V 134 3 ls st t I L R Q = WP V 134 4 ls (.int (-101) :: st) t I L R Q := wp_go rfl
theorem i134_4 {x : Int32} : WP V 134 4 ls [.int x] t I L R Q = Q (some (.int x)) t I L R := wp_rti rfl rfl
theorem i134_5 {w1 : Value} {x : Nat} : WP V 134 5 [.ref x, w1] st t I L R Q = WP V 134 6 [.ref x, w1] (.ref x :: st) t I L R Q := wp_go rfl
theorem i134_6 {k : Nat} (h1 : k < t) (h2 : m_ob k 8 = true) : WP V 134 6 ls (.ref k :: st) t I L R Q = WP V 134 7 ls (m_rv (R k 0) :: st) t I L R Q := wp_getR rfl (by decide) h1 h2
theorem i134_7 {w0 : Value} {x : Int32} : WP V 134 7 [w0, .int x] st t I L R Q = WP V 134 8 [w0, .int x] (.int x :: st) t I L R Q := wp_go rfl
theorem i134_8 {x0 : Int32} {r0 : Nat} : WP V 134 8 ls [.int x0, .ref r0] t I L R Q = WPC V 113 [.int x0] 134 9 ls [.ref r0] t I L R Q := wp_cls (wp_ics rfl (by decide)) (by decide) (Nat.le_of_ble_eq_true rfl) rfl rfl (Nat.le_of_ble_eq_true rfl) (Nat.le_of_ble_eq_true rfl)
theorem i134_9  : WP V 134 9 ls st t I L R Q = WP V 134 10 ls (.int (nI 0) :: st) t I L R Q := wp_go rfl
theorem i134_10 {x y : Int32} : WP V 134 10 ls (.int y :: .int x :: st) t I L R Q = WP V 134 11 ls (.int (x + y) :: st) t I L R Q := wp_go rfl
theorem i134_11 {k j : Nat} (h2 : m_ar k 2 612 = true) (h1 : k < t) (h3 : j < 612) : WP V 134 11 ls (.int (nI j) :: .ref k :: st) t I L R Q = WP V 134 12 ls (.int (I k j) :: st) t I L R Q := wp_iaload rfl (by decide) h1 h2 h3
theorem i134_12 {x : Int32} : WP V 134 12 ls (.int x :: st) t I L R Q = if x = nI 0 then WP V 134 15 ls st t I L R Q else WP V 134 13 ls st t I L R Q := wp_br (c := m_cc .eq x 0) rfl rfl
theorem i134_13  : WP V 134 13 ls st t I L R Q = WP V 134 14 ls (.int (-103) :: st) t I L R Q := wp_go rfl
theorem i134_14 {x : Int32} : WP V 134 14 ls [.int x] t I L R Q = Q (some (.int x)) t I L R := wp_rti rfl rfl
theorem i134_15 {w1 : Value} {x : Nat} : WP V 134 15 [.ref x, w1] st t I L R Q = WP V 134 16 [.ref x, w1] (.ref x :: st) t I L R Q := wp_go rfl
theorem i134_16 {w0 : Value} {x : Int32} : WP V 134 16 [w0, .int x] st t I L R Q = WP V 134 17 [w0, .int x] (.int x :: st) t I L R Q := wp_go rfl
theorem i134_17 {x0 : Int32} {x1 : Nat}  (h1 : x1 < t) (h2 : m_ob x1 8 = true) : WP V 134 17 ls [.int x0, .ref x1] t I L R Q = WPC V 115 [.ref x1, .int x0] 134 18 ls [] t I L R Q := wp_cls (wp_icv rfl rfl h1 h2) (by decide) (Nat.le_of_ble_eq_true rfl) rfl rfl (Nat.le_of_ble_eq_true rfl) (Nat.le_of_ble_eq_true rfl)
theorem i134_18 {w1 : Value} {x : Nat} : WP V 134 18 [.ref x, w1] st t I L R Q = WP V 134 19 [.ref x, w1] (.ref x :: st) t I L R Q := wp_go rfl
theorem i134_19 {k : Nat} (h1 : k < t) (h2 : m_ob k 8 = true) : WP V 134 19 ls (.ref k :: st) t I L R Q = WP V 134 20 ls (m_rv (R k 0) :: st) t I L R Q := wp_getR rfl (by decide) h1 h2
theorem i134_20 {w0 : Value} {x : Int32} : WP V 134 20 [w0, .int x] st t I L R Q = WP V 134 21 [w0, .int x] (.int x :: st) t I L R Q := wp_go rfl
theorem i134_21 {x0 : Int32} {r0 : Nat} : WP V 134 21 ls [.int x0, .ref r0] t I L R Q = WPC V 113 [.int x0] 134 22 ls [.ref r0] t I L R Q := wp_cls (wp_ics rfl (by decide)) (by decide) (Nat.le_of_ble_eq_true rfl) rfl rfl (Nat.le_of_ble_eq_true rfl) (Nat.le_of_ble_eq_true rfl)
theorem i134_22  : WP V 134 22 ls st t I L R Q = WP V 134 23 ls (.int (nI 0) :: st) t I L R Q := wp_go rfl
theorem i134_23 {x y : Int32} : WP V 134 23 ls (.int y :: .int x :: st) t I L R Q = WP V 134 24 ls (.int (x + y) :: st) t I L R Q := wp_go rfl
theorem i134_24  : WP V 134 24 ls st t I L R Q = WP V 134 25 ls (.int (nI 1) :: st) t I L R Q := wp_go rfl
theorem i134_25 {k j : Nat} {x : Int32} (h2 : m_ar k 2 612 = true) (h1 : k < t) (h3 : j < 612) : WP V 134 25 ls (.int x :: .int (nI j) :: .ref k :: st) t I L R Q = WP V 134 26 ls st t (m_sc I k (m_sc (I k) j x)) L R Q := wp_iastore rfl (by decide) h1 h2 h3
theorem i134_26  : WP V 134 26 ls st t I L R Q = WP V 134 27 ls (.int (nI 0) :: st) t I L R Q := wp_go rfl
theorem i134_27 {x : Int32} : WP V 134 27 ls [.int x] t I L R Q = Q (some (.int x)) t I L R := wp_rti rfl rfl
-- TransactionCellsModel.reset()I
theorem i135_0  : WP V 135 0 ls st t I L R Q = WP V 135 1 ls (.int (nI 0) :: st) t I L R Q := wp_go rfl
theorem i135_1 {p : Nat} {w1 w2 : Value} {x : Int32} : WP V 135 1 [.ref p, w1, w2] (.int x :: st) t I L R Q = WP V 135 2 [.ref p, .int x, w2] st t I L R Q := wp_go rfl
theorem i135_2  : WP V 135 2 ls st t I L R Q = WP V 135 3 ls (.int (nI 0) :: st) t I L R Q := wp_go rfl
theorem i135_3 {p : Int32} {w0 w2 : Value} {x : Int32} : WP V 135 3 [w0, .int p, w2] (.int x :: st) t I L R Q = WP V 135 4 [w0, .int p, .int x] st t I L R Q := wp_go rfl
theorem i135_4 {w0 w1 : Value} {x : Int32} : WP V 135 4 [w0, w1, .int x] st t I L R Q = WP V 135 5 [w0, w1, .int x] (.int x :: st) t I L R Q := wp_go rfl
theorem i135_5  : WP V 135 5 ls st t I L R Q = WP V 135 6 ls (.int (nI 3) :: st) t I L R Q := wp_go rfl
theorem i135_6 {x y : Int32} : WP V 135 6 ls (.int y :: .int x :: st) t I L R Q = if y ≤ x then WP V 135 26 ls st t I L R Q else WP V 135 7 ls st t I L R Q := wp_br (c := m_cc .ge x y) rfl rfl
theorem i135_7 {w0 w2 : Value} {x : Int32} : WP V 135 7 [w0, .int x, w2] st t I L R Q = WP V 135 8 [w0, .int x, w2] (.int x :: st) t I L R Q := wp_go rfl
theorem i135_8 {w1 w2 : Value} {x : Nat} : WP V 135 8 [.ref x, w1, w2] st t I L R Q = WP V 135 9 [.ref x, w1, w2] (.ref x :: st) t I L R Q := wp_go rfl
theorem i135_9 {k : Nat} (h1 : k < t) (h2 : m_ob k 8 = true) : WP V 135 9 ls (.ref k :: st) t I L R Q = WP V 135 10 ls (m_rv (R k 0) :: st) t I L R Q := wp_getR rfl (by decide) h1 h2
theorem i135_10 {w0 w1 : Value} {x : Int32} : WP V 135 10 [w0, w1, .int x] st t I L R Q = WP V 135 11 [w0, w1, .int x] (.int x :: st) t I L R Q := wp_go rfl
theorem i135_11 {x0 : Int32} {r0 : Nat} {r1 : Int32} : WP V 135 11 ls [.int x0, .ref r0, .int r1] t I L R Q = WPC V 113 [.int x0] 135 12 ls [.ref r0, .int r1] t I L R Q := wp_cls (wp_ics rfl (by decide)) (by decide) (Nat.le_of_ble_eq_true rfl) rfl rfl (Nat.le_of_ble_eq_true rfl) (Nat.le_of_ble_eq_true rfl)
theorem i135_12  : WP V 135 12 ls st t I L R Q = WP V 135 13 ls (.int (nI 0) :: st) t I L R Q := wp_go rfl
theorem i135_13 {x y : Int32} : WP V 135 13 ls (.int y :: .int x :: st) t I L R Q = WP V 135 14 ls (.int (x + y) :: st) t I L R Q := wp_go rfl
theorem i135_14 {k j : Nat} (h2 : m_ar k 2 612 = true) (h1 : k < t) (h3 : j < 612) : WP V 135 14 ls (.int (nI j) :: .ref k :: st) t I L R Q = WP V 135 15 ls (.int (I k j) :: st) t I L R Q := wp_iaload rfl (by decide) h1 h2 h3
theorem i135_15 {x : Int32} : WP V 135 15 ls (.int x :: st) t I L R Q = if x = nI 0 then WP V 135 18 ls st t I L R Q else WP V 135 16 ls st t I L R Q := wp_br (c := m_cc .eq x 0) rfl rfl
theorem i135_16  : WP V 135 16 ls st t I L R Q = WP V 135 17 ls (.int (nI 1) :: st) t I L R Q := wp_go rfl
theorem i135_17  : WP V 135 17 ls st t I L R Q = WP V 135 19 ls st t I L R Q := wp_go rfl
theorem i135_18  : WP V 135 18 ls st t I L R Q = WP V 135 19 ls (.int (nI 0) :: st) t I L R Q := wp_go rfl
theorem i135_19 {x y : Int32} : WP V 135 19 ls (.int y :: .int x :: st) t I L R Q = WP V 135 20 ls (.int (x + y) :: st) t I L R Q := wp_go rfl
theorem i135_20 {p : Nat} {w1 w2 : Value} {x : Int32} : WP V 135 20 [.ref p, w1, w2] (.int x :: st) t I L R Q = WP V 135 21 [.ref p, .int x, w2] st t I L R Q := wp_go rfl
theorem i135_21 {w1 w2 : Value} {x : Nat} : WP V 135 21 [.ref x, w1, w2] st t I L R Q = WP V 135 22 [.ref x, w1, w2] (.ref x :: st) t I L R Q := wp_go rfl
theorem i135_22 {w0 w1 : Value} {x : Int32} : WP V 135 22 [w0, w1, .int x] st t I L R Q = WP V 135 23 [w0, w1, .int x] (.int x :: st) t I L R Q := wp_go rfl
theorem i135_23 {x0 : Int32} {x1 : Nat}  (h1 : x1 < t) (h2 : m_ob x1 8 = true) : WP V 135 23 ls [.int x0, .ref x1] t I L R Q = WPC V 115 [.ref x1, .int x0] 135 24 ls [] t I L R Q := wp_cls (wp_icv rfl rfl h1 h2) (by decide) (Nat.le_of_ble_eq_true rfl) rfl rfl (Nat.le_of_ble_eq_true rfl) (Nat.le_of_ble_eq_true rfl)
theorem i135_24 {p : Int32} {w0 : Value} {x : Int32} : WP V 135 24 [w0, .int p, .int x] st t I L R Q = WP V 135 25 [w0, .int p, .int (x + (nI 1))] st t I L R Q := wp_go rfl
theorem i135_25  : WP V 135 25 ls st t I L R Q = WP V 135 4 ls st t I L R Q := wp_go rfl
theorem i135_26  : WP V 135 26 ls st t I L R Q = WP V 135 27 ls (.int (nI 0) :: st) t I L R Q := wp_go rfl
theorem i135_27 {p : Int32} {w0 w2 : Value} {x : Int32} : WP V 135 27 [w0, .int p, w2] (.int x :: st) t I L R Q = WP V 135 28 [w0, .int p, .int x] st t I L R Q := wp_go rfl
theorem i135_28 {w0 w1 : Value} {x : Int32} : WP V 135 28 [w0, w1, .int x] st t I L R Q = WP V 135 29 [w0, w1, .int x] (.int x :: st) t I L R Q := wp_go rfl
theorem i135_29  : WP V 135 29 ls st t I L R Q = WP V 135 30 ls (.int (nI 8) :: st) t I L R Q := wp_go rfl
theorem i135_30 {x y : Int32} : WP V 135 30 ls (.int y :: .int x :: st) t I L R Q = if y ≤ x then WP V 135 36 ls st t I L R Q else WP V 135 31 ls st t I L R Q := wp_br (c := m_cc .ge x y) rfl rfl
theorem i135_31 {w1 w2 : Value} {x : Nat} : WP V 135 31 [.ref x, w1, w2] st t I L R Q = WP V 135 32 [.ref x, w1, w2] (.ref x :: st) t I L R Q := wp_go rfl
theorem i135_32 {w0 w1 : Value} {x : Int32} : WP V 135 32 [w0, w1, .int x] st t I L R Q = WP V 135 33 [w0, w1, .int x] (.int x :: st) t I L R Q := wp_go rfl
theorem i135_33 {x0 : Int32} {x1 : Nat}  (h1 : x1 < t) (h2 : m_ob x1 8 = true) : WP V 135 33 ls [.int x0, .ref x1] t I L R Q = WPC V 114 [.ref x1, .int x0] 135 34 ls [] t I L R Q := wp_cls (wp_icv rfl rfl h1 h2) (by decide) (Nat.le_of_ble_eq_true rfl) rfl rfl (Nat.le_of_ble_eq_true rfl) (Nat.le_of_ble_eq_true rfl)
theorem i135_34 {p : Int32} {w0 : Value} {x : Int32} : WP V 135 34 [w0, .int p, .int x] st t I L R Q = WP V 135 35 [w0, .int p, .int (x + (nI 1))] st t I L R Q := wp_go rfl
theorem i135_35  : WP V 135 35 ls st t I L R Q = WP V 135 28 ls st t I L R Q := wp_go rfl
theorem i135_36 {w1 w2 : Value} {x : Nat} : WP V 135 36 [.ref x, w1, w2] st t I L R Q = WP V 135 37 [.ref x, w1, w2] (.ref x :: st) t I L R Q := wp_go rfl
theorem i135_37 {k : Nat} (h1 : k < t) (h2 : m_ob k 8 = true) : WP V 135 37 ls (.ref k :: st) t I L R Q = WP V 135 38 ls (m_rv (R k 0) :: st) t I L R Q := wp_getR rfl (by decide) h1 h2
theorem i135_38  : WP V 135 38 ls st t I L R Q = WP V 135 39 ls (.int (nI 144) :: st) t I L R Q := wp_go rfl
theorem i135_39  : WP V 135 39 ls st t I L R Q = WP V 135 40 ls (.int (nI 0) :: st) t I L R Q := wp_go rfl
theorem i135_40 {k j : Nat} {x : Int32} (h2 : m_ar k 2 612 = true) (h1 : k < t) (h3 : j < 612) : WP V 135 40 ls (.int x :: .int (nI j) :: .ref k :: st) t I L R Q = WP V 135 41 ls st t (m_sc I k (m_sc (I k) j x)) L R Q := wp_iastore rfl (by decide) h1 h2 h3
theorem i135_41 {w1 w2 : Value} {x : Nat} : WP V 135 41 [.ref x, w1, w2] st t I L R Q = WP V 135 42 [.ref x, w1, w2] (.ref x :: st) t I L R Q := wp_go rfl
theorem i135_42 {k : Nat} (h1 : k < t) (h2 : m_ob k 8 = true) : WP V 135 42 ls (.ref k :: st) t I L R Q = WP V 135 43 ls (m_rv (R k 0) :: st) t I L R Q := wp_getR rfl (by decide) h1 h2
theorem i135_43  : WP V 135 43 ls st t I L R Q = WP V 135 44 ls (.int (nI 145) :: st) t I L R Q := wp_go rfl
theorem i135_44  : WP V 135 44 ls st t I L R Q = WP V 135 45 ls (.int (-1) :: st) t I L R Q := wp_go rfl
theorem i135_45 {k j : Nat} {x : Int32} (h2 : m_ar k 2 612 = true) (h1 : k < t) (h3 : j < 612) : WP V 135 45 ls (.int x :: .int (nI j) :: .ref k :: st) t I L R Q = WP V 135 46 ls st t (m_sc I k (m_sc (I k) j x)) L R Q := wp_iastore rfl (by decide) h1 h2 h3
theorem i135_46 {w1 w2 : Value} {x : Nat} : WP V 135 46 [.ref x, w1, w2] st t I L R Q = WP V 135 47 [.ref x, w1, w2] (.ref x :: st) t I L R Q := wp_go rfl
theorem i135_47 {k : Nat} (h1 : k < t) (h2 : m_ob k 8 = true) : WP V 135 47 ls (.ref k :: st) t I L R Q = WP V 135 48 ls (m_rv (R k 0) :: st) t I L R Q := wp_getR rfl (by decide) h1 h2
theorem i135_48  : WP V 135 48 ls st t I L R Q = WP V 135 49 ls (.int (nI 146) :: st) t I L R Q := wp_go rfl
theorem i135_49  : WP V 135 49 ls st t I L R Q = WP V 135 50 ls (.int (-1) :: st) t I L R Q := wp_go rfl
theorem i135_50 {k j : Nat} {x : Int32} (h2 : m_ar k 2 612 = true) (h1 : k < t) (h3 : j < 612) : WP V 135 50 ls (.int x :: .int (nI j) :: .ref k :: st) t I L R Q = WP V 135 51 ls st t (m_sc I k (m_sc (I k) j x)) L R Q := wp_iastore rfl (by decide) h1 h2 h3
theorem i135_51 {w1 w2 : Value} {x : Nat} : WP V 135 51 [.ref x, w1, w2] st t I L R Q = WP V 135 52 [.ref x, w1, w2] (.ref x :: st) t I L R Q := wp_go rfl
theorem i135_52  : WP V 135 52 ls st t I L R Q = WP V 135 53 ls (.int (nI 0) :: st) t I L R Q := wp_go rfl
theorem i135_53 {k : Nat} {x : Int32} (h1 : k < t) (h2 : m_ob k 8 = true) : WP V 135 53 ls (.int x :: .ref k :: st) t I L R Q = WP V 135 54 ls st t (m_sc I k (m_sc (I k) 17 x)) L R Q := wp_putI rfl (by decide) h1 h2
theorem i135_54 {w1 w2 : Value} {x : Nat} : WP V 135 54 [.ref x, w1, w2] st t I L R Q = WP V 135 55 [.ref x, w1, w2] (.ref x :: st) t I L R Q := wp_go rfl
theorem i135_55  : WP V 135 55 ls st t I L R Q = WP V 135 56 ls (.int (nI 0) :: st) t I L R Q := wp_go rfl
theorem i135_56 {k : Nat} {x : Int32} (h1 : k < t) (h2 : m_ob k 8 = true) : WP V 135 56 ls (.int x :: .ref k :: st) t I L R Q = WP V 135 57 ls st t (m_sc I k (m_sc (I k) 4 x)) L R Q := wp_putI rfl (by decide) h1 h2
theorem i135_57 {w1 w2 : Value} {x : Nat} : WP V 135 57 [.ref x, w1, w2] st t I L R Q = WP V 135 58 [.ref x, w1, w2] (.ref x :: st) t I L R Q := wp_go rfl
theorem i135_58 {x0 : Nat}  (h1 : x0 < t) (h2 : m_ob x0 8 = true) : WP V 135 58 ls [.ref x0] t I L R Q = WPC V 130 [.ref x0] 135 59 ls [] t I L R Q := wp_cls (wp_icv rfl rfl h1 h2) (by decide) (Nat.le_of_ble_eq_true rfl) rfl rfl (Nat.le_of_ble_eq_true rfl) (Nat.le_of_ble_eq_true rfl)
theorem i135_59 {w0 w2 : Value} {x : Int32} : WP V 135 59 [w0, .int x, w2] st t I L R Q = WP V 135 60 [w0, .int x, w2] (.int x :: st) t I L R Q := wp_go rfl
theorem i135_60 {x : Int32} : WP V 135 60 ls [.int x] t I L R Q = Q (some (.int x)) t I L R := wp_rti rfl rfl
-- TransactionCellsModel.note(III[III)V
theorem i136_0 {w1 w2 w3 w4 w5 w6 w7 w8 w9 : Value} {x : Nat} : WP V 136 0 [.ref x, w1, w2, w3, w4, w5, w6, w7, w8, w9] st t I L R Q = WP V 136 1 [.ref x, w1, w2, w3, w4, w5, w6, w7, w8, w9] (.ref x :: st) t I L R Q := wp_go rfl
theorem i136_1 {v0 : Nat} : WP V 136 1 ls (.ref v0 :: st) t I L R Q = WP V 136 2 ls (.ref v0 :: .ref v0 :: st) t I L R Q := wp_go rfl
theorem i136_2 {k : Nat} (h1 : k < t) (h2 : m_ob k 8 = true) : WP V 136 2 ls (.ref k :: st) t I L R Q = WP V 136 3 ls (.int (I k 4) :: st) t I L R Q := wp_getI rfl (by decide) h1 h2
theorem i136_3  : WP V 136 3 ls st t I L R Q = WP V 136 4 ls (.int (nI 1) :: st) t I L R Q := wp_go rfl
theorem i136_4 {x y : Int32} : WP V 136 4 ls (.int y :: .int x :: st) t I L R Q = WP V 136 5 ls (.int (x + y) :: st) t I L R Q := wp_go rfl
theorem i136_5 {k : Nat} {x : Int32} (h1 : k < t) (h2 : m_ob k 8 = true) : WP V 136 5 ls (.int x :: .ref k :: st) t I L R Q = WP V 136 6 ls st t (m_sc I k (m_sc (I k) 4 x)) L R Q := wp_putI rfl (by decide) h1 h2
theorem i136_6 {w1 w2 w3 w4 w5 w6 w7 w8 w9 : Value} {x : Nat} : WP V 136 6 [.ref x, w1, w2, w3, w4, w5, w6, w7, w8, w9] st t I L R Q = WP V 136 7 [.ref x, w1, w2, w3, w4, w5, w6, w7, w8, w9] (.ref x :: st) t I L R Q := wp_go rfl
theorem i136_7 {k : Nat} (h1 : k < t) (h2 : m_ob k 8 = true) : WP V 136 7 ls (.ref k :: st) t I L R Q = WP V 136 8 ls (.int (I k 17) :: st) t I L R Q := wp_getI rfl (by decide) h1 h2
theorem i136_8  : WP V 136 8 ls st t I L R Q = WP V 136 9 ls (.int (nI 60) :: st) t I L R Q := wp_go rfl
theorem i136_9 {x y : Int32} : WP V 136 9 ls (.int y :: .int x :: st) t I L R Q = if x = y then WP V 136 10 ls st t I L R Q else WP V 136 11 ls st t I L R Q := wp_brn (c := m_cc .ne x y) rfl rfl
theorem i136_10  : WP V 136 10 ls [] t I L R Q = Q none t I L R := wp_rtv rfl rfl
theorem i136_11 {w1 w2 w3 w4 w5 w6 w7 w8 w9 : Value} {x : Nat} : WP V 136 11 [.ref x, w1, w2, w3, w4, w5, w6, w7, w8, w9] st t I L R Q = WP V 136 12 [.ref x, w1, w2, w3, w4, w5, w6, w7, w8, w9] (.ref x :: st) t I L R Q := wp_go rfl
theorem i136_12 {k : Nat} (h1 : k < t) (h2 : m_ob k 8 = true) : WP V 136 12 ls (.ref k :: st) t I L R Q = WP V 136 13 ls (.int (I k 17) :: st) t I L R Q := wp_getI rfl (by decide) h1 h2
theorem i136_13 {p : Int32} {w0 w1 w2 w3 w4 w5 w7 w8 w9 : Value} {x : Int32} : WP V 136 13 [w0, w1, w2, w3, w4, w5, .int p, w7, w8, w9] (.int x :: st) t I L R Q = WP V 136 14 [w0, w1, w2, w3, w4, w5, .int p, .int x, w8, w9] st t I L R Q := wp_go rfl
theorem i136_14 {w0 w1 w3 w4 w5 w6 w7 w8 w9 : Value} {x : Int32} : WP V 136 14 [w0, w1, .int x, w3, w4, w5, w6, w7, w8, w9] st t I L R Q = WP V 136 15 [w0, w1, .int x, w3, w4, w5, w6, w7, w8, w9] (.int x :: st) t I L R Q := wp_go rfl
theorem i136_15  : WP V 136 15 ls st t I L R Q = WP V 136 16 ls (.int (nI 1) :: st) t I L R Q := wp_go rfl
theorem i136_16 {x y : Int32} : WP V 136 16 ls (.int y :: .int x :: st) t I L R Q = if x = y then WP V 136 17 ls st t I L R Q else WP V 136 41 ls st t I L R Q := wp_brn (c := m_cc .ne x y) rfl rfl
theorem i136_17 {w1 w2 w3 w4 w5 w6 w7 w8 w9 : Value} {x : Nat} : WP V 136 17 [.ref x, w1, w2, w3, w4, w5, w6, w7, w8, w9] st t I L R Q = WP V 136 18 [.ref x, w1, w2, w3, w4, w5, w6, w7, w8, w9] (.ref x :: st) t I L R Q := wp_go rfl
theorem i136_18 {k : Nat} (h1 : k < t) (h2 : m_ob k 8 = true) : WP V 136 18 ls (.ref k :: st) t I L R Q = WP V 136 19 ls (.int (I k 1) :: st) t I L R Q := wp_getI rfl (by decide) h1 h2
theorem i136_19  : WP V 136 19 ls st t I L R Q = WP V 136 20 ls (.int (nI 2) :: st) t I L R Q := wp_go rfl
theorem i136_20 {x y : Int32} : WP V 136 20 ls (.int y :: .int x :: st) t I L R Q = if x = y then WP V 136 21 ls st t I L R Q else WP V 136 41 ls st t I L R Q := wp_brn (c := m_cc .ne x y) rfl rfl
theorem i136_21  : WP V 136 21 ls st t I L R Q = WP V 136 22 ls (.int (nI 0) :: st) t I L R Q := wp_go rfl
theorem i136_22 {p : Int32} {w0 w1 w2 w3 w4 w5 w7 w8 w9 : Value} {x : Int32} : WP V 136 22 [w0, w1, w2, w3, w4, w5, .int p, w7, w8, w9] (.int x :: st) t I L R Q = WP V 136 23 [w0, w1, w2, w3, w4, w5, .int p, .int x, w8, w9] st t I L R Q := wp_go rfl
theorem i136_23 {w0 w1 w2 w3 w4 w5 w6 w8 w9 : Value} {x : Int32} : WP V 136 23 [w0, w1, w2, w3, w4, w5, w6, .int x, w8, w9] st t I L R Q = WP V 136 24 [w0, w1, w2, w3, w4, w5, w6, .int x, w8, w9] (.int x :: st) t I L R Q := wp_go rfl
theorem i136_24 {w1 w2 w3 w4 w5 w6 w7 w8 w9 : Value} {x : Nat} : WP V 136 24 [.ref x, w1, w2, w3, w4, w5, w6, w7, w8, w9] st t I L R Q = WP V 136 25 [.ref x, w1, w2, w3, w4, w5, w6, w7, w8, w9] (.ref x :: st) t I L R Q := wp_go rfl
theorem i136_25 {k : Nat} (h1 : k < t) (h2 : m_ob k 8 = true) : WP V 136 25 ls (.ref k :: st) t I L R Q = WP V 136 26 ls (.int (I k 17) :: st) t I L R Q := wp_getI rfl (by decide) h1 h2
theorem i136_26 {x y : Int32} : WP V 136 26 ls (.int y :: .int x :: st) t I L R Q = if y ≤ x then WP V 136 41 ls st t I L R Q else WP V 136 27 ls st t I L R Q := wp_br (c := m_cc .ge x y) rfl rfl
theorem i136_27 {w1 w2 w3 w4 w5 w6 w7 w8 w9 : Value} {x : Nat} : WP V 136 27 [.ref x, w1, w2, w3, w4, w5, w6, w7, w8, w9] st t I L R Q = WP V 136 28 [.ref x, w1, w2, w3, w4, w5, w6, w7, w8, w9] (.ref x :: st) t I L R Q := wp_go rfl
theorem i136_28 {k : Nat} (h1 : k < t) (h2 : m_ob k 8 = true) : WP V 136 28 ls (.ref k :: st) t I L R Q = WP V 136 29 ls (m_rv (R k 20) :: st) t I L R Q := wp_getR rfl (by decide) h1 h2
theorem i136_29 {w0 w1 w2 w3 w4 w5 w6 w8 w9 : Value} {x : Int32} : WP V 136 29 [w0, w1, w2, w3, w4, w5, w6, .int x, w8, w9] st t I L R Q = WP V 136 30 [w0, w1, w2, w3, w4, w5, w6, .int x, w8, w9] (.int x :: st) t I L R Q := wp_go rfl
theorem i136_30 {k j : Nat} (h2 : m_ar k 2 60 = true) (h1 : k < t) (h3 : j < 60) : WP V 136 30 ls (.int (nI j) :: .ref k :: st) t I L R Q = WP V 136 31 ls (.int (I k j) :: st) t I L R Q := wp_iaload rfl (by decide) h1 h2 h3
theorem i136_31 {w1 w2 w3 w4 w5 w6 w7 w8 w9 : Value} {x : Nat} : WP V 136 31 [.ref x, w1, w2, w3, w4, w5, w6, w7, w8, w9] st t I L R Q = WP V 136 32 [.ref x, w1, w2, w3, w4, w5, w6, w7, w8, w9] (.ref x :: st) t I L R Q := wp_go rfl
theorem i136_32 {k : Nat} (h1 : k < t) (h2 : m_ob k 8 = true) : WP V 136 32 ls (.ref k :: st) t I L R Q = WP V 136 33 ls (m_rv (R k 0) :: st) t I L R Q := wp_getR rfl (by decide) h1 h2
theorem i136_33 {w0 w2 w3 w4 w5 w6 w7 w8 w9 : Value} {x : Int32} : WP V 136 33 [w0, .int x, w2, w3, w4, w5, w6, w7, w8, w9] st t I L R Q = WP V 136 34 [w0, .int x, w2, w3, w4, w5, w6, w7, w8, w9] (.int x :: st) t I L R Q := wp_go rfl
theorem i136_34 {x0 : Int32} {r0 : Nat} {r1 : Int32} : WP V 136 34 ls [.int x0, .ref r0, .int r1] t I L R Q = WPC V 113 [.int x0] 136 35 ls [.ref r0, .int r1] t I L R Q := wp_cls (wp_ics rfl (by decide)) (by decide) (Nat.le_of_ble_eq_true rfl) rfl rfl (Nat.le_of_ble_eq_true rfl) (Nat.le_of_ble_eq_true rfl)
theorem i136_35  : WP V 136 35 ls st t I L R Q = WP V 136 36 ls (.int (nI 103) :: st) t I L R Q := wp_go rfl
theorem i136_36 {x y : Int32} : WP V 136 36 ls (.int y :: .int x :: st) t I L R Q = WP V 136 37 ls (.int (x + y) :: st) t I L R Q := wp_go rfl
theorem i136_37 {k j : Nat} (h2 : m_ar k 2 612 = true) (h1 : k < t) (h3 : j < 612) : WP V 136 37 ls (.int (nI j) :: .ref k :: st) t I L R Q = WP V 136 38 ls (.int (I k j) :: st) t I L R Q := wp_iaload rfl (by decide) h1 h2 h3
theorem i136_38 {x y : Int32} : WP V 136 38 ls (.int y :: .int x :: st) t I L R Q = if y < x then WP V 136 41 ls st t I L R Q else WP V 136 39 ls st t I L R Q := wp_br (c := m_cc .gt x y) rfl rfl
theorem i136_39 {p : Int32} {w0 w1 w2 w3 w4 w5 w8 w9 : Value} {x : Int32} : WP V 136 39 [w0, w1, w2, w3, w4, w5, .int p, .int x, w8, w9] st t I L R Q = WP V 136 40 [w0, w1, w2, w3, w4, w5, .int p, .int (x + (nI 1)), w8, w9] st t I L R Q := wp_go rfl
theorem i136_40  : WP V 136 40 ls st t I L R Q = WP V 136 23 ls st t I L R Q := wp_go rfl
theorem i136_41 {w1 w2 w3 w4 w5 w6 w7 w8 w9 : Value} {x : Nat} : WP V 136 41 [.ref x, w1, w2, w3, w4, w5, w6, w7, w8, w9] st t I L R Q = WP V 136 42 [.ref x, w1, w2, w3, w4, w5, w6, w7, w8, w9] (.ref x :: st) t I L R Q := wp_go rfl
theorem i136_42 {k : Nat} (h1 : k < t) (h2 : m_ob k 8 = true) : WP V 136 42 ls (.ref k :: st) t I L R Q = WP V 136 43 ls (.int (I k 17) :: st) t I L R Q := wp_getI rfl (by decide) h1 h2
theorem i136_43 {p : Int32} {w0 w1 w2 w3 w4 w5 w6 w8 w9 : Value} {x : Int32} : WP V 136 43 [w0, w1, w2, w3, w4, w5, w6, .int p, w8, w9] (.int x :: st) t I L R Q = WP V 136 44 [w0, w1, w2, w3, w4, w5, w6, .int p, .int x, w9] st t I L R Q := wp_go rfl
theorem i136_44 {w0 w1 w2 w3 w4 w5 w6 w7 w9 : Value} {x : Int32} : WP V 136 44 [w0, w1, w2, w3, w4, w5, w6, w7, .int x, w9] st t I L R Q = WP V 136 45 [w0, w1, w2, w3, w4, w5, w6, w7, .int x, w9] (.int x :: st) t I L R Q := wp_go rfl
theorem i136_45 {w0 w1 w2 w3 w4 w5 w6 w8 w9 : Value} {x : Int32} : WP V 136 45 [w0, w1, w2, w3, w4, w5, w6, .int x, w8, w9] st t I L R Q = WP V 136 46 [w0, w1, w2, w3, w4, w5, w6, .int x, w8, w9] (.int x :: st) t I L R Q := wp_go rfl
theorem i136_46 {x y : Int32} : WP V 136 46 ls (.int y :: .int x :: st) t I L R Q = if x ≤ y then WP V 136 104 ls st t I L R Q else WP V 136 47 ls st t I L R Q := wp_br (c := m_cc .le x y) rfl rfl
theorem i136_47 {w1 w2 w3 w4 w5 w6 w7 w8 w9 : Value} {x : Nat} : WP V 136 47 [.ref x, w1, w2, w3, w4, w5, w6, w7, w8, w9] st t I L R Q = WP V 136 48 [.ref x, w1, w2, w3, w4, w5, w6, w7, w8, w9] (.ref x :: st) t I L R Q := wp_go rfl
theorem i136_48 {k : Nat} (h1 : k < t) (h2 : m_ob k 8 = true) : WP V 136 48 ls (.ref k :: st) t I L R Q = WP V 136 49 ls (m_rv (R k 18) :: st) t I L R Q := wp_getR rfl (by decide) h1 h2
theorem i136_49 {w0 w1 w2 w3 w4 w5 w6 w7 w9 : Value} {x : Int32} : WP V 136 49 [w0, w1, w2, w3, w4, w5, w6, w7, .int x, w9] st t I L R Q = WP V 136 50 [w0, w1, w2, w3, w4, w5, w6, w7, .int x, w9] (.int x :: st) t I L R Q := wp_go rfl
theorem i136_50 {w1 w2 w3 w4 w5 w6 w7 w8 w9 : Value} {x : Nat} : WP V 136 50 [.ref x, w1, w2, w3, w4, w5, w6, w7, w8, w9] st t I L R Q = WP V 136 51 [.ref x, w1, w2, w3, w4, w5, w6, w7, w8, w9] (.ref x :: st) t I L R Q := wp_go rfl
theorem i136_51 {k : Nat} (h1 : k < t) (h2 : m_ob k 8 = true) : WP V 136 51 ls (.ref k :: st) t I L R Q = WP V 136 52 ls (m_rv (R k 18) :: st) t I L R Q := wp_getR rfl (by decide) h1 h2
theorem i136_52 {w0 w1 w2 w3 w4 w5 w6 w7 w9 : Value} {x : Int32} : WP V 136 52 [w0, w1, w2, w3, w4, w5, w6, w7, .int x, w9] st t I L R Q = WP V 136 53 [w0, w1, w2, w3, w4, w5, w6, w7, .int x, w9] (.int x :: st) t I L R Q := wp_go rfl
theorem i136_53  : WP V 136 53 ls st t I L R Q = WP V 136 54 ls (.int (nI 1) :: st) t I L R Q := wp_go rfl
theorem i136_54 {x y : Int32} : WP V 136 54 ls (.int y :: .int x :: st) t I L R Q = WP V 136 55 ls (.int (x - y) :: st) t I L R Q := wp_go rfl
theorem i136_55 {k j : Nat} (h2 : m_ar k 2 60 = true) (h1 : k < t) (h3 : j < 60) : WP V 136 55 ls (.int (nI j) :: .ref k :: st) t I L R Q = WP V 136 56 ls (.int (I k j) :: st) t I L R Q := wp_iaload rfl (by decide) h1 h2 h3
theorem i136_56 {k j : Nat} {x : Int32} (h2 : m_ar k 2 60 = true) (h1 : k < t) (h3 : j < 60) : WP V 136 56 ls (.int x :: .int (nI j) :: .ref k :: st) t I L R Q = WP V 136 57 ls st t (m_sc I k (m_sc (I k) j x)) L R Q := wp_iastore rfl (by decide) h1 h2 h3
theorem i136_57 {w1 w2 w3 w4 w5 w6 w7 w8 w9 : Value} {x : Nat} : WP V 136 57 [.ref x, w1, w2, w3, w4, w5, w6, w7, w8, w9] st t I L R Q = WP V 136 58 [.ref x, w1, w2, w3, w4, w5, w6, w7, w8, w9] (.ref x :: st) t I L R Q := wp_go rfl
theorem i136_58 {k : Nat} (h1 : k < t) (h2 : m_ob k 8 = true) : WP V 136 58 ls (.ref k :: st) t I L R Q = WP V 136 59 ls (m_rv (R k 19) :: st) t I L R Q := wp_getR rfl (by decide) h1 h2
theorem i136_59 {w0 w1 w2 w3 w4 w5 w6 w7 w9 : Value} {x : Int32} : WP V 136 59 [w0, w1, w2, w3, w4, w5, w6, w7, .int x, w9] st t I L R Q = WP V 136 60 [w0, w1, w2, w3, w4, w5, w6, w7, .int x, w9] (.int x :: st) t I L R Q := wp_go rfl
theorem i136_60 {w1 w2 w3 w4 w5 w6 w7 w8 w9 : Value} {x : Nat} : WP V 136 60 [.ref x, w1, w2, w3, w4, w5, w6, w7, w8, w9] st t I L R Q = WP V 136 61 [.ref x, w1, w2, w3, w4, w5, w6, w7, w8, w9] (.ref x :: st) t I L R Q := wp_go rfl
theorem i136_61 {k : Nat} (h1 : k < t) (h2 : m_ob k 8 = true) : WP V 136 61 ls (.ref k :: st) t I L R Q = WP V 136 62 ls (m_rv (R k 19) :: st) t I L R Q := wp_getR rfl (by decide) h1 h2
theorem i136_62 {w0 w1 w2 w3 w4 w5 w6 w7 w9 : Value} {x : Int32} : WP V 136 62 [w0, w1, w2, w3, w4, w5, w6, w7, .int x, w9] st t I L R Q = WP V 136 63 [w0, w1, w2, w3, w4, w5, w6, w7, .int x, w9] (.int x :: st) t I L R Q := wp_go rfl
theorem i136_63  : WP V 136 63 ls st t I L R Q = WP V 136 64 ls (.int (nI 1) :: st) t I L R Q := wp_go rfl
theorem i136_64 {x y : Int32} : WP V 136 64 ls (.int y :: .int x :: st) t I L R Q = WP V 136 65 ls (.int (x - y) :: st) t I L R Q := wp_go rfl
theorem i136_65 {k j : Nat} (h2 : m_ar k 2 60 = true) (h1 : k < t) (h3 : j < 60) : WP V 136 65 ls (.int (nI j) :: .ref k :: st) t I L R Q = WP V 136 66 ls (.int (I k j) :: st) t I L R Q := wp_iaload rfl (by decide) h1 h2 h3
theorem i136_66 {k j : Nat} {x : Int32} (h2 : m_ar k 2 60 = true) (h1 : k < t) (h3 : j < 60) : WP V 136 66 ls (.int x :: .int (nI j) :: .ref k :: st) t I L R Q = WP V 136 67 ls st t (m_sc I k (m_sc (I k) j x)) L R Q := wp_iastore rfl (by decide) h1 h2 h3
theorem i136_67 {w1 w2 w3 w4 w5 w6 w7 w8 w9 : Value} {x : Nat} : WP V 136 67 [.ref x, w1, w2, w3, w4, w5, w6, w7, w8, w9] st t I L R Q = WP V 136 68 [.ref x, w1, w2, w3, w4, w5, w6, w7, w8, w9] (.ref x :: st) t I L R Q := wp_go rfl
theorem i136_68 {k : Nat} (h1 : k < t) (h2 : m_ob k 8 = true) : WP V 136 68 ls (.ref k :: st) t I L R Q = WP V 136 69 ls (m_rv (R k 20) :: st) t I L R Q := wp_getR rfl (by decide) h1 h2
theorem i136_69 {w0 w1 w2 w3 w4 w5 w6 w7 w9 : Value} {x : Int32} : WP V 136 69 [w0, w1, w2, w3, w4, w5, w6, w7, .int x, w9] st t I L R Q = WP V 136 70 [w0, w1, w2, w3, w4, w5, w6, w7, .int x, w9] (.int x :: st) t I L R Q := wp_go rfl
theorem i136_70 {w1 w2 w3 w4 w5 w6 w7 w8 w9 : Value} {x : Nat} : WP V 136 70 [.ref x, w1, w2, w3, w4, w5, w6, w7, w8, w9] st t I L R Q = WP V 136 71 [.ref x, w1, w2, w3, w4, w5, w6, w7, w8, w9] (.ref x :: st) t I L R Q := wp_go rfl
theorem i136_71 {k : Nat} (h1 : k < t) (h2 : m_ob k 8 = true) : WP V 136 71 ls (.ref k :: st) t I L R Q = WP V 136 72 ls (m_rv (R k 20) :: st) t I L R Q := wp_getR rfl (by decide) h1 h2
theorem i136_72 {w0 w1 w2 w3 w4 w5 w6 w7 w9 : Value} {x : Int32} : WP V 136 72 [w0, w1, w2, w3, w4, w5, w6, w7, .int x, w9] st t I L R Q = WP V 136 73 [w0, w1, w2, w3, w4, w5, w6, w7, .int x, w9] (.int x :: st) t I L R Q := wp_go rfl
theorem i136_73  : WP V 136 73 ls st t I L R Q = WP V 136 74 ls (.int (nI 1) :: st) t I L R Q := wp_go rfl
theorem i136_74 {x y : Int32} : WP V 136 74 ls (.int y :: .int x :: st) t I L R Q = WP V 136 75 ls (.int (x - y) :: st) t I L R Q := wp_go rfl
theorem i136_75 {k j : Nat} (h2 : m_ar k 2 60 = true) (h1 : k < t) (h3 : j < 60) : WP V 136 75 ls (.int (nI j) :: .ref k :: st) t I L R Q = WP V 136 76 ls (.int (I k j) :: st) t I L R Q := wp_iaload rfl (by decide) h1 h2 h3
theorem i136_76 {k j : Nat} {x : Int32} (h2 : m_ar k 2 60 = true) (h1 : k < t) (h3 : j < 60) : WP V 136 76 ls (.int x :: .int (nI j) :: .ref k :: st) t I L R Q = WP V 136 77 ls st t (m_sc I k (m_sc (I k) j x)) L R Q := wp_iastore rfl (by decide) h1 h2 h3
theorem i136_77  : WP V 136 77 ls st t I L R Q = WP V 136 78 ls (.int (nI 0) :: st) t I L R Q := wp_go rfl
theorem i136_78 {p : Int32} {w0 w1 w2 w3 w4 w5 w6 w7 w9 : Value} {x : Int32} : WP V 136 78 [w0, w1, w2, w3, w4, w5, w6, w7, .int p, w9] (.int x :: st) t I L R Q = WP V 136 79 [w0, w1, w2, w3, w4, w5, w6, w7, .int p, .int x] st t I L R Q := wp_go rfl
theorem i136_79 {w0 w1 w2 w3 w4 w5 w6 w7 w8 : Value} {x : Int32} : WP V 136 79 [w0, w1, w2, w3, w4, w5, w6, w7, w8, .int x] st t I L R Q = WP V 136 80 [w0, w1, w2, w3, w4, w5, w6, w7, w8, .int x] (.int x :: st) t I L R Q := wp_go rfl
theorem i136_80  : WP V 136 80 ls st t I L R Q = WP V 136 81 ls (.int (nI 32) :: st) t I L R Q := wp_go rfl
theorem i136_81 {x y : Int32} : WP V 136 81 ls (.int y :: .int x :: st) t I L R Q = if y ≤ x then WP V 136 102 ls st t I L R Q else WP V 136 82 ls st t I L R Q := wp_br (c := m_cc .ge x y) rfl rfl
theorem i136_82 {w1 w2 w3 w4 w5 w6 w7 w8 w9 : Value} {x : Nat} : WP V 136 82 [.ref x, w1, w2, w3, w4, w5, w6, w7, w8, w9] st t I L R Q = WP V 136 83 [.ref x, w1, w2, w3, w4, w5, w6, w7, w8, w9] (.ref x :: st) t I L R Q := wp_go rfl
theorem i136_83 {k : Nat} (h1 : k < t) (h2 : m_ob k 8 = true) : WP V 136 83 ls (.ref k :: st) t I L R Q = WP V 136 84 ls (m_rv (R k 21) :: st) t I L R Q := wp_getR rfl (by decide) h1 h2
theorem i136_84  : WP V 136 84 ls st t I L R Q = WP V 136 85 ls (.int (nI 32) :: st) t I L R Q := wp_go rfl
theorem i136_85 {w0 w1 w2 w3 w4 w5 w6 w7 w9 : Value} {x : Int32} : WP V 136 85 [w0, w1, w2, w3, w4, w5, w6, w7, .int x, w9] st t I L R Q = WP V 136 86 [w0, w1, w2, w3, w4, w5, w6, w7, .int x, w9] (.int x :: st) t I L R Q := wp_go rfl
theorem i136_86 {x y : Int32} : WP V 136 86 ls (.int y :: .int x :: st) t I L R Q = WP V 136 87 ls (.int (x * y) :: st) t I L R Q := wp_go rfl
theorem i136_87 {w0 w1 w2 w3 w4 w5 w6 w7 w8 : Value} {x : Int32} : WP V 136 87 [w0, w1, w2, w3, w4, w5, w6, w7, w8, .int x] st t I L R Q = WP V 136 88 [w0, w1, w2, w3, w4, w5, w6, w7, w8, .int x] (.int x :: st) t I L R Q := wp_go rfl
theorem i136_88 {x y : Int32} : WP V 136 88 ls (.int y :: .int x :: st) t I L R Q = WP V 136 89 ls (.int (x + y) :: st) t I L R Q := wp_go rfl
theorem i136_89 {w1 w2 w3 w4 w5 w6 w7 w8 w9 : Value} {x : Nat} : WP V 136 89 [.ref x, w1, w2, w3, w4, w5, w6, w7, w8, w9] st t I L R Q = WP V 136 90 [.ref x, w1, w2, w3, w4, w5, w6, w7, w8, w9] (.ref x :: st) t I L R Q := wp_go rfl
theorem i136_90 {k : Nat} (h1 : k < t) (h2 : m_ob k 8 = true) : WP V 136 90 ls (.ref k :: st) t I L R Q = WP V 136 91 ls (m_rv (R k 21) :: st) t I L R Q := wp_getR rfl (by decide) h1 h2
theorem i136_91  : WP V 136 91 ls st t I L R Q = WP V 136 92 ls (.int (nI 32) :: st) t I L R Q := wp_go rfl
theorem i136_92 {w0 w1 w2 w3 w4 w5 w6 w7 w9 : Value} {x : Int32} : WP V 136 92 [w0, w1, w2, w3, w4, w5, w6, w7, .int x, w9] st t I L R Q = WP V 136 93 [w0, w1, w2, w3, w4, w5, w6, w7, .int x, w9] (.int x :: st) t I L R Q := wp_go rfl
theorem i136_93 {x y : Int32} : WP V 136 93 ls (.int y :: .int x :: st) t I L R Q = WP V 136 94 ls (.int (x * y) :: st) t I L R Q := wp_go rfl
theorem i136_94  : WP V 136 94 ls st t I L R Q = WP V 136 95 ls (.int (nI 32) :: st) t I L R Q := wp_go rfl
theorem i136_95 {x y : Int32} : WP V 136 95 ls (.int y :: .int x :: st) t I L R Q = WP V 136 96 ls (.int (x - y) :: st) t I L R Q := wp_go rfl
theorem i136_96 {w0 w1 w2 w3 w4 w5 w6 w7 w8 : Value} {x : Int32} : WP V 136 96 [w0, w1, w2, w3, w4, w5, w6, w7, w8, .int x] st t I L R Q = WP V 136 97 [w0, w1, w2, w3, w4, w5, w6, w7, w8, .int x] (.int x :: st) t I L R Q := wp_go rfl
theorem i136_97 {x y : Int32} : WP V 136 97 ls (.int y :: .int x :: st) t I L R Q = WP V 136 98 ls (.int (x + y) :: st) t I L R Q := wp_go rfl
theorem i136_98 {k j : Nat} (h2 : m_ar k 2 1920 = true) (h1 : k < t) (h3 : j < 1920) : WP V 136 98 ls (.int (nI j) :: .ref k :: st) t I L R Q = WP V 136 99 ls (.int (I k j) :: st) t I L R Q := wp_iaload rfl (by decide) h1 h2 h3
theorem i136_99 {k j : Nat} {x : Int32} (h2 : m_ar k 2 1920 = true) (h1 : k < t) (h3 : j < 1920) : WP V 136 99 ls (.int x :: .int (nI j) :: .ref k :: st) t I L R Q = WP V 136 100 ls st t (m_sc I k (m_sc (I k) j x)) L R Q := wp_iastore rfl (by decide) h1 h2 h3
theorem i136_100 {p : Int32} {w0 w1 w2 w3 w4 w5 w6 w7 : Value} {x : Int32} : WP V 136 100 [w0, w1, w2, w3, w4, w5, w6, w7, .int p, .int x] st t I L R Q = WP V 136 101 [w0, w1, w2, w3, w4, w5, w6, w7, .int p, .int (x + (nI 1))] st t I L R Q := wp_go rfl
theorem i136_101  : WP V 136 101 ls st t I L R Q = WP V 136 79 ls st t I L R Q := wp_go rfl
theorem i136_102 {p : Int32} {w0 w1 w2 w3 w4 w5 w6 w9 : Value} {x : Int32} : WP V 136 102 [w0, w1, w2, w3, w4, w5, w6, .int p, .int x, w9] st t I L R Q = WP V 136 103 [w0, w1, w2, w3, w4, w5, w6, .int p, .int (x + (-1)), w9] st t I L R Q := wp_go rfl
theorem i136_103  : WP V 136 103 ls st t I L R Q = WP V 136 44 ls st t I L R Q := wp_go rfl
theorem i136_104 {w1 w2 w3 w4 w5 w6 w7 w8 w9 : Value} {x : Nat} : WP V 136 104 [.ref x, w1, w2, w3, w4, w5, w6, w7, w8, w9] st t I L R Q = WP V 136 105 [.ref x, w1, w2, w3, w4, w5, w6, w7, w8, w9] (.ref x :: st) t I L R Q := wp_go rfl
theorem i136_105 {k : Nat} (h1 : k < t) (h2 : m_ob k 8 = true) : WP V 136 105 ls (.ref k :: st) t I L R Q = WP V 136 106 ls (m_rv (R k 18) :: st) t I L R Q := wp_getR rfl (by decide) h1 h2
theorem i136_106 {w0 w1 w2 w3 w4 w5 w6 w8 w9 : Value} {x : Int32} : WP V 136 106 [w0, w1, w2, w3, w4, w5, w6, .int x, w8, w9] st t I L R Q = WP V 136 107 [w0, w1, w2, w3, w4, w5, w6, .int x, w8, w9] (.int x :: st) t I L R Q := wp_go rfl
theorem i136_107 {w0 w2 w3 w4 w5 w6 w7 w8 w9 : Value} {x : Int32} : WP V 136 107 [w0, .int x, w2, w3, w4, w5, w6, w7, w8, w9] st t I L R Q = WP V 136 108 [w0, .int x, w2, w3, w4, w5, w6, w7, w8, w9] (.int x :: st) t I L R Q := wp_go rfl
theorem i136_108 {k j : Nat} {x : Int32} (h2 : m_ar k 2 60 = true) (h1 : k < t) (h3 : j < 60) : WP V 136 108 ls (.int x :: .int (nI j) :: .ref k :: st) t I L R Q = WP V 136 109 ls st t (m_sc I k (m_sc (I k) j x)) L R Q := wp_iastore rfl (by decide) h1 h2 h3
theorem i136_109 {w1 w2 w3 w4 w5 w6 w7 w8 w9 : Value} {x : Nat} : WP V 136 109 [.ref x, w1, w2, w3, w4, w5, w6, w7, w8, w9] st t I L R Q = WP V 136 110 [.ref x, w1, w2, w3, w4, w5, w6, w7, w8, w9] (.ref x :: st) t I L R Q := wp_go rfl
theorem i136_110 {k : Nat} (h1 : k < t) (h2 : m_ob k 8 = true) : WP V 136 110 ls (.ref k :: st) t I L R Q = WP V 136 111 ls (m_rv (R k 19) :: st) t I L R Q := wp_getR rfl (by decide) h1 h2
theorem i136_111 {w0 w1 w2 w3 w4 w5 w6 w8 w9 : Value} {x : Int32} : WP V 136 111 [w0, w1, w2, w3, w4, w5, w6, .int x, w8, w9] st t I L R Q = WP V 136 112 [w0, w1, w2, w3, w4, w5, w6, .int x, w8, w9] (.int x :: st) t I L R Q := wp_go rfl
theorem i136_112 {w0 w1 w3 w4 w5 w6 w7 w8 w9 : Value} {x : Int32} : WP V 136 112 [w0, w1, .int x, w3, w4, w5, w6, w7, w8, w9] st t I L R Q = WP V 136 113 [w0, w1, .int x, w3, w4, w5, w6, w7, w8, w9] (.int x :: st) t I L R Q := wp_go rfl
theorem i136_113 {k j : Nat} {x : Int32} (h2 : m_ar k 2 60 = true) (h1 : k < t) (h3 : j < 60) : WP V 136 113 ls (.int x :: .int (nI j) :: .ref k :: st) t I L R Q = WP V 136 114 ls st t (m_sc I k (m_sc (I k) j x)) L R Q := wp_iastore rfl (by decide) h1 h2 h3
theorem i136_114 {w1 w2 w3 w4 w5 w6 w7 w8 w9 : Value} {x : Nat} : WP V 136 114 [.ref x, w1, w2, w3, w4, w5, w6, w7, w8, w9] st t I L R Q = WP V 136 115 [.ref x, w1, w2, w3, w4, w5, w6, w7, w8, w9] (.ref x :: st) t I L R Q := wp_go rfl
theorem i136_115 {k : Nat} (h1 : k < t) (h2 : m_ob k 8 = true) : WP V 136 115 ls (.ref k :: st) t I L R Q = WP V 136 116 ls (m_rv (R k 20) :: st) t I L R Q := wp_getR rfl (by decide) h1 h2
theorem i136_116 {w0 w1 w2 w3 w4 w5 w6 w8 w9 : Value} {x : Int32} : WP V 136 116 [w0, w1, w2, w3, w4, w5, w6, .int x, w8, w9] st t I L R Q = WP V 136 117 [w0, w1, w2, w3, w4, w5, w6, .int x, w8, w9] (.int x :: st) t I L R Q := wp_go rfl
theorem i136_117 {w0 w1 w2 w4 w5 w6 w7 w8 w9 : Value} {x : Int32} : WP V 136 117 [w0, w1, w2, .int x, w4, w5, w6, w7, w8, w9] st t I L R Q = WP V 136 118 [w0, w1, w2, .int x, w4, w5, w6, w7, w8, w9] (.int x :: st) t I L R Q := wp_go rfl
theorem i136_118 {k j : Nat} {x : Int32} (h2 : m_ar k 2 60 = true) (h1 : k < t) (h3 : j < 60) : WP V 136 118 ls (.int x :: .int (nI j) :: .ref k :: st) t I L R Q = WP V 136 119 ls st t (m_sc I k (m_sc (I k) j x)) L R Q := wp_iastore rfl (by decide) h1 h2 h3
theorem i136_119  : WP V 136 119 ls st t I L R Q = WP V 136 120 ls (.int (nI 0) :: st) t I L R Q := wp_go rfl
theorem i136_120 {p : Int32} {w0 w1 w2 w3 w4 w5 w6 w8 w9 : Value} {x : Int32} : WP V 136 120 [w0, w1, w2, w3, w4, w5, w6, .int p, w8, w9] (.int x :: st) t I L R Q = WP V 136 121 [w0, w1, w2, w3, w4, w5, w6, .int p, .int x, w9] st t I L R Q := wp_go rfl
theorem i136_121 {w0 w1 w2 w3 w4 w5 w6 w7 w9 : Value} {x : Int32} : WP V 136 121 [w0, w1, w2, w3, w4, w5, w6, w7, .int x, w9] st t I L R Q = WP V 136 122 [w0, w1, w2, w3, w4, w5, w6, w7, .int x, w9] (.int x :: st) t I L R Q := wp_go rfl
theorem i136_122  : WP V 136 122 ls st t I L R Q = WP V 136 123 ls (.int (nI 8) :: st) t I L R Q := wp_go rfl
theorem i136_123 {x y : Int32} : WP V 136 123 ls (.int y :: .int x :: st) t I L R Q = if y ≤ x then WP V 136 196 ls st t I L R Q else WP V 136 124 ls st t I L R Q := wp_br (c := m_cc .ge x y) rfl rfl
theorem i136_124 {w1 w2 w3 w4 w5 w6 w7 w8 w9 : Value} {x : Nat} : WP V 136 124 [.ref x, w1, w2, w3, w4, w5, w6, w7, w8, w9] st t I L R Q = WP V 136 125 [.ref x, w1, w2, w3, w4, w5, w6, w7, w8, w9] (.ref x :: st) t I L R Q := wp_go rfl
theorem i136_125 {k : Nat} (h1 : k < t) (h2 : m_ob k 8 = true) : WP V 136 125 ls (.ref k :: st) t I L R Q = WP V 136 126 ls (m_rv (R k 21) :: st) t I L R Q := wp_getR rfl (by decide) h1 h2
theorem i136_126  : WP V 136 126 ls st t I L R Q = WP V 136 127 ls (.int (nI 32) :: st) t I L R Q := wp_go rfl
theorem i136_127 {w0 w1 w2 w3 w4 w5 w6 w8 w9 : Value} {x : Int32} : WP V 136 127 [w0, w1, w2, w3, w4, w5, w6, .int x, w8, w9] st t I L R Q = WP V 136 128 [w0, w1, w2, w3, w4, w5, w6, .int x, w8, w9] (.int x :: st) t I L R Q := wp_go rfl
theorem i136_128 {x y : Int32} : WP V 136 128 ls (.int y :: .int x :: st) t I L R Q = WP V 136 129 ls (.int (x * y) :: st) t I L R Q := wp_go rfl
theorem i136_129 {w0 w1 w2 w3 w4 w5 w6 w7 w9 : Value} {x : Int32} : WP V 136 129 [w0, w1, w2, w3, w4, w5, w6, w7, .int x, w9] st t I L R Q = WP V 136 130 [w0, w1, w2, w3, w4, w5, w6, w7, .int x, w9] (.int x :: st) t I L R Q := wp_go rfl
theorem i136_130 {x y : Int32} : WP V 136 130 ls (.int y :: .int x :: st) t I L R Q = WP V 136 131 ls (.int (x + y) :: st) t I L R Q := wp_go rfl
theorem i136_131 {w0 w1 w2 w3 w5 w6 w7 w8 w9 : Value} {x : Nat} : WP V 136 131 [w0, w1, w2, w3, .ref x, w5, w6, w7, w8, w9] st t I L R Q = WP V 136 132 [w0, w1, w2, w3, .ref x, w5, w6, w7, w8, w9] (.ref x :: st) t I L R Q := wp_go rfl
theorem i136_132 {w0 w1 w2 w3 w4 w6 w7 w8 w9 : Value} {x : Int32} : WP V 136 132 [w0, w1, w2, w3, w4, .int x, w6, w7, w8, w9] st t I L R Q = WP V 136 133 [w0, w1, w2, w3, w4, .int x, w6, w7, w8, w9] (.int x :: st) t I L R Q := wp_go rfl
theorem i136_133  : WP V 136 133 ls st t I L R Q = WP V 136 134 ls (.int (nI 2) :: st) t I L R Q := wp_go rfl
theorem i136_134 {w0 w1 w2 w3 w4 w5 w6 w7 w9 : Value} {x : Int32} : WP V 136 134 [w0, w1, w2, w3, w4, w5, w6, w7, .int x, w9] st t I L R Q = WP V 136 135 [w0, w1, w2, w3, w4, w5, w6, w7, .int x, w9] (.int x :: st) t I L R Q := wp_go rfl
theorem i136_135 {x y : Int32} : WP V 136 135 ls (.int y :: .int x :: st) t I L R Q = WP V 136 136 ls (.int (x * y) :: st) t I L R Q := wp_go rfl
theorem i136_136 {x y : Int32} : WP V 136 136 ls (.int y :: .int x :: st) t I L R Q = WP V 136 137 ls (.int (x + y) :: st) t I L R Q := wp_go rfl
theorem i136_137 {k j : Nat} {N : Nat} (h2 : m_ar k 2 N = true) (hN : N < 2 ^ 31) (h1 : k < t) (h3 : j < N) : WP V 136 137 ls (.int (nI j) :: .ref k :: st) t I L R Q = WP V 136 138 ls (.int (I k j) :: st) t I L R Q := wp_iaload rfl hN h1 h2 h3
theorem i136_138 {k j : Nat} {x : Int32} (h2 : m_ar k 2 1920 = true) (h1 : k < t) (h3 : j < 1920) : WP V 136 138 ls (.int x :: .int (nI j) :: .ref k :: st) t I L R Q = WP V 136 139 ls st t (m_sc I k (m_sc (I k) j x)) L R Q := wp_iastore rfl (by decide) h1 h2 h3
theorem i136_139 {w1 w2 w3 w4 w5 w6 w7 w8 w9 : Value} {x : Nat} : WP V 136 139 [.ref x, w1, w2, w3, w4, w5, w6, w7, w8, w9] st t I L R Q = WP V 136 140 [.ref x, w1, w2, w3, w4, w5, w6, w7, w8, w9] (.ref x :: st) t I L R Q := wp_go rfl
theorem i136_140 {k : Nat} (h1 : k < t) (h2 : m_ob k 8 = true) : WP V 136 140 ls (.ref k :: st) t I L R Q = WP V 136 141 ls (m_rv (R k 21) :: st) t I L R Q := wp_getR rfl (by decide) h1 h2
theorem i136_141  : WP V 136 141 ls st t I L R Q = WP V 136 142 ls (.int (nI 32) :: st) t I L R Q := wp_go rfl
theorem i136_142 {w0 w1 w2 w3 w4 w5 w6 w8 w9 : Value} {x : Int32} : WP V 136 142 [w0, w1, w2, w3, w4, w5, w6, .int x, w8, w9] st t I L R Q = WP V 136 143 [w0, w1, w2, w3, w4, w5, w6, .int x, w8, w9] (.int x :: st) t I L R Q := wp_go rfl
theorem i136_143 {x y : Int32} : WP V 136 143 ls (.int y :: .int x :: st) t I L R Q = WP V 136 144 ls (.int (x * y) :: st) t I L R Q := wp_go rfl
theorem i136_144  : WP V 136 144 ls st t I L R Q = WP V 136 145 ls (.int (nI 8) :: st) t I L R Q := wp_go rfl
theorem i136_145 {x y : Int32} : WP V 136 145 ls (.int y :: .int x :: st) t I L R Q = WP V 136 146 ls (.int (x + y) :: st) t I L R Q := wp_go rfl
theorem i136_146 {w0 w1 w2 w3 w4 w5 w6 w7 w9 : Value} {x : Int32} : WP V 136 146 [w0, w1, w2, w3, w4, w5, w6, w7, .int x, w9] st t I L R Q = WP V 136 147 [w0, w1, w2, w3, w4, w5, w6, w7, .int x, w9] (.int x :: st) t I L R Q := wp_go rfl
theorem i136_147 {x y : Int32} : WP V 136 147 ls (.int y :: .int x :: st) t I L R Q = WP V 136 148 ls (.int (x + y) :: st) t I L R Q := wp_go rfl
theorem i136_148 {w0 w1 w2 w3 w5 w6 w7 w8 w9 : Value} {x : Nat} : WP V 136 148 [w0, w1, w2, w3, .ref x, w5, w6, w7, w8, w9] st t I L R Q = WP V 136 149 [w0, w1, w2, w3, .ref x, w5, w6, w7, w8, w9] (.ref x :: st) t I L R Q := wp_go rfl
theorem i136_149 {w0 w1 w2 w3 w4 w6 w7 w8 w9 : Value} {x : Int32} : WP V 136 149 [w0, w1, w2, w3, w4, .int x, w6, w7, w8, w9] st t I L R Q = WP V 136 150 [w0, w1, w2, w3, w4, .int x, w6, w7, w8, w9] (.int x :: st) t I L R Q := wp_go rfl
theorem i136_150  : WP V 136 150 ls st t I L R Q = WP V 136 151 ls (.int (nI 2) :: st) t I L R Q := wp_go rfl
theorem i136_151 {w0 w1 w2 w3 w4 w5 w6 w7 w9 : Value} {x : Int32} : WP V 136 151 [w0, w1, w2, w3, w4, w5, w6, w7, .int x, w9] st t I L R Q = WP V 136 152 [w0, w1, w2, w3, w4, w5, w6, w7, .int x, w9] (.int x :: st) t I L R Q := wp_go rfl
theorem i136_152 {x y : Int32} : WP V 136 152 ls (.int y :: .int x :: st) t I L R Q = WP V 136 153 ls (.int (x * y) :: st) t I L R Q := wp_go rfl
theorem i136_153 {x y : Int32} : WP V 136 153 ls (.int y :: .int x :: st) t I L R Q = WP V 136 154 ls (.int (x + y) :: st) t I L R Q := wp_go rfl
theorem i136_154  : WP V 136 154 ls st t I L R Q = WP V 136 155 ls (.int (nI 1) :: st) t I L R Q := wp_go rfl
theorem i136_155 {x y : Int32} : WP V 136 155 ls (.int y :: .int x :: st) t I L R Q = WP V 136 156 ls (.int (x + y) :: st) t I L R Q := wp_go rfl
theorem i136_156 {k j : Nat} {N : Nat} (h2 : m_ar k 2 N = true) (hN : N < 2 ^ 31) (h1 : k < t) (h3 : j < N) : WP V 136 156 ls (.int (nI j) :: .ref k :: st) t I L R Q = WP V 136 157 ls (.int (I k j) :: st) t I L R Q := wp_iaload rfl hN h1 h2 h3
theorem i136_157 {k j : Nat} {x : Int32} (h2 : m_ar k 2 1920 = true) (h1 : k < t) (h3 : j < 1920) : WP V 136 157 ls (.int x :: .int (nI j) :: .ref k :: st) t I L R Q = WP V 136 158 ls st t (m_sc I k (m_sc (I k) j x)) L R Q := wp_iastore rfl (by decide) h1 h2 h3
theorem i136_158 {w1 w2 w3 w4 w5 w6 w7 w8 w9 : Value} {x : Nat} : WP V 136 158 [.ref x, w1, w2, w3, w4, w5, w6, w7, w8, w9] st t I L R Q = WP V 136 159 [.ref x, w1, w2, w3, w4, w5, w6, w7, w8, w9] (.ref x :: st) t I L R Q := wp_go rfl
theorem i136_159 {k : Nat} (h1 : k < t) (h2 : m_ob k 8 = true) : WP V 136 159 ls (.ref k :: st) t I L R Q = WP V 136 160 ls (m_rv (R k 21) :: st) t I L R Q := wp_getR rfl (by decide) h1 h2
theorem i136_160  : WP V 136 160 ls st t I L R Q = WP V 136 161 ls (.int (nI 32) :: st) t I L R Q := wp_go rfl
theorem i136_161 {w0 w1 w2 w3 w4 w5 w6 w8 w9 : Value} {x : Int32} : WP V 136 161 [w0, w1, w2, w3, w4, w5, w6, .int x, w8, w9] st t I L R Q = WP V 136 162 [w0, w1, w2, w3, w4, w5, w6, .int x, w8, w9] (.int x :: st) t I L R Q := wp_go rfl
theorem i136_162 {x y : Int32} : WP V 136 162 ls (.int y :: .int x :: st) t I L R Q = WP V 136 163 ls (.int (x * y) :: st) t I L R Q := wp_go rfl
theorem i136_163  : WP V 136 163 ls st t I L R Q = WP V 136 164 ls (.int (nI 16) :: st) t I L R Q := wp_go rfl
theorem i136_164 {x y : Int32} : WP V 136 164 ls (.int y :: .int x :: st) t I L R Q = WP V 136 165 ls (.int (x + y) :: st) t I L R Q := wp_go rfl
theorem i136_165 {w0 w1 w2 w3 w4 w5 w6 w7 w9 : Value} {x : Int32} : WP V 136 165 [w0, w1, w2, w3, w4, w5, w6, w7, .int x, w9] st t I L R Q = WP V 136 166 [w0, w1, w2, w3, w4, w5, w6, w7, .int x, w9] (.int x :: st) t I L R Q := wp_go rfl
theorem i136_166 {x y : Int32} : WP V 136 166 ls (.int y :: .int x :: st) t I L R Q = WP V 136 167 ls (.int (x + y) :: st) t I L R Q := wp_go rfl
theorem i136_167 {w0 w1 w2 w3 w5 w6 w7 w8 w9 : Value} {x : Nat} : WP V 136 167 [w0, w1, w2, w3, .ref x, w5, w6, w7, w8, w9] st t I L R Q = WP V 136 168 [w0, w1, w2, w3, .ref x, w5, w6, w7, w8, w9] (.ref x :: st) t I L R Q := wp_go rfl
theorem i136_168 {w0 w1 w2 w3 w4 w5 w7 w8 w9 : Value} {x : Int32} : WP V 136 168 [w0, w1, w2, w3, w4, w5, .int x, w7, w8, w9] st t I L R Q = WP V 136 169 [w0, w1, w2, w3, w4, w5, .int x, w7, w8, w9] (.int x :: st) t I L R Q := wp_go rfl
theorem i136_169  : WP V 136 169 ls st t I L R Q = WP V 136 170 ls (.int (nI 2) :: st) t I L R Q := wp_go rfl
theorem i136_170 {w0 w1 w2 w3 w4 w5 w6 w7 w9 : Value} {x : Int32} : WP V 136 170 [w0, w1, w2, w3, w4, w5, w6, w7, .int x, w9] st t I L R Q = WP V 136 171 [w0, w1, w2, w3, w4, w5, w6, w7, .int x, w9] (.int x :: st) t I L R Q := wp_go rfl
theorem i136_171 {x y : Int32} : WP V 136 171 ls (.int y :: .int x :: st) t I L R Q = WP V 136 172 ls (.int (x * y) :: st) t I L R Q := wp_go rfl
theorem i136_172 {x y : Int32} : WP V 136 172 ls (.int y :: .int x :: st) t I L R Q = WP V 136 173 ls (.int (x + y) :: st) t I L R Q := wp_go rfl
theorem i136_173 {k j : Nat} {N : Nat} (h2 : m_ar k 2 N = true) (hN : N < 2 ^ 31) (h1 : k < t) (h3 : j < N) : WP V 136 173 ls (.int (nI j) :: .ref k :: st) t I L R Q = WP V 136 174 ls (.int (I k j) :: st) t I L R Q := wp_iaload rfl hN h1 h2 h3
theorem i136_174 {k j : Nat} {x : Int32} (h2 : m_ar k 2 1920 = true) (h1 : k < t) (h3 : j < 1920) : WP V 136 174 ls (.int x :: .int (nI j) :: .ref k :: st) t I L R Q = WP V 136 175 ls st t (m_sc I k (m_sc (I k) j x)) L R Q := wp_iastore rfl (by decide) h1 h2 h3
theorem i136_175 {w1 w2 w3 w4 w5 w6 w7 w8 w9 : Value} {x : Nat} : WP V 136 175 [.ref x, w1, w2, w3, w4, w5, w6, w7, w8, w9] st t I L R Q = WP V 136 176 [.ref x, w1, w2, w3, w4, w5, w6, w7, w8, w9] (.ref x :: st) t I L R Q := wp_go rfl
theorem i136_176 {k : Nat} (h1 : k < t) (h2 : m_ob k 8 = true) : WP V 136 176 ls (.ref k :: st) t I L R Q = WP V 136 177 ls (m_rv (R k 21) :: st) t I L R Q := wp_getR rfl (by decide) h1 h2
theorem i136_177  : WP V 136 177 ls st t I L R Q = WP V 136 178 ls (.int (nI 32) :: st) t I L R Q := wp_go rfl
theorem i136_178 {w0 w1 w2 w3 w4 w5 w6 w8 w9 : Value} {x : Int32} : WP V 136 178 [w0, w1, w2, w3, w4, w5, w6, .int x, w8, w9] st t I L R Q = WP V 136 179 [w0, w1, w2, w3, w4, w5, w6, .int x, w8, w9] (.int x :: st) t I L R Q := wp_go rfl
theorem i136_179 {x y : Int32} : WP V 136 179 ls (.int y :: .int x :: st) t I L R Q = WP V 136 180 ls (.int (x * y) :: st) t I L R Q := wp_go rfl
theorem i136_180  : WP V 136 180 ls st t I L R Q = WP V 136 181 ls (.int (nI 24) :: st) t I L R Q := wp_go rfl
theorem i136_181 {x y : Int32} : WP V 136 181 ls (.int y :: .int x :: st) t I L R Q = WP V 136 182 ls (.int (x + y) :: st) t I L R Q := wp_go rfl
theorem i136_182 {w0 w1 w2 w3 w4 w5 w6 w7 w9 : Value} {x : Int32} : WP V 136 182 [w0, w1, w2, w3, w4, w5, w6, w7, .int x, w9] st t I L R Q = WP V 136 183 [w0, w1, w2, w3, w4, w5, w6, w7, .int x, w9] (.int x :: st) t I L R Q := wp_go rfl
theorem i136_183 {x y : Int32} : WP V 136 183 ls (.int y :: .int x :: st) t I L R Q = WP V 136 184 ls (.int (x + y) :: st) t I L R Q := wp_go rfl
theorem i136_184 {w0 w1 w2 w3 w5 w6 w7 w8 w9 : Value} {x : Nat} : WP V 136 184 [w0, w1, w2, w3, .ref x, w5, w6, w7, w8, w9] st t I L R Q = WP V 136 185 [w0, w1, w2, w3, .ref x, w5, w6, w7, w8, w9] (.ref x :: st) t I L R Q := wp_go rfl
theorem i136_185 {w0 w1 w2 w3 w4 w5 w7 w8 w9 : Value} {x : Int32} : WP V 136 185 [w0, w1, w2, w3, w4, w5, .int x, w7, w8, w9] st t I L R Q = WP V 136 186 [w0, w1, w2, w3, w4, w5, .int x, w7, w8, w9] (.int x :: st) t I L R Q := wp_go rfl
theorem i136_186  : WP V 136 186 ls st t I L R Q = WP V 136 187 ls (.int (nI 2) :: st) t I L R Q := wp_go rfl
theorem i136_187 {w0 w1 w2 w3 w4 w5 w6 w7 w9 : Value} {x : Int32} : WP V 136 187 [w0, w1, w2, w3, w4, w5, w6, w7, .int x, w9] st t I L R Q = WP V 136 188 [w0, w1, w2, w3, w4, w5, w6, w7, .int x, w9] (.int x :: st) t I L R Q := wp_go rfl
theorem i136_188 {x y : Int32} : WP V 136 188 ls (.int y :: .int x :: st) t I L R Q = WP V 136 189 ls (.int (x * y) :: st) t I L R Q := wp_go rfl
theorem i136_189 {x y : Int32} : WP V 136 189 ls (.int y :: .int x :: st) t I L R Q = WP V 136 190 ls (.int (x + y) :: st) t I L R Q := wp_go rfl
theorem i136_190  : WP V 136 190 ls st t I L R Q = WP V 136 191 ls (.int (nI 1) :: st) t I L R Q := wp_go rfl
theorem i136_191 {x y : Int32} : WP V 136 191 ls (.int y :: .int x :: st) t I L R Q = WP V 136 192 ls (.int (x + y) :: st) t I L R Q := wp_go rfl
theorem i136_192 {k j : Nat} {N : Nat} (h2 : m_ar k 2 N = true) (hN : N < 2 ^ 31) (h1 : k < t) (h3 : j < N) : WP V 136 192 ls (.int (nI j) :: .ref k :: st) t I L R Q = WP V 136 193 ls (.int (I k j) :: st) t I L R Q := wp_iaload rfl hN h1 h2 h3
theorem i136_193 {k j : Nat} {x : Int32} (h2 : m_ar k 2 1920 = true) (h1 : k < t) (h3 : j < 1920) : WP V 136 193 ls (.int x :: .int (nI j) :: .ref k :: st) t I L R Q = WP V 136 194 ls st t (m_sc I k (m_sc (I k) j x)) L R Q := wp_iastore rfl (by decide) h1 h2 h3
theorem i136_194 {p : Int32} {w0 w1 w2 w3 w4 w5 w6 w9 : Value} {x : Int32} : WP V 136 194 [w0, w1, w2, w3, w4, w5, w6, .int p, .int x, w9] st t I L R Q = WP V 136 195 [w0, w1, w2, w3, w4, w5, w6, .int p, .int (x + (nI 1)), w9] st t I L R Q := wp_go rfl
theorem i136_195  : WP V 136 195 ls st t I L R Q = WP V 136 121 ls st t I L R Q := wp_go rfl
theorem i136_196 {w1 w2 w3 w4 w5 w6 w7 w8 w9 : Value} {x : Nat} : WP V 136 196 [.ref x, w1, w2, w3, w4, w5, w6, w7, w8, w9] st t I L R Q = WP V 136 197 [.ref x, w1, w2, w3, w4, w5, w6, w7, w8, w9] (.ref x :: st) t I L R Q := wp_go rfl
theorem i136_197 {v0 : Nat} : WP V 136 197 ls (.ref v0 :: st) t I L R Q = WP V 136 198 ls (.ref v0 :: .ref v0 :: st) t I L R Q := wp_go rfl
theorem i136_198 {k : Nat} (h1 : k < t) (h2 : m_ob k 8 = true) : WP V 136 198 ls (.ref k :: st) t I L R Q = WP V 136 199 ls (.int (I k 17) :: st) t I L R Q := wp_getI rfl (by decide) h1 h2
theorem i136_199  : WP V 136 199 ls st t I L R Q = WP V 136 200 ls (.int (nI 1) :: st) t I L R Q := wp_go rfl
theorem i136_200 {x y : Int32} : WP V 136 200 ls (.int y :: .int x :: st) t I L R Q = WP V 136 201 ls (.int (x + y) :: st) t I L R Q := wp_go rfl
theorem i136_201 {k : Nat} {x : Int32} (h1 : k < t) (h2 : m_ob k 8 = true) : WP V 136 201 ls (.int x :: .ref k :: st) t I L R Q = WP V 136 202 ls st t (m_sc I k (m_sc (I k) 17 x)) L R Q := wp_putI rfl (by decide) h1 h2
theorem i136_202  : WP V 136 202 ls [] t I L R Q = Q none t I L R := wp_rtv rfl rfl
-- TransactionCellsModel.become(III)V
theorem i137_0 {w0 w2 w3 w4 w5 : Value} {x : Int32} : WP V 137 0 [w0, .int x, w2, w3, w4, w5] st t I L R Q = WP V 137 1 [w0, .int x, w2, w3, w4, w5] (.int x :: st) t I L R Q := wp_go rfl
theorem i137_1 {x0 : Int32}  : WP V 137 1 ls [.int x0] t I L R Q = WPC V 112 [.int x0] 137 2 ls [] t I L R Q := wp_cls (wp_ics rfl (by decide)) (by decide) (Nat.le_of_ble_eq_true rfl) rfl rfl (Nat.le_of_ble_eq_true rfl) (Nat.le_of_ble_eq_true rfl)
theorem i137_2 {p : Int32} {w0 w1 w2 w4 w5 : Value} {x : Int32} : WP V 137 2 [w0, w1, w2, .int p, w4, w5] (.int x :: st) t I L R Q = WP V 137 3 [w0, w1, w2, .int p, .int x, w5] st t I L R Q := wp_go rfl
theorem i137_3 {w1 w2 w3 w4 w5 : Value} {x : Nat} : WP V 137 3 [.ref x, w1, w2, w3, w4, w5] st t I L R Q = WP V 137 4 [.ref x, w1, w2, w3, w4, w5] (.ref x :: st) t I L R Q := wp_go rfl
theorem i137_4 {k : Nat} (h1 : k < t) (h2 : m_ob k 8 = true) : WP V 137 4 ls (.ref k :: st) t I L R Q = WP V 137 5 ls (m_rv (R k 0) :: st) t I L R Q := wp_getR rfl (by decide) h1 h2
theorem i137_5 {w0 w1 w2 w3 w5 : Value} {x : Int32} : WP V 137 5 [w0, w1, w2, w3, .int x, w5] st t I L R Q = WP V 137 6 [w0, w1, w2, w3, .int x, w5] (.int x :: st) t I L R Q := wp_go rfl
theorem i137_6 {w0 w1 w3 w4 w5 : Value} {x : Int32} : WP V 137 6 [w0, w1, .int x, w3, w4, w5] st t I L R Q = WP V 137 7 [w0, w1, .int x, w3, w4, w5] (.int x :: st) t I L R Q := wp_go rfl
theorem i137_7 {k j : Nat} {x : Int32} (h2 : m_ar k 2 612 = true) (h1 : k < t) (h3 : j < 612) : WP V 137 7 ls (.int x :: .int (nI j) :: .ref k :: st) t I L R Q = WP V 137 8 ls st t (m_sc I k (m_sc (I k) j x)) L R Q := wp_iastore rfl (by decide) h1 h2 h3
theorem i137_8 {w1 w2 w3 w4 w5 : Value} {x : Nat} : WP V 137 8 [.ref x, w1, w2, w3, w4, w5] st t I L R Q = WP V 137 9 [.ref x, w1, w2, w3, w4, w5] (.ref x :: st) t I L R Q := wp_go rfl
theorem i137_9 {k : Nat} (h1 : k < t) (h2 : m_ob k 8 = true) : WP V 137 9 ls (.ref k :: st) t I L R Q = WP V 137 10 ls (m_rv (R k 0) :: st) t I L R Q := wp_getR rfl (by decide) h1 h2
theorem i137_10 {w0 w1 w2 w3 w5 : Value} {x : Int32} : WP V 137 10 [w0, w1, w2, w3, .int x, w5] st t I L R Q = WP V 137 11 [w0, w1, w2, w3, .int x, w5] (.int x :: st) t I L R Q := wp_go rfl
theorem i137_11  : WP V 137 11 ls st t I L R Q = WP V 137 12 ls (.int (nI 1) :: st) t I L R Q := wp_go rfl
theorem i137_12 {x y : Int32} : WP V 137 12 ls (.int y :: .int x :: st) t I L R Q = WP V 137 13 ls (.int (x + y) :: st) t I L R Q := wp_go rfl
theorem i137_13 {w0 w1 w2 w4 w5 : Value} {x : Int32} : WP V 137 13 [w0, w1, w2, .int x, w4, w5] st t I L R Q = WP V 137 14 [w0, w1, w2, .int x, w4, w5] (.int x :: st) t I L R Q := wp_go rfl
theorem i137_14 {k j : Nat} {x : Int32} (h2 : m_ar k 2 612 = true) (h1 : k < t) (h3 : j < 612) : WP V 137 14 ls (.int x :: .int (nI j) :: .ref k :: st) t I L R Q = WP V 137 15 ls st t (m_sc I k (m_sc (I k) j x)) L R Q := wp_iastore rfl (by decide) h1 h2 h3
theorem i137_15 {w1 w2 w3 w4 w5 : Value} {x : Nat} : WP V 137 15 [.ref x, w1, w2, w3, w4, w5] st t I L R Q = WP V 137 16 [.ref x, w1, w2, w3, w4, w5] (.ref x :: st) t I L R Q := wp_go rfl
theorem i137_16 {k : Nat} (h1 : k < t) (h2 : m_ob k 8 = true) : WP V 137 16 ls (.ref k :: st) t I L R Q = WP V 137 17 ls (m_rv (R k 0) :: st) t I L R Q := wp_getR rfl (by decide) h1 h2
theorem i137_17 {w0 w1 w2 w3 w5 : Value} {x : Int32} : WP V 137 17 [w0, w1, w2, w3, .int x, w5] st t I L R Q = WP V 137 18 [w0, w1, w2, w3, .int x, w5] (.int x :: st) t I L R Q := wp_go rfl
theorem i137_18  : WP V 137 18 ls st t I L R Q = WP V 137 19 ls (.int (nI 2) :: st) t I L R Q := wp_go rfl
theorem i137_19 {x y : Int32} : WP V 137 19 ls (.int y :: .int x :: st) t I L R Q = WP V 137 20 ls (.int (x + y) :: st) t I L R Q := wp_go rfl
theorem i137_20 {w1 w2 w3 w4 w5 : Value} {x : Nat} : WP V 137 20 [.ref x, w1, w2, w3, w4, w5] st t I L R Q = WP V 137 21 [.ref x, w1, w2, w3, w4, w5] (.ref x :: st) t I L R Q := wp_go rfl
theorem i137_21 {k : Nat} (h1 : k < t) (h2 : m_ob k 8 = true) : WP V 137 21 ls (.ref k :: st) t I L R Q = WP V 137 22 ls (m_rv (R k 0) :: st) t I L R Q := wp_getR rfl (by decide) h1 h2
theorem i137_22  : WP V 137 22 ls st t I L R Q = WP V 137 23 ls (.int (nI 144) :: st) t I L R Q := wp_go rfl
theorem i137_23 {k j : Nat} (h2 : m_ar k 2 612 = true) (h1 : k < t) (h3 : j < 612) : WP V 137 23 ls (.int (nI j) :: .ref k :: st) t I L R Q = WP V 137 24 ls (.int (I k j) :: st) t I L R Q := wp_iaload rfl (by decide) h1 h2 h3
theorem i137_24 {k j : Nat} {x : Int32} (h2 : m_ar k 2 612 = true) (h1 : k < t) (h3 : j < 612) : WP V 137 24 ls (.int x :: .int (nI j) :: .ref k :: st) t I L R Q = WP V 137 25 ls st t (m_sc I k (m_sc (I k) j x)) L R Q := wp_iastore rfl (by decide) h1 h2 h3
theorem i137_25  : WP V 137 25 ls st t I L R Q = WP V 137 26 ls (.int (nI 14) :: st) t I L R Q := wp_go rfl
theorem i137_26 {p : Int32} {w0 w1 w2 w3 w5 : Value} {x : Int32} : WP V 137 26 [w0, w1, w2, w3, .int p, w5] (.int x :: st) t I L R Q = WP V 137 27 [w0, w1, w2, w3, .int p, .int x] st t I L R Q := wp_go rfl
theorem i137_27 {w0 w1 w2 w3 w4 : Value} {x : Int32} : WP V 137 27 [w0, w1, w2, w3, w4, .int x] st t I L R Q = WP V 137 28 [w0, w1, w2, w3, w4, .int x] (.int x :: st) t I L R Q := wp_go rfl
theorem i137_28  : WP V 137 28 ls st t I L R Q = WP V 137 29 ls (.int (nI 6) :: st) t I L R Q := wp_go rfl
theorem i137_29 {x y : Int32} : WP V 137 29 ls (.int y :: .int x :: st) t I L R Q = if x < y then WP V 137 46 ls st t I L R Q else WP V 137 30 ls st t I L R Q := wp_br (c := m_cc .lt x y) rfl rfl
theorem i137_30 {w1 w2 w3 w4 w5 : Value} {x : Nat} : WP V 137 30 [.ref x, w1, w2, w3, w4, w5] st t I L R Q = WP V 137 31 [.ref x, w1, w2, w3, w4, w5] (.ref x :: st) t I L R Q := wp_go rfl
theorem i137_31 {k : Nat} (h1 : k < t) (h2 : m_ob k 8 = true) : WP V 137 31 ls (.ref k :: st) t I L R Q = WP V 137 32 ls (m_rv (R k 0) :: st) t I L R Q := wp_getR rfl (by decide) h1 h2
theorem i137_32 {w0 w1 w2 w3 w5 : Value} {x : Int32} : WP V 137 32 [w0, w1, w2, w3, .int x, w5] st t I L R Q = WP V 137 33 [w0, w1, w2, w3, .int x, w5] (.int x :: st) t I L R Q := wp_go rfl
theorem i137_33 {w0 w1 w2 w3 w4 : Value} {x : Int32} : WP V 137 33 [w0, w1, w2, w3, w4, .int x] st t I L R Q = WP V 137 34 [w0, w1, w2, w3, w4, .int x] (.int x :: st) t I L R Q := wp_go rfl
theorem i137_34 {x y : Int32} : WP V 137 34 ls (.int y :: .int x :: st) t I L R Q = WP V 137 35 ls (.int (x + y) :: st) t I L R Q := wp_go rfl
theorem i137_35 {w1 w2 w3 w4 w5 : Value} {x : Nat} : WP V 137 35 [.ref x, w1, w2, w3, w4, w5] st t I L R Q = WP V 137 36 [.ref x, w1, w2, w3, w4, w5] (.ref x :: st) t I L R Q := wp_go rfl
theorem i137_36 {k : Nat} (h1 : k < t) (h2 : m_ob k 8 = true) : WP V 137 36 ls (.ref k :: st) t I L R Q = WP V 137 37 ls (m_rv (R k 0) :: st) t I L R Q := wp_getR rfl (by decide) h1 h2
theorem i137_37 {w0 w1 w2 w3 w5 : Value} {x : Int32} : WP V 137 37 [w0, w1, w2, w3, .int x, w5] st t I L R Q = WP V 137 38 [w0, w1, w2, w3, .int x, w5] (.int x :: st) t I L R Q := wp_go rfl
theorem i137_38 {w0 w1 w2 w3 w4 : Value} {x : Int32} : WP V 137 38 [w0, w1, w2, w3, w4, .int x] st t I L R Q = WP V 137 39 [w0, w1, w2, w3, w4, .int x] (.int x :: st) t I L R Q := wp_go rfl
theorem i137_39 {x y : Int32} : WP V 137 39 ls (.int y :: .int x :: st) t I L R Q = WP V 137 40 ls (.int (x + y) :: st) t I L R Q := wp_go rfl
theorem i137_40  : WP V 137 40 ls st t I L R Q = WP V 137 41 ls (.int (nI 3) :: st) t I L R Q := wp_go rfl
theorem i137_41 {x y : Int32} : WP V 137 41 ls (.int y :: .int x :: st) t I L R Q = WP V 137 42 ls (.int (x - y) :: st) t I L R Q := wp_go rfl
theorem i137_42 {k j : Nat} (h2 : m_ar k 2 612 = true) (h1 : k < t) (h3 : j < 612) : WP V 137 42 ls (.int (nI j) :: .ref k :: st) t I L R Q = WP V 137 43 ls (.int (I k j) :: st) t I L R Q := wp_iaload rfl (by decide) h1 h2 h3
theorem i137_43 {k j : Nat} {x : Int32} (h2 : m_ar k 2 612 = true) (h1 : k < t) (h3 : j < 612) : WP V 137 43 ls (.int x :: .int (nI j) :: .ref k :: st) t I L R Q = WP V 137 44 ls st t (m_sc I k (m_sc (I k) j x)) L R Q := wp_iastore rfl (by decide) h1 h2 h3
theorem i137_44 {p : Int32} {w0 w1 w2 w3 : Value} {x : Int32} : WP V 137 44 [w0, w1, w2, w3, .int p, .int x] st t I L R Q = WP V 137 45 [w0, w1, w2, w3, .int p, .int (x + (-1))] st t I L R Q := wp_go rfl
theorem i137_45  : WP V 137 45 ls st t I L R Q = WP V 137 27 ls st t I L R Q := wp_go rfl
theorem i137_46 {w1 w2 w3 w4 w5 : Value} {x : Nat} : WP V 137 46 [.ref x, w1, w2, w3, w4, w5] st t I L R Q = WP V 137 47 [.ref x, w1, w2, w3, w4, w5] (.ref x :: st) t I L R Q := wp_go rfl
theorem i137_47 {k : Nat} (h1 : k < t) (h2 : m_ob k 8 = true) : WP V 137 47 ls (.ref k :: st) t I L R Q = WP V 137 48 ls (m_rv (R k 0) :: st) t I L R Q := wp_getR rfl (by decide) h1 h2
theorem i137_48 {w0 w1 w2 w3 w5 : Value} {x : Int32} : WP V 137 48 [w0, w1, w2, w3, .int x, w5] st t I L R Q = WP V 137 49 [w0, w1, w2, w3, .int x, w5] (.int x :: st) t I L R Q := wp_go rfl
theorem i137_49  : WP V 137 49 ls st t I L R Q = WP V 137 50 ls (.int (nI 3) :: st) t I L R Q := wp_go rfl
theorem i137_50 {x y : Int32} : WP V 137 50 ls (.int y :: .int x :: st) t I L R Q = WP V 137 51 ls (.int (x + y) :: st) t I L R Q := wp_go rfl
theorem i137_51 {w0 w1 w3 w4 w5 : Value} {x : Int32} : WP V 137 51 [w0, w1, .int x, w3, w4, w5] st t I L R Q = WP V 137 52 [w0, w1, .int x, w3, w4, w5] (.int x :: st) t I L R Q := wp_go rfl
theorem i137_52 {k j : Nat} {x : Int32} (h2 : m_ar k 2 612 = true) (h1 : k < t) (h3 : j < 612) : WP V 137 52 ls (.int x :: .int (nI j) :: .ref k :: st) t I L R Q = WP V 137 53 ls st t (m_sc I k (m_sc (I k) j x)) L R Q := wp_iastore rfl (by decide) h1 h2 h3
theorem i137_53 {w1 w2 w3 w4 w5 : Value} {x : Nat} : WP V 137 53 [.ref x, w1, w2, w3, w4, w5] st t I L R Q = WP V 137 54 [.ref x, w1, w2, w3, w4, w5] (.ref x :: st) t I L R Q := wp_go rfl
theorem i137_54 {k : Nat} (h1 : k < t) (h2 : m_ob k 8 = true) : WP V 137 54 ls (.ref k :: st) t I L R Q = WP V 137 55 ls (m_rv (R k 0) :: st) t I L R Q := wp_getR rfl (by decide) h1 h2
theorem i137_55 {w0 w1 w2 w3 w5 : Value} {x : Int32} : WP V 137 55 [w0, w1, w2, w3, .int x, w5] st t I L R Q = WP V 137 56 [w0, w1, w2, w3, .int x, w5] (.int x :: st) t I L R Q := wp_go rfl
theorem i137_56  : WP V 137 56 ls st t I L R Q = WP V 137 57 ls (.int (nI 3) :: st) t I L R Q := wp_go rfl
theorem i137_57 {x y : Int32} : WP V 137 57 ls (.int y :: .int x :: st) t I L R Q = WP V 137 58 ls (.int (x + y) :: st) t I L R Q := wp_go rfl
theorem i137_58  : WP V 137 58 ls st t I L R Q = WP V 137 59 ls (.int (nI 1) :: st) t I L R Q := wp_go rfl
theorem i137_59 {x y : Int32} : WP V 137 59 ls (.int y :: .int x :: st) t I L R Q = WP V 137 60 ls (.int (x + y) :: st) t I L R Q := wp_go rfl
theorem i137_60 {w0 w1 w2 w4 w5 : Value} {x : Int32} : WP V 137 60 [w0, w1, w2, .int x, w4, w5] st t I L R Q = WP V 137 61 [w0, w1, w2, .int x, w4, w5] (.int x :: st) t I L R Q := wp_go rfl
theorem i137_61 {k j : Nat} {x : Int32} (h2 : m_ar k 2 612 = true) (h1 : k < t) (h3 : j < 612) : WP V 137 61 ls (.int x :: .int (nI j) :: .ref k :: st) t I L R Q = WP V 137 62 ls st t (m_sc I k (m_sc (I k) j x)) L R Q := wp_iastore rfl (by decide) h1 h2 h3
theorem i137_62 {w1 w2 w3 w4 w5 : Value} {x : Nat} : WP V 137 62 [.ref x, w1, w2, w3, w4, w5] st t I L R Q = WP V 137 63 [.ref x, w1, w2, w3, w4, w5] (.ref x :: st) t I L R Q := wp_go rfl
theorem i137_63 {k : Nat} (h1 : k < t) (h2 : m_ob k 8 = true) : WP V 137 63 ls (.ref k :: st) t I L R Q = WP V 137 64 ls (m_rv (R k 0) :: st) t I L R Q := wp_getR rfl (by decide) h1 h2
theorem i137_64 {w0 w1 w2 w3 w5 : Value} {x : Int32} : WP V 137 64 [w0, w1, w2, w3, .int x, w5] st t I L R Q = WP V 137 65 [w0, w1, w2, w3, .int x, w5] (.int x :: st) t I L R Q := wp_go rfl
theorem i137_65  : WP V 137 65 ls st t I L R Q = WP V 137 66 ls (.int (nI 3) :: st) t I L R Q := wp_go rfl
theorem i137_66 {x y : Int32} : WP V 137 66 ls (.int y :: .int x :: st) t I L R Q = WP V 137 67 ls (.int (x + y) :: st) t I L R Q := wp_go rfl
theorem i137_67  : WP V 137 67 ls st t I L R Q = WP V 137 68 ls (.int (nI 2) :: st) t I L R Q := wp_go rfl
theorem i137_68 {x y : Int32} : WP V 137 68 ls (.int y :: .int x :: st) t I L R Q = WP V 137 69 ls (.int (x + y) :: st) t I L R Q := wp_go rfl
theorem i137_69 {w1 w2 w3 w4 w5 : Value} {x : Nat} : WP V 137 69 [.ref x, w1, w2, w3, w4, w5] st t I L R Q = WP V 137 70 [.ref x, w1, w2, w3, w4, w5] (.ref x :: st) t I L R Q := wp_go rfl
theorem i137_70 {k : Nat} (h1 : k < t) (h2 : m_ob k 8 = true) : WP V 137 70 ls (.ref k :: st) t I L R Q = WP V 137 71 ls (m_rv (R k 0) :: st) t I L R Q := wp_getR rfl (by decide) h1 h2
theorem i137_71  : WP V 137 71 ls st t I L R Q = WP V 137 72 ls (.int (nI 144) :: st) t I L R Q := wp_go rfl
theorem i137_72 {k j : Nat} (h2 : m_ar k 2 612 = true) (h1 : k < t) (h3 : j < 612) : WP V 137 72 ls (.int (nI j) :: .ref k :: st) t I L R Q = WP V 137 73 ls (.int (I k j) :: st) t I L R Q := wp_iaload rfl (by decide) h1 h2 h3
theorem i137_73 {k j : Nat} {x : Int32} (h2 : m_ar k 2 612 = true) (h1 : k < t) (h3 : j < 612) : WP V 137 73 ls (.int x :: .int (nI j) :: .ref k :: st) t I L R Q = WP V 137 74 ls st t (m_sc I k (m_sc (I k) j x)) L R Q := wp_iastore rfl (by decide) h1 h2 h3
theorem i137_74 {w1 w2 w3 w4 w5 : Value} {x : Nat} : WP V 137 74 [.ref x, w1, w2, w3, w4, w5] st t I L R Q = WP V 137 75 [.ref x, w1, w2, w3, w4, w5] (.ref x :: st) t I L R Q := wp_go rfl
theorem i137_75 {k : Nat} (h1 : k < t) (h2 : m_ob k 8 = true) : WP V 137 75 ls (.ref k :: st) t I L R Q = WP V 137 76 ls (m_rv (R k 0) :: st) t I L R Q := wp_getR rfl (by decide) h1 h2
theorem i137_76 {w0 w1 w2 w3 w5 : Value} {x : Int32} : WP V 137 76 [w0, w1, w2, w3, .int x, w5] st t I L R Q = WP V 137 77 [w0, w1, w2, w3, .int x, w5] (.int x :: st) t I L R Q := wp_go rfl
theorem i137_77  : WP V 137 77 ls st t I L R Q = WP V 137 78 ls (.int (nI 15) :: st) t I L R Q := wp_go rfl
theorem i137_78 {x y : Int32} : WP V 137 78 ls (.int y :: .int x :: st) t I L R Q = WP V 137 79 ls (.int (x + y) :: st) t I L R Q := wp_go rfl
theorem i137_79 {w1 w2 w3 w4 w5 : Value} {x : Nat} : WP V 137 79 [.ref x, w1, w2, w3, w4, w5] st t I L R Q = WP V 137 80 [.ref x, w1, w2, w3, w4, w5] (.ref x :: st) t I L R Q := wp_go rfl
theorem i137_80 {k : Nat} (h1 : k < t) (h2 : m_ob k 8 = true) : WP V 137 80 ls (.ref k :: st) t I L R Q = WP V 137 81 ls (m_rv (R k 0) :: st) t I L R Q := wp_getR rfl (by decide) h1 h2
theorem i137_81 {w0 w1 w2 w3 w5 : Value} {x : Int32} : WP V 137 81 [w0, w1, w2, w3, .int x, w5] st t I L R Q = WP V 137 82 [w0, w1, w2, w3, .int x, w5] (.int x :: st) t I L R Q := wp_go rfl
theorem i137_82  : WP V 137 82 ls st t I L R Q = WP V 137 83 ls (.int (nI 15) :: st) t I L R Q := wp_go rfl
theorem i137_83 {x y : Int32} : WP V 137 83 ls (.int y :: .int x :: st) t I L R Q = WP V 137 84 ls (.int (x + y) :: st) t I L R Q := wp_go rfl
theorem i137_84 {k j : Nat} (h2 : m_ar k 2 612 = true) (h1 : k < t) (h3 : j < 612) : WP V 137 84 ls (.int (nI j) :: .ref k :: st) t I L R Q = WP V 137 85 ls (.int (I k j) :: st) t I L R Q := wp_iaload rfl (by decide) h1 h2 h3
theorem i137_85  : WP V 137 85 ls st t I L R Q = WP V 137 86 ls (.int (nI 4) :: st) t I L R Q := wp_go rfl
theorem i137_86 {x y : Int32} : WP V 137 86 ls (.int y :: .int x :: st) t I L R Q = if y ≤ x then WP V 137 96 ls st t I L R Q else WP V 137 87 ls st t I L R Q := wp_br (c := m_cc .ge x y) rfl rfl
theorem i137_87 {w1 w2 w3 w4 w5 : Value} {x : Nat} : WP V 137 87 [.ref x, w1, w2, w3, w4, w5] st t I L R Q = WP V 137 88 [.ref x, w1, w2, w3, w4, w5] (.ref x :: st) t I L R Q := wp_go rfl
theorem i137_88 {k : Nat} (h1 : k < t) (h2 : m_ob k 8 = true) : WP V 137 88 ls (.ref k :: st) t I L R Q = WP V 137 89 ls (m_rv (R k 0) :: st) t I L R Q := wp_getR rfl (by decide) h1 h2
theorem i137_89 {w0 w1 w2 w3 w5 : Value} {x : Int32} : WP V 137 89 [w0, w1, w2, w3, .int x, w5] st t I L R Q = WP V 137 90 [w0, w1, w2, w3, .int x, w5] (.int x :: st) t I L R Q := wp_go rfl
theorem i137_90  : WP V 137 90 ls st t I L R Q = WP V 137 91 ls (.int (nI 15) :: st) t I L R Q := wp_go rfl
theorem i137_91 {x y : Int32} : WP V 137 91 ls (.int y :: .int x :: st) t I L R Q = WP V 137 92 ls (.int (x + y) :: st) t I L R Q := wp_go rfl
theorem i137_92 {k j : Nat} (h2 : m_ar k 2 612 = true) (h1 : k < t) (h3 : j < 612) : WP V 137 92 ls (.int (nI j) :: .ref k :: st) t I L R Q = WP V 137 93 ls (.int (I k j) :: st) t I L R Q := wp_iaload rfl (by decide) h1 h2 h3
theorem i137_93  : WP V 137 93 ls st t I L R Q = WP V 137 94 ls (.int (nI 1) :: st) t I L R Q := wp_go rfl
theorem i137_94 {x y : Int32} : WP V 137 94 ls (.int y :: .int x :: st) t I L R Q = WP V 137 95 ls (.int (x + y) :: st) t I L R Q := wp_go rfl
theorem i137_95  : WP V 137 95 ls st t I L R Q = WP V 137 97 ls st t I L R Q := wp_go rfl
theorem i137_96  : WP V 137 96 ls st t I L R Q = WP V 137 97 ls (.int (nI 4) :: st) t I L R Q := wp_go rfl
theorem i137_97 {k j : Nat} {x : Int32} (h2 : m_ar k 2 612 = true) (h1 : k < t) (h3 : j < 612) : WP V 137 97 ls (.int x :: .int (nI j) :: .ref k :: st) t I L R Q = WP V 137 98 ls st t (m_sc I k (m_sc (I k) j x)) L R Q := wp_iastore rfl (by decide) h1 h2 h3
theorem i137_98  : WP V 137 98 ls [] t I L R Q = Q none t I L R := wp_rtv rfl rfl
-- TransactionCellsModel.disown(I)V
theorem i138_0  : WP V 138 0 ls st t I L R Q = WP V 138 1 ls (.int (nI 0) :: st) t I L R Q := wp_go rfl
theorem i138_1 {p : Int32} {w0 w2 w3 : Value} {x : Int32} : WP V 138 1 [w0, .int p, w2, w3] (.int x :: st) t I L R Q = WP V 138 2 [w0, .int p, .int x, w3] st t I L R Q := wp_go rfl
theorem i138_2 {w0 w1 w3 : Value} {x : Int32} : WP V 138 2 [w0, w1, .int x, w3] st t I L R Q = WP V 138 3 [w0, w1, .int x, w3] (.int x :: st) t I L R Q := wp_go rfl
theorem i138_3  : WP V 138 3 ls st t I L R Q = WP V 138 4 ls (.int (nI 8) :: st) t I L R Q := wp_go rfl
theorem i138_4 {x y : Int32} : WP V 138 4 ls (.int y :: .int x :: st) t I L R Q = if y ≤ x then WP V 138 32 ls st t I L R Q else WP V 138 5 ls st t I L R Q := wp_br (c := m_cc .ge x y) rfl rfl
theorem i138_5 {w0 w1 w3 : Value} {x : Int32} : WP V 138 5 [w0, w1, .int x, w3] st t I L R Q = WP V 138 6 [w0, w1, .int x, w3] (.int x :: st) t I L R Q := wp_go rfl
theorem i138_6 {x0 : Int32}  : WP V 138 6 ls [.int x0] t I L R Q = WPC V 112 [.int x0] 138 7 ls [] t I L R Q := wp_cls (wp_ics rfl (by decide)) (by decide) (Nat.le_of_ble_eq_true rfl) rfl rfl (Nat.le_of_ble_eq_true rfl) (Nat.le_of_ble_eq_true rfl)
theorem i138_7 {p : Int32} {w0 w1 w3 : Value} {x : Int32} : WP V 138 7 [w0, w1, .int p, w3] (.int x :: st) t I L R Q = WP V 138 8 [w0, w1, .int p, .int x] st t I L R Q := wp_go rfl
theorem i138_8 {w1 w2 w3 : Value} {x : Nat} : WP V 138 8 [.ref x, w1, w2, w3] st t I L R Q = WP V 138 9 [.ref x, w1, w2, w3] (.ref x :: st) t I L R Q := wp_go rfl
theorem i138_9 {k : Nat} (h1 : k < t) (h2 : m_ob k 8 = true) : WP V 138 9 ls (.ref k :: st) t I L R Q = WP V 138 10 ls (m_rv (R k 0) :: st) t I L R Q := wp_getR rfl (by decide) h1 h2
theorem i138_10 {w0 w1 w2 : Value} {x : Int32} : WP V 138 10 [w0, w1, w2, .int x] st t I L R Q = WP V 138 11 [w0, w1, w2, .int x] (.int x :: st) t I L R Q := wp_go rfl
theorem i138_11  : WP V 138 11 ls st t I L R Q = WP V 138 12 ls (.int (nI 16) :: st) t I L R Q := wp_go rfl
theorem i138_12 {x y : Int32} : WP V 138 12 ls (.int y :: .int x :: st) t I L R Q = WP V 138 13 ls (.int (x + y) :: st) t I L R Q := wp_go rfl
theorem i138_13 {w1 w2 w3 : Value} {x : Nat} : WP V 138 13 [.ref x, w1, w2, w3] st t I L R Q = WP V 138 14 [.ref x, w1, w2, w3] (.ref x :: st) t I L R Q := wp_go rfl
theorem i138_14 {k : Nat} (h1 : k < t) (h2 : m_ob k 8 = true) : WP V 138 14 ls (.ref k :: st) t I L R Q = WP V 138 15 ls (m_rv (R k 0) :: st) t I L R Q := wp_getR rfl (by decide) h1 h2
theorem i138_15 {w0 w1 w2 : Value} {x : Int32} : WP V 138 15 [w0, w1, w2, .int x] st t I L R Q = WP V 138 16 [w0, w1, w2, .int x] (.int x :: st) t I L R Q := wp_go rfl
theorem i138_16  : WP V 138 16 ls st t I L R Q = WP V 138 17 ls (.int (nI 16) :: st) t I L R Q := wp_go rfl
theorem i138_17 {x y : Int32} : WP V 138 17 ls (.int y :: .int x :: st) t I L R Q = WP V 138 18 ls (.int (x + y) :: st) t I L R Q := wp_go rfl
theorem i138_18 {k j : Nat} (h2 : m_ar k 2 612 = true) (h1 : k < t) (h3 : j < 612) : WP V 138 18 ls (.int (nI j) :: .ref k :: st) t I L R Q = WP V 138 19 ls (.int (I k j) :: st) t I L R Q := wp_iaload rfl (by decide) h1 h2 h3
theorem i138_19 {w0 w2 w3 : Value} {x : Int32} : WP V 138 19 [w0, .int x, w2, w3] st t I L R Q = WP V 138 20 [w0, .int x, w2, w3] (.int x :: st) t I L R Q := wp_go rfl
theorem i138_20 {x y : Int32} : WP V 138 20 ls (.int y :: .int x :: st) t I L R Q = if x = y then WP V 138 21 ls st t I L R Q else WP V 138 23 ls st t I L R Q := wp_brn (c := m_cc .ne x y) rfl rfl
theorem i138_21  : WP V 138 21 ls st t I L R Q = WP V 138 22 ls (.int (-1) :: st) t I L R Q := wp_go rfl
theorem i138_22  : WP V 138 22 ls st t I L R Q = WP V 138 29 ls st t I L R Q := wp_go rfl
theorem i138_23 {w1 w2 w3 : Value} {x : Nat} : WP V 138 23 [.ref x, w1, w2, w3] st t I L R Q = WP V 138 24 [.ref x, w1, w2, w3] (.ref x :: st) t I L R Q := wp_go rfl
theorem i138_24 {k : Nat} (h1 : k < t) (h2 : m_ob k 8 = true) : WP V 138 24 ls (.ref k :: st) t I L R Q = WP V 138 25 ls (m_rv (R k 0) :: st) t I L R Q := wp_getR rfl (by decide) h1 h2
theorem i138_25 {w0 w1 w2 : Value} {x : Int32} : WP V 138 25 [w0, w1, w2, .int x] st t I L R Q = WP V 138 26 [w0, w1, w2, .int x] (.int x :: st) t I L R Q := wp_go rfl
theorem i138_26  : WP V 138 26 ls st t I L R Q = WP V 138 27 ls (.int (nI 16) :: st) t I L R Q := wp_go rfl
theorem i138_27 {x y : Int32} : WP V 138 27 ls (.int y :: .int x :: st) t I L R Q = WP V 138 28 ls (.int (x + y) :: st) t I L R Q := wp_go rfl
theorem i138_28 {k j : Nat} (h2 : m_ar k 2 612 = true) (h1 : k < t) (h3 : j < 612) : WP V 138 28 ls (.int (nI j) :: .ref k :: st) t I L R Q = WP V 138 29 ls (.int (I k j) :: st) t I L R Q := wp_iaload rfl (by decide) h1 h2 h3
theorem i138_29 {k j : Nat} {x : Int32} (h2 : m_ar k 2 612 = true) (h1 : k < t) (h3 : j < 612) : WP V 138 29 ls (.int x :: .int (nI j) :: .ref k :: st) t I L R Q = WP V 138 30 ls st t (m_sc I k (m_sc (I k) j x)) L R Q := wp_iastore rfl (by decide) h1 h2 h3
theorem i138_30 {p : Int32} {w0 w3 : Value} {x : Int32} : WP V 138 30 [w0, .int p, .int x, w3] st t I L R Q = WP V 138 31 [w0, .int p, .int (x + (nI 1)), w3] st t I L R Q := wp_go rfl
theorem i138_31  : WP V 138 31 ls st t I L R Q = WP V 138 2 ls st t I L R Q := wp_go rfl
theorem i138_32  : WP V 138 32 ls [] t I L R Q = Q none t I L R := wp_rtv rfl rfl
-- TransactionCellsModel.unlock(I)V
theorem i139_0 {w1 : Value} {x : Nat} : WP V 139 0 [.ref x, w1] st t I L R Q = WP V 139 1 [.ref x, w1] (.ref x :: st) t I L R Q := wp_go rfl
theorem i139_1 {k : Nat} (h1 : k < t) (h2 : m_ob k 8 = true) : WP V 139 1 ls (.ref k :: st) t I L R Q = WP V 139 2 ls (m_rv (R k 0) :: st) t I L R Q := wp_getR rfl (by decide) h1 h2
theorem i139_2  : WP V 139 2 ls st t I L R Q = WP V 139 3 ls (.int (nI 145) :: st) t I L R Q := wp_go rfl
theorem i139_3 {w1 : Value} {x : Nat} : WP V 139 3 [.ref x, w1] st t I L R Q = WP V 139 4 [.ref x, w1] (.ref x :: st) t I L R Q := wp_go rfl
theorem i139_4 {k : Nat} (h1 : k < t) (h2 : m_ob k 8 = true) : WP V 139 4 ls (.ref k :: st) t I L R Q = WP V 139 5 ls (m_rv (R k 0) :: st) t I L R Q := wp_getR rfl (by decide) h1 h2
theorem i139_5  : WP V 139 5 ls st t I L R Q = WP V 139 6 ls (.int (nI 145) :: st) t I L R Q := wp_go rfl
theorem i139_6 {k j : Nat} (h2 : m_ar k 2 612 = true) (h1 : k < t) (h3 : j < 612) : WP V 139 6 ls (.int (nI j) :: .ref k :: st) t I L R Q = WP V 139 7 ls (.int (I k j) :: st) t I L R Q := wp_iaload rfl (by decide) h1 h2 h3
theorem i139_7 {w0 : Value} {x : Int32} : WP V 139 7 [w0, .int x] st t I L R Q = WP V 139 8 [w0, .int x] (.int x :: st) t I L R Q := wp_go rfl
theorem i139_8 {x y : Int32} : WP V 139 8 ls (.int y :: .int x :: st) t I L R Q = if x = y then WP V 139 9 ls st t I L R Q else WP V 139 11 ls st t I L R Q := wp_brn (c := m_cc .ne x y) rfl rfl
theorem i139_9  : WP V 139 9 ls st t I L R Q = WP V 139 10 ls (.int (-1) :: st) t I L R Q := wp_go rfl
theorem i139_10  : WP V 139 10 ls st t I L R Q = WP V 139 15 ls st t I L R Q := wp_go rfl
theorem i139_11 {w1 : Value} {x : Nat} : WP V 139 11 [.ref x, w1] st t I L R Q = WP V 139 12 [.ref x, w1] (.ref x :: st) t I L R Q := wp_go rfl
theorem i139_12 {k : Nat} (h1 : k < t) (h2 : m_ob k 8 = true) : WP V 139 12 ls (.ref k :: st) t I L R Q = WP V 139 13 ls (m_rv (R k 0) :: st) t I L R Q := wp_getR rfl (by decide) h1 h2
theorem i139_13  : WP V 139 13 ls st t I L R Q = WP V 139 14 ls (.int (nI 145) :: st) t I L R Q := wp_go rfl
theorem i139_14 {k j : Nat} (h2 : m_ar k 2 612 = true) (h1 : k < t) (h3 : j < 612) : WP V 139 14 ls (.int (nI j) :: .ref k :: st) t I L R Q = WP V 139 15 ls (.int (I k j) :: st) t I L R Q := wp_iaload rfl (by decide) h1 h2 h3
theorem i139_15 {k j : Nat} {x : Int32} (h2 : m_ar k 2 612 = true) (h1 : k < t) (h3 : j < 612) : WP V 139 15 ls (.int x :: .int (nI j) :: .ref k :: st) t I L R Q = WP V 139 16 ls st t (m_sc I k (m_sc (I k) j x)) L R Q := wp_iastore rfl (by decide) h1 h2 h3
theorem i139_16  : WP V 139 16 ls [] t I L R Q = Q none t I L R := wp_rtv rfl rfl
-- TransactionCellsModel.hasChanged(I)Z
theorem i140_0  : WP V 140 0 ls st t I L R Q = WP V 140 1 ls (.int (nI 0) :: st) t I L R Q := wp_go rfl
theorem i140_1 {p : Int32} {w0 w2 w3 w4 : Value} {x : Int32} : WP V 140 1 [w0, .int p, w2, w3, w4] (.int x :: st) t I L R Q = WP V 140 2 [w0, .int p, .int x, w3, w4] st t I L R Q := wp_go rfl
theorem i140_2  : WP V 140 2 ls st t I L R Q = WP V 140 3 ls (.int (nI 0) :: st) t I L R Q := wp_go rfl
theorem i140_3 {p : Int32} {w0 w1 w3 w4 : Value} {x : Int32} : WP V 140 3 [w0, w1, .int p, w3, w4] (.int x :: st) t I L R Q = WP V 140 4 [w0, w1, .int p, .int x, w4] st t I L R Q := wp_go rfl
theorem i140_4 {w0 w1 w2 w4 : Value} {x : Int32} : WP V 140 4 [w0, w1, w2, .int x, w4] st t I L R Q = WP V 140 5 [w0, w1, w2, .int x, w4] (.int x :: st) t I L R Q := wp_go rfl
theorem i140_5  : WP V 140 5 ls st t I L R Q = WP V 140 6 ls (.int (nI 8) :: st) t I L R Q := wp_go rfl
theorem i140_6 {x y : Int32} : WP V 140 6 ls (.int y :: .int x :: st) t I L R Q = if y ≤ x then WP V 140 37 ls st t I L R Q else WP V 140 7 ls st t I L R Q := wp_br (c := m_cc .ge x y) rfl rfl
theorem i140_7 {w1 w2 w3 w4 : Value} {x : Nat} : WP V 140 7 [.ref x, w1, w2, w3, w4] st t I L R Q = WP V 140 8 [.ref x, w1, w2, w3, w4] (.ref x :: st) t I L R Q := wp_go rfl
theorem i140_8 {k : Nat} (h1 : k < t) (h2 : m_ob k 8 = true) : WP V 140 8 ls (.ref k :: st) t I L R Q = WP V 140 9 ls (m_rv (R k 0) :: st) t I L R Q := wp_getR rfl (by decide) h1 h2
theorem i140_9 {w0 w2 w3 w4 : Value} {x : Int32} : WP V 140 9 [w0, .int x, w2, w3, w4] st t I L R Q = WP V 140 10 [w0, .int x, w2, w3, w4] (.int x :: st) t I L R Q := wp_go rfl
theorem i140_10 {x0 : Int32} {r0 : Nat} : WP V 140 10 ls [.int x0, .ref r0] t I L R Q = WPC V 113 [.int x0] 140 11 ls [.ref r0] t I L R Q := wp_cls (wp_ics rfl (by decide)) (by decide) (Nat.le_of_ble_eq_true rfl) rfl rfl (Nat.le_of_ble_eq_true rfl) (Nat.le_of_ble_eq_true rfl)
theorem i140_11  : WP V 140 11 ls st t I L R Q = WP V 140 12 ls (.int (nI 111) :: st) t I L R Q := wp_go rfl
theorem i140_12 {x y : Int32} : WP V 140 12 ls (.int y :: .int x :: st) t I L R Q = WP V 140 13 ls (.int (x + y) :: st) t I L R Q := wp_go rfl
theorem i140_13 {w0 w1 w2 w4 : Value} {x : Int32} : WP V 140 13 [w0, w1, w2, .int x, w4] st t I L R Q = WP V 140 14 [w0, w1, w2, .int x, w4] (.int x :: st) t I L R Q := wp_go rfl
theorem i140_14 {x y : Int32} : WP V 140 14 ls (.int y :: .int x :: st) t I L R Q = WP V 140 15 ls (.int (x + y) :: st) t I L R Q := wp_go rfl
theorem i140_15 {k j : Nat} (h2 : m_ar k 2 612 = true) (h1 : k < t) (h3 : j < 612) : WP V 140 15 ls (.int (nI j) :: .ref k :: st) t I L R Q = WP V 140 16 ls (.int (I k j) :: st) t I L R Q := wp_iaload rfl (by decide) h1 h2 h3
theorem i140_16 {p : Int32} {w0 w1 w2 w4 : Value} {x : Int32} : WP V 140 16 [w0, w1, w2, .int p, w4] (.int x :: st) t I L R Q = WP V 140 17 [w0, w1, w2, .int p, .int x] st t I L R Q := wp_go rfl
theorem i140_17 {w0 w1 w3 w4 : Value} {x : Int32} : WP V 140 17 [w0, w1, .int x, w3, w4] st t I L R Q = WP V 140 18 [w0, w1, .int x, w3, w4] (.int x :: st) t I L R Q := wp_go rfl
theorem i140_18 {x : Int32} : WP V 140 18 ls (.int x :: st) t I L R Q = if x = nI 0 then WP V 140 19 ls st t I L R Q else WP V 140 31 ls st t I L R Q := wp_brn (c := m_cc .ne x 0) rfl rfl
theorem i140_19 {w0 w1 w2 w3 : Value} {x : Int32} : WP V 140 19 [w0, w1, w2, w3, .int x] st t I L R Q = WP V 140 20 [w0, w1, w2, w3, .int x] (.int x :: st) t I L R Q := wp_go rfl
theorem i140_20  : WP V 140 20 ls st t I L R Q = WP V 140 21 ls (.int (-1) :: st) t I L R Q := wp_go rfl
theorem i140_21 {x y : Int32} : WP V 140 21 ls (.int y :: .int x :: st) t I L R Q = if x = y then WP V 140 33 ls st t I L R Q else WP V 140 22 ls st t I L R Q := wp_br (c := m_cc .eq x y) rfl rfl
theorem i140_22 {w0 w1 w2 w3 : Value} {x : Int32} : WP V 140 22 [w0, w1, w2, w3, .int x] st t I L R Q = WP V 140 23 [w0, w1, w2, w3, .int x] (.int x :: st) t I L R Q := wp_go rfl
theorem i140_23 {w1 w2 w3 w4 : Value} {x : Nat} : WP V 140 23 [.ref x, w1, w2, w3, w4] st t I L R Q = WP V 140 24 [.ref x, w1, w2, w3, w4] (.ref x :: st) t I L R Q := wp_go rfl
theorem i140_24 {k : Nat} (h1 : k < t) (h2 : m_ob k 8 = true) : WP V 140 24 ls (.ref k :: st) t I L R Q = WP V 140 25 ls (m_rv (R k 0) :: st) t I L R Q := wp_getR rfl (by decide) h1 h2
theorem i140_25 {w0 w1 w2 w4 : Value} {x : Int32} : WP V 140 25 [w0, w1, w2, .int x, w4] st t I L R Q = WP V 140 26 [w0, w1, w2, .int x, w4] (.int x :: st) t I L R Q := wp_go rfl
theorem i140_26 {x0 : Int32} {r0 : Nat} {r1 : Int32} : WP V 140 26 ls [.int x0, .ref r0, .int r1] t I L R Q = WPC V 112 [.int x0] 140 27 ls [.ref r0, .int r1] t I L R Q := wp_cls (wp_ics rfl (by decide)) (by decide) (Nat.le_of_ble_eq_true rfl) rfl rfl (Nat.le_of_ble_eq_true rfl) (Nat.le_of_ble_eq_true rfl)
theorem i140_27  : WP V 140 27 ls st t I L R Q = WP V 140 28 ls (.int (nI 2) :: st) t I L R Q := wp_go rfl
theorem i140_28 {x y : Int32} : WP V 140 28 ls (.int y :: .int x :: st) t I L R Q = WP V 140 29 ls (.int (x + y) :: st) t I L R Q := wp_go rfl
theorem i140_29 {k j : Nat} (h2 : m_ar k 2 612 = true) (h1 : k < t) (h3 : j < 612) : WP V 140 29 ls (.int (nI j) :: .ref k :: st) t I L R Q = WP V 140 30 ls (.int (I k j) :: st) t I L R Q := wp_iaload rfl (by decide) h1 h2 h3
theorem i140_30 {x y : Int32} : WP V 140 30 ls (.int y :: .int x :: st) t I L R Q = if x = y then WP V 140 33 ls st t I L R Q else WP V 140 31 ls st t I L R Q := wp_br (c := m_cc .eq x y) rfl rfl
theorem i140_31  : WP V 140 31 ls st t I L R Q = WP V 140 32 ls (.int (nI 1) :: st) t I L R Q := wp_go rfl
theorem i140_32  : WP V 140 32 ls st t I L R Q = WP V 140 34 ls st t I L R Q := wp_go rfl
theorem i140_33  : WP V 140 33 ls st t I L R Q = WP V 140 34 ls (.int (nI 0) :: st) t I L R Q := wp_go rfl
theorem i140_34 {p : Int32} {w0 w2 w3 w4 : Value} {x : Int32} : WP V 140 34 [w0, .int p, w2, w3, w4] (.int x :: st) t I L R Q = WP V 140 35 [w0, .int p, .int x, w3, w4] st t I L R Q := wp_go rfl
theorem i140_35 {p : Int32} {w0 w1 w4 : Value} {x : Int32} : WP V 140 35 [w0, w1, .int p, .int x, w4] st t I L R Q = WP V 140 36 [w0, w1, .int p, .int (x + (nI 1)), w4] st t I L R Q := wp_go rfl
theorem i140_36  : WP V 140 36 ls st t I L R Q = WP V 140 4 ls st t I L R Q := wp_go rfl
theorem i140_37 {w0 w1 w3 w4 : Value} {x : Int32} : WP V 140 37 [w0, w1, .int x, w3, w4] st t I L R Q = WP V 140 38 [w0, w1, .int x, w3, w4] (.int x :: st) t I L R Q := wp_go rfl
theorem i140_38 {x : Int32} (h : m_01 x = true) : WP V 140 38 ls [.int x] t I L R Q = Q (some (.int x)) t I L R := wp_rtz rfl rfl h
-- TransactionCellsModel.dropScopes(II)V
theorem i141_0 {w0 w2 w3 w4 w5 : Value} {x : Int32} : WP V 141 0 [w0, .int x, w2, w3, w4, w5] st t I L R Q = WP V 141 1 [w0, .int x, w2, w3, w4, w5] (.int x :: st) t I L R Q := wp_go rfl
theorem i141_1 {x0 : Int32}  : WP V 141 1 ls [.int x0] t I L R Q = WPC V 113 [.int x0] 141 2 ls [] t I L R Q := wp_cls (wp_ics rfl (by decide)) (by decide) (Nat.le_of_ble_eq_true rfl) rfl rfl (Nat.le_of_ble_eq_true rfl) (Nat.le_of_ble_eq_true rfl)
theorem i141_2 {p : Int32} {w0 w1 w3 w4 w5 : Value} {x : Int32} : WP V 141 2 [w0, w1, .int p, w3, w4, w5] (.int x :: st) t I L R Q = WP V 141 3 [w0, w1, .int p, .int x, w4, w5] st t I L R Q := wp_go rfl
theorem i141_3 {w0 w1 w3 w4 w5 : Value} {x : Int32} : WP V 141 3 [w0, w1, .int x, w3, w4, w5] st t I L R Q = WP V 141 4 [w0, w1, .int x, w3, w4, w5] (.int x :: st) t I L R Q := wp_go rfl
theorem i141_4 {p : Int32} {w0 w1 w2 w4 w5 : Value} {x : Int32} : WP V 141 4 [w0, w1, w2, .int p, w4, w5] (.int x :: st) t I L R Q = WP V 141 5 [w0, w1, w2, .int p, .int x, w5] st t I L R Q := wp_go rfl
theorem i141_5 {w0 w1 w2 w3 w5 : Value} {x : Int32} : WP V 141 5 [w0, w1, w2, w3, .int x, w5] st t I L R Q = WP V 141 6 [w0, w1, w2, w3, .int x, w5] (.int x :: st) t I L R Q := wp_go rfl
theorem i141_6 {w1 w2 w3 w4 w5 : Value} {x : Nat} : WP V 141 6 [.ref x, w1, w2, w3, w4, w5] st t I L R Q = WP V 141 7 [.ref x, w1, w2, w3, w4, w5] (.ref x :: st) t I L R Q := wp_go rfl
theorem i141_7 {k : Nat} (h1 : k < t) (h2 : m_ob k 8 = true) : WP V 141 7 ls (.ref k :: st) t I L R Q = WP V 141 8 ls (m_rv (R k 0) :: st) t I L R Q := wp_getR rfl (by decide) h1 h2
theorem i141_8 {w0 w1 w2 w4 w5 : Value} {x : Int32} : WP V 141 8 [w0, w1, w2, .int x, w4, w5] st t I L R Q = WP V 141 9 [w0, w1, w2, .int x, w4, w5] (.int x :: st) t I L R Q := wp_go rfl
theorem i141_9  : WP V 141 9 ls st t I L R Q = WP V 141 10 ls (.int (nI 8) :: st) t I L R Q := wp_go rfl
theorem i141_10 {x y : Int32} : WP V 141 10 ls (.int y :: .int x :: st) t I L R Q = WP V 141 11 ls (.int (x + y) :: st) t I L R Q := wp_go rfl
theorem i141_11 {k j : Nat} (h2 : m_ar k 2 612 = true) (h1 : k < t) (h3 : j < 612) : WP V 141 11 ls (.int (nI j) :: .ref k :: st) t I L R Q = WP V 141 12 ls (.int (I k j) :: st) t I L R Q := wp_iaload rfl (by decide) h1 h2 h3
theorem i141_12 {x y : Int32} : WP V 141 12 ls (.int y :: .int x :: st) t I L R Q = if y ≤ x then WP V 141 35 ls st t I L R Q else WP V 141 13 ls st t I L R Q := wp_br (c := m_cc .ge x y) rfl rfl
theorem i141_13  : WP V 141 13 ls st t I L R Q = WP V 141 14 ls (.int (nI 0) :: st) t I L R Q := wp_go rfl
theorem i141_14 {p : Int32} {w0 w1 w2 w3 w5 : Value} {x : Int32} : WP V 141 14 [w0, w1, w2, w3, .int p, w5] (.int x :: st) t I L R Q = WP V 141 15 [w0, w1, w2, w3, .int p, .int x] st t I L R Q := wp_go rfl
theorem i141_15 {w0 w1 w2 w3 w4 : Value} {x : Int32} : WP V 141 15 [w0, w1, w2, w3, w4, .int x] st t I L R Q = WP V 141 16 [w0, w1, w2, w3, w4, .int x] (.int x :: st) t I L R Q := wp_go rfl
theorem i141_16  : WP V 141 16 ls st t I L R Q = WP V 141 17 ls (.int (nI 23) :: st) t I L R Q := wp_go rfl
theorem i141_17 {x y : Int32} : WP V 141 17 ls (.int y :: .int x :: st) t I L R Q = if y ≤ x then WP V 141 33 ls st t I L R Q else WP V 141 18 ls st t I L R Q := wp_br (c := m_cc .ge x y) rfl rfl
theorem i141_18 {w1 w2 w3 w4 w5 : Value} {x : Nat} : WP V 141 18 [.ref x, w1, w2, w3, w4, w5] st t I L R Q = WP V 141 19 [.ref x, w1, w2, w3, w4, w5] (.ref x :: st) t I L R Q := wp_go rfl
theorem i141_19 {k : Nat} (h1 : k < t) (h2 : m_ob k 8 = true) : WP V 141 19 ls (.ref k :: st) t I L R Q = WP V 141 20 ls (m_rv (R k 0) :: st) t I L R Q := wp_getR rfl (by decide) h1 h2
theorem i141_20 {w0 w1 w2 w4 w5 : Value} {x : Int32} : WP V 141 20 [w0, w1, w2, .int x, w4, w5] st t I L R Q = WP V 141 21 [w0, w1, w2, .int x, w4, w5] (.int x :: st) t I L R Q := wp_go rfl
theorem i141_21  : WP V 141 21 ls st t I L R Q = WP V 141 22 ls (.int (nI 9) :: st) t I L R Q := wp_go rfl
theorem i141_22 {x y : Int32} : WP V 141 22 ls (.int y :: .int x :: st) t I L R Q = WP V 141 23 ls (.int (x + y) :: st) t I L R Q := wp_go rfl
theorem i141_23  : WP V 141 23 ls st t I L R Q = WP V 141 24 ls (.int (nI 23) :: st) t I L R Q := wp_go rfl
theorem i141_24 {w0 w1 w2 w3 w5 : Value} {x : Int32} : WP V 141 24 [w0, w1, w2, w3, .int x, w5] st t I L R Q = WP V 141 25 [w0, w1, w2, w3, .int x, w5] (.int x :: st) t I L R Q := wp_go rfl
theorem i141_25 {x y : Int32} : WP V 141 25 ls (.int y :: .int x :: st) t I L R Q = WP V 141 26 ls (.int (x * y) :: st) t I L R Q := wp_go rfl
theorem i141_26 {x y : Int32} : WP V 141 26 ls (.int y :: .int x :: st) t I L R Q = WP V 141 27 ls (.int (x + y) :: st) t I L R Q := wp_go rfl
theorem i141_27 {w0 w1 w2 w3 w4 : Value} {x : Int32} : WP V 141 27 [w0, w1, w2, w3, w4, .int x] st t I L R Q = WP V 141 28 [w0, w1, w2, w3, w4, .int x] (.int x :: st) t I L R Q := wp_go rfl
theorem i141_28 {x y : Int32} : WP V 141 28 ls (.int y :: .int x :: st) t I L R Q = WP V 141 29 ls (.int (x + y) :: st) t I L R Q := wp_go rfl
theorem i141_29  : WP V 141 29 ls st t I L R Q = WP V 141 30 ls (.int (nI 0) :: st) t I L R Q := wp_go rfl
theorem i141_30 {k j : Nat} {x : Int32} (h2 : m_ar k 2 612 = true) (h1 : k < t) (h3 : j < 612) : WP V 141 30 ls (.int x :: .int (nI j) :: .ref k :: st) t I L R Q = WP V 141 31 ls st t (m_sc I k (m_sc (I k) j x)) L R Q := wp_iastore rfl (by decide) h1 h2 h3
theorem i141_31 {p : Int32} {w0 w1 w2 w3 : Value} {x : Int32} : WP V 141 31 [w0, w1, w2, w3, .int p, .int x] st t I L R Q = WP V 141 32 [w0, w1, w2, w3, .int p, .int (x + (nI 1))] st t I L R Q := wp_go rfl
theorem i141_32  : WP V 141 32 ls st t I L R Q = WP V 141 15 ls st t I L R Q := wp_go rfl
theorem i141_33 {p : Int32} {w0 w1 w2 w5 : Value} {x : Int32} : WP V 141 33 [w0, w1, w2, .int p, .int x, w5] st t I L R Q = WP V 141 34 [w0, w1, w2, .int p, .int (x + (nI 1)), w5] st t I L R Q := wp_go rfl
theorem i141_34  : WP V 141 34 ls st t I L R Q = WP V 141 5 ls st t I L R Q := wp_go rfl
theorem i141_35 {w1 w2 w3 w4 w5 : Value} {x : Nat} : WP V 141 35 [.ref x, w1, w2, w3, w4, w5] st t I L R Q = WP V 141 36 [.ref x, w1, w2, w3, w4, w5] (.ref x :: st) t I L R Q := wp_go rfl
theorem i141_36 {k : Nat} (h1 : k < t) (h2 : m_ob k 8 = true) : WP V 141 36 ls (.ref k :: st) t I L R Q = WP V 141 37 ls (m_rv (R k 0) :: st) t I L R Q := wp_getR rfl (by decide) h1 h2
theorem i141_37 {w0 w1 w2 w4 w5 : Value} {x : Int32} : WP V 141 37 [w0, w1, w2, .int x, w4, w5] st t I L R Q = WP V 141 38 [w0, w1, w2, .int x, w4, w5] (.int x :: st) t I L R Q := wp_go rfl
theorem i141_38  : WP V 141 38 ls st t I L R Q = WP V 141 39 ls (.int (nI 8) :: st) t I L R Q := wp_go rfl
theorem i141_39 {x y : Int32} : WP V 141 39 ls (.int y :: .int x :: st) t I L R Q = WP V 141 40 ls (.int (x + y) :: st) t I L R Q := wp_go rfl
theorem i141_40 {w0 w1 w3 w4 w5 : Value} {x : Int32} : WP V 141 40 [w0, w1, .int x, w3, w4, w5] st t I L R Q = WP V 141 41 [w0, w1, .int x, w3, w4, w5] (.int x :: st) t I L R Q := wp_go rfl
theorem i141_41 {k j : Nat} {x : Int32} (h2 : m_ar k 2 612 = true) (h1 : k < t) (h3 : j < 612) : WP V 141 41 ls (.int x :: .int (nI j) :: .ref k :: st) t I L R Q = WP V 141 42 ls st t (m_sc I k (m_sc (I k) j x)) L R Q := wp_iastore rfl (by decide) h1 h2 h3
theorem i141_42  : WP V 141 42 ls [] t I L R Q = Q none t I L R := wp_rtv rfl rfl
-- TransactionCellsModel.begins(I)V
theorem i142_0 {w0 w2 w3 : Value} {x : Int32} : WP V 142 0 [w0, .int x, w2, w3] st t I L R Q = WP V 142 1 [w0, .int x, w2, w3] (.int x :: st) t I L R Q := wp_go rfl
theorem i142_1 {x0 : Int32}  : WP V 142 1 ls [.int x0] t I L R Q = WPC V 113 [.int x0] 142 2 ls [] t I L R Q := wp_cls (wp_ics rfl (by decide)) (by decide) (Nat.le_of_ble_eq_true rfl) rfl rfl (Nat.le_of_ble_eq_true rfl) (Nat.le_of_ble_eq_true rfl)
theorem i142_2 {p : Int32} {w0 w2 w3 : Value} {x : Int32} : WP V 142 2 [w0, .int p, w2, w3] (.int x :: st) t I L R Q = WP V 142 3 [w0, .int p, .int x, w3] st t I L R Q := wp_go rfl
theorem i142_3 {w1 w2 w3 : Value} {x : Nat} : WP V 142 3 [.ref x, w1, w2, w3] st t I L R Q = WP V 142 4 [.ref x, w1, w2, w3] (.ref x :: st) t I L R Q := wp_go rfl
theorem i142_4 {w0 w2 w3 : Value} {x : Int32} : WP V 142 4 [w0, .int x, w2, w3] st t I L R Q = WP V 142 5 [w0, .int x, w2, w3] (.int x :: st) t I L R Q := wp_go rfl
theorem i142_5 {x0 : Int32} {x1 : Nat}  (h1 : x1 < t) (h2 : m_ob x1 8 = true) : WP V 142 5 ls [.int x0, .ref x1] t I L R Q = WPC V 117 [.ref x1, .int x0] 142 6 ls [] t I L R Q := wp_cls (wp_icv rfl rfl h1 h2) (by decide) (Nat.le_of_ble_eq_true rfl) rfl rfl (Nat.le_of_ble_eq_true rfl) (Nat.le_of_ble_eq_true rfl)
theorem i142_6 {w1 w2 w3 : Value} {x : Nat} : WP V 142 6 [.ref x, w1, w2, w3] st t I L R Q = WP V 142 7 [.ref x, w1, w2, w3] (.ref x :: st) t I L R Q := wp_go rfl
theorem i142_7 {w0 w2 w3 : Value} {x : Int32} : WP V 142 7 [w0, .int x, w2, w3] st t I L R Q = WP V 142 8 [w0, .int x, w2, w3] (.int x :: st) t I L R Q := wp_go rfl
theorem i142_8 {x0 : Int32} {x1 : Nat}  (h1 : x1 < t) (h2 : m_ob x1 8 = true) : WP V 142 8 ls [.int x0, .ref x1] t I L R Q = WPC V 118 [.ref x1, .int x0] 142 9 ls [] t I L R Q := wp_cls (wp_icv rfl rfl h1 h2) (by decide) (Nat.le_of_ble_eq_true rfl) rfl rfl (Nat.le_of_ble_eq_true rfl) (Nat.le_of_ble_eq_true rfl)
theorem i142_9 {w1 w2 w3 : Value} {x : Nat} : WP V 142 9 [.ref x, w1, w2, w3] st t I L R Q = WP V 142 10 [.ref x, w1, w2, w3] (.ref x :: st) t I L R Q := wp_go rfl
theorem i142_10 {w0 w2 w3 : Value} {x : Int32} : WP V 142 10 [w0, .int x, w2, w3] st t I L R Q = WP V 142 11 [w0, .int x, w2, w3] (.int x :: st) t I L R Q := wp_go rfl
theorem i142_11 {x0 : Int32} {x1 : Nat}  (h1 : x1 < t) (h2 : m_ob x1 8 = true) : WP V 142 11 ls [.int x0, .ref x1] t I L R Q = WPC V 138 [.ref x1, .int x0] 142 12 ls [] t I L R Q := wp_cls (wp_icv rfl rfl h1 h2) (by decide) (Nat.le_of_ble_eq_true rfl) rfl rfl (Nat.le_of_ble_eq_true rfl) (Nat.le_of_ble_eq_true rfl)
theorem i142_12 {w1 w2 w3 : Value} {x : Nat} : WP V 142 12 [.ref x, w1, w2, w3] st t I L R Q = WP V 142 13 [.ref x, w1, w2, w3] (.ref x :: st) t I L R Q := wp_go rfl
theorem i142_13 {k : Nat} (h1 : k < t) (h2 : m_ob k 8 = true) : WP V 142 13 ls (.ref k :: st) t I L R Q = WP V 142 14 ls (m_rv (R k 0) :: st) t I L R Q := wp_getR rfl (by decide) h1 h2
theorem i142_14 {w0 w1 w3 : Value} {x : Int32} : WP V 142 14 [w0, w1, .int x, w3] st t I L R Q = WP V 142 15 [w0, w1, .int x, w3] (.int x :: st) t I L R Q := wp_go rfl
theorem i142_15  : WP V 142 15 ls st t I L R Q = WP V 142 16 ls (.int (nI 103) :: st) t I L R Q := wp_go rfl
theorem i142_16 {x y : Int32} : WP V 142 16 ls (.int y :: .int x :: st) t I L R Q = WP V 142 17 ls (.int (x + y) :: st) t I L R Q := wp_go rfl
theorem i142_17 {w1 w2 w3 : Value} {x : Nat} : WP V 142 17 [.ref x, w1, w2, w3] st t I L R Q = WP V 142 18 [.ref x, w1, w2, w3] (.ref x :: st) t I L R Q := wp_go rfl
theorem i142_18 {k : Nat} (h1 : k < t) (h2 : m_ob k 8 = true) : WP V 142 18 ls (.ref k :: st) t I L R Q = WP V 142 19 ls (m_rv (R k 0) :: st) t I L R Q := wp_getR rfl (by decide) h1 h2
theorem i142_19  : WP V 142 19 ls st t I L R Q = WP V 142 20 ls (.int (nI 144) :: st) t I L R Q := wp_go rfl
theorem i142_20 {k j : Nat} (h2 : m_ar k 2 612 = true) (h1 : k < t) (h3 : j < 612) : WP V 142 20 ls (.int (nI j) :: .ref k :: st) t I L R Q = WP V 142 21 ls (.int (I k j) :: st) t I L R Q := wp_iaload rfl (by decide) h1 h2 h3
theorem i142_21 {k j : Nat} {x : Int32} (h2 : m_ar k 2 612 = true) (h1 : k < t) (h3 : j < 612) : WP V 142 21 ls (.int x :: .int (nI j) :: .ref k :: st) t I L R Q = WP V 142 22 ls st t (m_sc I k (m_sc (I k) j x)) L R Q := wp_iastore rfl (by decide) h1 h2 h3
theorem i142_22  : WP V 142 22 ls st t I L R Q = WP V 142 23 ls (.int (nI 0) :: st) t I L R Q := wp_go rfl
theorem i142_23 {p : Int32} {w0 w1 w3 : Value} {x : Int32} : WP V 142 23 [w0, w1, .int p, w3] (.int x :: st) t I L R Q = WP V 142 24 [w0, w1, .int p, .int x] st t I L R Q := wp_go rfl
theorem i142_24 {w0 w1 w2 : Value} {x : Int32} : WP V 142 24 [w0, w1, w2, .int x] st t I L R Q = WP V 142 25 [w0, w1, w2, .int x] (.int x :: st) t I L R Q := wp_go rfl
theorem i142_25  : WP V 142 25 ls st t I L R Q = WP V 142 26 ls (.int (nI 4) :: st) t I L R Q := wp_go rfl
theorem i142_26 {x y : Int32} : WP V 142 26 ls (.int y :: .int x :: st) t I L R Q = if y ≤ x then WP V 142 45 ls st t I L R Q else WP V 142 27 ls st t I L R Q := wp_br (c := m_cc .ge x y) rfl rfl
theorem i142_27 {w1 w2 w3 : Value} {x : Nat} : WP V 142 27 [.ref x, w1, w2, w3] st t I L R Q = WP V 142 28 [.ref x, w1, w2, w3] (.ref x :: st) t I L R Q := wp_go rfl
theorem i142_28 {k : Nat} (h1 : k < t) (h2 : m_ob k 8 = true) : WP V 142 28 ls (.ref k :: st) t I L R Q = WP V 142 29 ls (m_rv (R k 0) :: st) t I L R Q := wp_getR rfl (by decide) h1 h2
theorem i142_29 {w0 w1 w3 : Value} {x : Int32} : WP V 142 29 [w0, w1, .int x, w3] st t I L R Q = WP V 142 30 [w0, w1, .int x, w3] (.int x :: st) t I L R Q := wp_go rfl
theorem i142_30  : WP V 142 30 ls st t I L R Q = WP V 142 31 ls (.int (nI 3) :: st) t I L R Q := wp_go rfl
theorem i142_31 {x y : Int32} : WP V 142 31 ls (.int y :: .int x :: st) t I L R Q = WP V 142 32 ls (.int (x + y) :: st) t I L R Q := wp_go rfl
theorem i142_32 {w0 w1 w2 : Value} {x : Int32} : WP V 142 32 [w0, w1, w2, .int x] st t I L R Q = WP V 142 33 [w0, w1, w2, .int x] (.int x :: st) t I L R Q := wp_go rfl
theorem i142_33 {x y : Int32} : WP V 142 33 ls (.int y :: .int x :: st) t I L R Q = WP V 142 34 ls (.int (x + y) :: st) t I L R Q := wp_go rfl
theorem i142_34 {w1 w2 w3 : Value} {x : Nat} : WP V 142 34 [.ref x, w1, w2, w3] st t I L R Q = WP V 142 35 [.ref x, w1, w2, w3] (.ref x :: st) t I L R Q := wp_go rfl
theorem i142_35 {k : Nat} (h1 : k < t) (h2 : m_ob k 8 = true) : WP V 142 35 ls (.ref k :: st) t I L R Q = WP V 142 36 ls (m_rv (R k 0) :: st) t I L R Q := wp_getR rfl (by decide) h1 h2
theorem i142_36 {w0 w1 w3 : Value} {x : Int32} : WP V 142 36 [w0, w1, .int x, w3] st t I L R Q = WP V 142 37 [w0, w1, .int x, w3] (.int x :: st) t I L R Q := wp_go rfl
theorem i142_37  : WP V 142 37 ls st t I L R Q = WP V 142 38 ls (.int (nI 106) :: st) t I L R Q := wp_go rfl
theorem i142_38 {x y : Int32} : WP V 142 38 ls (.int y :: .int x :: st) t I L R Q = WP V 142 39 ls (.int (x + y) :: st) t I L R Q := wp_go rfl
theorem i142_39 {w0 w1 w2 : Value} {x : Int32} : WP V 142 39 [w0, w1, w2, .int x] st t I L R Q = WP V 142 40 [w0, w1, w2, .int x] (.int x :: st) t I L R Q := wp_go rfl
theorem i142_40 {x y : Int32} : WP V 142 40 ls (.int y :: .int x :: st) t I L R Q = WP V 142 41 ls (.int (x + y) :: st) t I L R Q := wp_go rfl
theorem i142_41 {k j : Nat} (h2 : m_ar k 2 612 = true) (h1 : k < t) (h3 : j < 612) : WP V 142 41 ls (.int (nI j) :: .ref k :: st) t I L R Q = WP V 142 42 ls (.int (I k j) :: st) t I L R Q := wp_iaload rfl (by decide) h1 h2 h3
theorem i142_42 {k j : Nat} {x : Int32} (h2 : m_ar k 2 612 = true) (h1 : k < t) (h3 : j < 612) : WP V 142 42 ls (.int x :: .int (nI j) :: .ref k :: st) t I L R Q = WP V 142 43 ls st t (m_sc I k (m_sc (I k) j x)) L R Q := wp_iastore rfl (by decide) h1 h2 h3
theorem i142_43 {p : Int32} {w0 w1 : Value} {x : Int32} : WP V 142 43 [w0, w1, .int p, .int x] st t I L R Q = WP V 142 44 [w0, w1, .int p, .int (x + (nI 1))] st t I L R Q := wp_go rfl
theorem i142_44  : WP V 142 44 ls st t I L R Q = WP V 142 24 ls st t I L R Q := wp_go rfl
theorem i142_45 {w1 w2 w3 : Value} {x : Nat} : WP V 142 45 [.ref x, w1, w2, w3] st t I L R Q = WP V 142 46 [.ref x, w1, w2, w3] (.ref x :: st) t I L R Q := wp_go rfl
theorem i142_46 {w0 w2 w3 : Value} {x : Int32} : WP V 142 46 [w0, .int x, w2, w3] st t I L R Q = WP V 142 47 [w0, .int x, w2, w3] (.int x :: st) t I L R Q := wp_go rfl
theorem i142_47 {w1 w2 w3 : Value} {x : Nat} : WP V 142 47 [.ref x, w1, w2, w3] st t I L R Q = WP V 142 48 [.ref x, w1, w2, w3] (.ref x :: st) t I L R Q := wp_go rfl
theorem i142_48 {k : Nat} (h1 : k < t) (h2 : m_ob k 8 = true) : WP V 142 48 ls (.ref k :: st) t I L R Q = WP V 142 49 ls (m_rv (R k 0) :: st) t I L R Q := wp_getR rfl (by decide) h1 h2
theorem i142_49 {w0 w1 w3 : Value} {x : Int32} : WP V 142 49 [w0, w1, .int x, w3] st t I L R Q = WP V 142 50 [w0, w1, .int x, w3] (.int x :: st) t I L R Q := wp_go rfl
theorem i142_50  : WP V 142 50 ls st t I L R Q = WP V 142 51 ls (.int (nI 110) :: st) t I L R Q := wp_go rfl
theorem i142_51 {x y : Int32} : WP V 142 51 ls (.int y :: .int x :: st) t I L R Q = WP V 142 52 ls (.int (x + y) :: st) t I L R Q := wp_go rfl
theorem i142_52 {k j : Nat} (h2 : m_ar k 2 612 = true) (h1 : k < t) (h3 : j < 612) : WP V 142 52 ls (.int (nI j) :: .ref k :: st) t I L R Q = WP V 142 53 ls (.int (I k j) :: st) t I L R Q := wp_iaload rfl (by decide) h1 h2 h3
theorem i142_53 {x0 : Int32} {x1 : Int32} {x2 : Nat}  (h1 : x2 < t) (h2 : m_ob x2 8 = true) : WP V 142 53 ls [.int x0, .int x1, .ref x2] t I L R Q = WPC V 141 [.ref x2, .int x1, .int x0] 142 54 ls [] t I L R Q := wp_cls (wp_icv rfl rfl h1 h2) (by decide) (Nat.le_of_ble_eq_true rfl) rfl rfl (Nat.le_of_ble_eq_true rfl) (Nat.le_of_ble_eq_true rfl)
theorem i142_54 {w1 w2 w3 : Value} {x : Nat} : WP V 142 54 [.ref x, w1, w2, w3] st t I L R Q = WP V 142 55 [.ref x, w1, w2, w3] (.ref x :: st) t I L R Q := wp_go rfl
theorem i142_55 {k : Nat} (h1 : k < t) (h2 : m_ob k 8 = true) : WP V 142 55 ls (.ref k :: st) t I L R Q = WP V 142 56 ls (m_rv (R k 0) :: st) t I L R Q := wp_getR rfl (by decide) h1 h2
theorem i142_56 {w0 w1 w3 : Value} {x : Int32} : WP V 142 56 [w0, w1, .int x, w3] st t I L R Q = WP V 142 57 [w0, w1, .int x, w3] (.int x :: st) t I L R Q := wp_go rfl
theorem i142_57  : WP V 142 57 ls st t I L R Q = WP V 142 58 ls (.int (nI 1) :: st) t I L R Q := wp_go rfl
theorem i142_58 {x y : Int32} : WP V 142 58 ls (.int y :: .int x :: st) t I L R Q = WP V 142 59 ls (.int (x + y) :: st) t I L R Q := wp_go rfl
theorem i142_59 {w1 w2 w3 : Value} {x : Nat} : WP V 142 59 [.ref x, w1, w2, w3] st t I L R Q = WP V 142 60 [.ref x, w1, w2, w3] (.ref x :: st) t I L R Q := wp_go rfl
theorem i142_60 {k : Nat} (h1 : k < t) (h2 : m_ob k 8 = true) : WP V 142 60 ls (.ref k :: st) t I L R Q = WP V 142 61 ls (m_rv (R k 0) :: st) t I L R Q := wp_getR rfl (by decide) h1 h2
theorem i142_61 {w0 w1 w3 : Value} {x : Int32} : WP V 142 61 [w0, w1, .int x, w3] st t I L R Q = WP V 142 62 [w0, w1, .int x, w3] (.int x :: st) t I L R Q := wp_go rfl
theorem i142_62  : WP V 142 62 ls st t I L R Q = WP V 142 63 ls (.int (nI 105) :: st) t I L R Q := wp_go rfl
theorem i142_63 {x y : Int32} : WP V 142 63 ls (.int y :: .int x :: st) t I L R Q = WP V 142 64 ls (.int (x + y) :: st) t I L R Q := wp_go rfl
theorem i142_64 {k j : Nat} (h2 : m_ar k 2 612 = true) (h1 : k < t) (h3 : j < 612) : WP V 142 64 ls (.int (nI j) :: .ref k :: st) t I L R Q = WP V 142 65 ls (.int (I k j) :: st) t I L R Q := wp_iaload rfl (by decide) h1 h2 h3
theorem i142_65 {k j : Nat} {x : Int32} (h2 : m_ar k 2 612 = true) (h1 : k < t) (h3 : j < 612) : WP V 142 65 ls (.int x :: .int (nI j) :: .ref k :: st) t I L R Q = WP V 142 66 ls st t (m_sc I k (m_sc (I k) j x)) L R Q := wp_iastore rfl (by decide) h1 h2 h3
theorem i142_66 {w1 w2 w3 : Value} {x : Nat} : WP V 142 66 [.ref x, w1, w2, w3] st t I L R Q = WP V 142 67 [.ref x, w1, w2, w3] (.ref x :: st) t I L R Q := wp_go rfl
theorem i142_67 {k : Nat} (h1 : k < t) (h2 : m_ob k 8 = true) : WP V 142 67 ls (.ref k :: st) t I L R Q = WP V 142 68 ls (m_rv (R k 0) :: st) t I L R Q := wp_getR rfl (by decide) h1 h2
theorem i142_68 {w0 w1 w3 : Value} {x : Int32} : WP V 142 68 [w0, w1, .int x, w3] st t I L R Q = WP V 142 69 [w0, w1, .int x, w3] (.int x :: st) t I L R Q := wp_go rfl
theorem i142_69  : WP V 142 69 ls st t I L R Q = WP V 142 70 ls (.int (nI 151) :: st) t I L R Q := wp_go rfl
theorem i142_70 {x y : Int32} : WP V 142 70 ls (.int y :: .int x :: st) t I L R Q = WP V 142 71 ls (.int (x + y) :: st) t I L R Q := wp_go rfl
theorem i142_71 {v0 : Int32} {v1 : Nat} : WP V 142 71 ls (.int v0 :: .ref v1 :: st) t I L R Q = WP V 142 72 ls (.int v0 :: .ref v1 :: .int v0 :: .ref v1 :: st) t I L R Q := wp_go rfl
theorem i142_72 {k j : Nat} (h2 : m_ar k 2 612 = true) (h1 : k < t) (h3 : j < 612) : WP V 142 72 ls (.int (nI j) :: .ref k :: st) t I L R Q = WP V 142 73 ls (.int (I k j) :: st) t I L R Q := wp_iaload rfl (by decide) h1 h2 h3
theorem i142_73  : WP V 142 73 ls st t I L R Q = WP V 142 74 ls (.int (nI 1) :: st) t I L R Q := wp_go rfl
theorem i142_74 {x y : Int32} : WP V 142 74 ls (.int y :: .int x :: st) t I L R Q = WP V 142 75 ls (.int (x + y) :: st) t I L R Q := wp_go rfl
theorem i142_75 {k j : Nat} {x : Int32} (h2 : m_ar k 2 612 = true) (h1 : k < t) (h3 : j < 612) : WP V 142 75 ls (.int x :: .int (nI j) :: .ref k :: st) t I L R Q = WP V 142 76 ls st t (m_sc I k (m_sc (I k) j x)) L R Q := wp_iastore rfl (by decide) h1 h2 h3
theorem i142_76 {w1 w2 w3 : Value} {x : Nat} : WP V 142 76 [.ref x, w1, w2, w3] st t I L R Q = WP V 142 77 [.ref x, w1, w2, w3] (.ref x :: st) t I L R Q := wp_go rfl
theorem i142_77 {v0 : Nat} : WP V 142 77 ls (.ref v0 :: st) t I L R Q = WP V 142 78 ls (.ref v0 :: .ref v0 :: st) t I L R Q := wp_go rfl
theorem i142_78 {k : Nat} (h1 : k < t) (h2 : m_ob k 8 = true) : WP V 142 78 ls (.ref k :: st) t I L R Q = WP V 142 79 ls (.int (I k 3) :: st) t I L R Q := wp_getI rfl (by decide) h1 h2
theorem i142_79 {w1 w2 w3 : Value} {x : Nat} : WP V 142 79 [.ref x, w1, w2, w3] st t I L R Q = WP V 142 80 [.ref x, w1, w2, w3] (.ref x :: st) t I L R Q := wp_go rfl
theorem i142_80 {k : Nat} (h1 : k < t) (h2 : m_ob k 8 = true) : WP V 142 80 ls (.ref k :: st) t I L R Q = WP V 142 81 ls (.int (I k 5) :: st) t I L R Q := wp_getI rfl (by decide) h1 h2
theorem i142_81 {x : Int32} : WP V 142 81 ls (.int x :: st) t I L R Q = if x = nI 0 then WP V 142 84 ls st t I L R Q else WP V 142 82 ls st t I L R Q := wp_br (c := m_cc .eq x 0) rfl rfl
theorem i142_82  : WP V 142 82 ls st t I L R Q = WP V 142 83 ls (.int (nI 0) :: st) t I L R Q := wp_go rfl
theorem i142_83  : WP V 142 83 ls st t I L R Q = WP V 142 85 ls st t I L R Q := wp_go rfl
theorem i142_84  : WP V 142 84 ls st t I L R Q = WP V 142 85 ls (.int (nI 1) :: st) t I L R Q := wp_go rfl
theorem i142_85 {x y : Int32} : WP V 142 85 ls (.int y :: .int x :: st) t I L R Q = WP V 142 86 ls (.int (x + y) :: st) t I L R Q := wp_go rfl
theorem i142_86 {k : Nat} {x : Int32} (h1 : k < t) (h2 : m_ob k 8 = true) : WP V 142 86 ls (.int x :: .ref k :: st) t I L R Q = WP V 142 87 ls st t (m_sc I k (m_sc (I k) 3 x)) L R Q := wp_putI rfl (by decide) h1 h2
theorem i142_87  : WP V 142 87 ls [] t I L R Q = Q none t I L R := wp_rtv rfl rfl
-- TransactionCellsModel.counts(I)V
theorem i143_0 {w0 w2 w3 w4 : Value} {x : Int32} : WP V 143 0 [w0, .int x, w2, w3, w4] st t I L R Q = WP V 143 1 [w0, .int x, w2, w3, w4] (.int x :: st) t I L R Q := wp_go rfl
theorem i143_1 {x0 : Int32}  : WP V 143 1 ls [.int x0] t I L R Q = WPC V 113 [.int x0] 143 2 ls [] t I L R Q := wp_cls (wp_ics rfl (by decide)) (by decide) (Nat.le_of_ble_eq_true rfl) rfl rfl (Nat.le_of_ble_eq_true rfl) (Nat.le_of_ble_eq_true rfl)
theorem i143_2 {p : Int32} {w0 w2 w3 w4 : Value} {x : Int32} : WP V 143 2 [w0, .int p, w2, w3, w4] (.int x :: st) t I L R Q = WP V 143 3 [w0, .int p, .int x, w3, w4] st t I L R Q := wp_go rfl
theorem i143_3  : WP V 143 3 ls st t I L R Q = WP V 143 4 ls (.int (nI 0) :: st) t I L R Q := wp_go rfl
theorem i143_4 {p : Int32} {w0 w1 w3 w4 : Value} {x : Int32} : WP V 143 4 [w0, w1, .int p, w3, w4] (.int x :: st) t I L R Q = WP V 143 5 [w0, w1, .int p, .int x, w4] st t I L R Q := wp_go rfl
theorem i143_5  : WP V 143 5 ls st t I L R Q = WP V 143 6 ls (.int (nI 0) :: st) t I L R Q := wp_go rfl
theorem i143_6 {p : Int32} {w0 w1 w2 w4 : Value} {x : Int32} : WP V 143 6 [w0, w1, w2, .int p, w4] (.int x :: st) t I L R Q = WP V 143 7 [w0, w1, w2, .int p, .int x] st t I L R Q := wp_go rfl
theorem i143_7 {w0 w1 w2 w3 : Value} {x : Int32} : WP V 143 7 [w0, w1, w2, w3, .int x] st t I L R Q = WP V 143 8 [w0, w1, w2, w3, .int x] (.int x :: st) t I L R Q := wp_go rfl
theorem i143_8  : WP V 143 8 ls st t I L R Q = WP V 143 9 ls (.int (nI 8) :: st) t I L R Q := wp_go rfl
theorem i143_9 {x y : Int32} : WP V 143 9 ls (.int y :: .int x :: st) t I L R Q = if y ≤ x then WP V 143 30 ls st t I L R Q else WP V 143 10 ls st t I L R Q := wp_br (c := m_cc .ge x y) rfl rfl
theorem i143_10 {w0 w1 w2 w4 : Value} {x : Int32} : WP V 143 10 [w0, w1, w2, .int x, w4] st t I L R Q = WP V 143 11 [w0, w1, w2, .int x, w4] (.int x :: st) t I L R Q := wp_go rfl
theorem i143_11 {x : Int32} : WP V 143 11 ls (.int x :: st) t I L R Q = if x = nI 0 then WP V 143 12 ls st t I L R Q else WP V 143 24 ls st t I L R Q := wp_brn (c := m_cc .ne x 0) rfl rfl
theorem i143_12 {w1 w2 w3 w4 : Value} {x : Nat} : WP V 143 12 [.ref x, w1, w2, w3, w4] st t I L R Q = WP V 143 13 [.ref x, w1, w2, w3, w4] (.ref x :: st) t I L R Q := wp_go rfl
theorem i143_13 {k : Nat} (h1 : k < t) (h2 : m_ob k 8 = true) : WP V 143 13 ls (.ref k :: st) t I L R Q = WP V 143 14 ls (m_rv (R k 0) :: st) t I L R Q := wp_getR rfl (by decide) h1 h2
theorem i143_14 {w0 w1 w3 w4 : Value} {x : Int32} : WP V 143 14 [w0, w1, .int x, w3, w4] st t I L R Q = WP V 143 15 [w0, w1, .int x, w3, w4] (.int x :: st) t I L R Q := wp_go rfl
theorem i143_15  : WP V 143 15 ls st t I L R Q = WP V 143 16 ls (.int (nI 135) :: st) t I L R Q := wp_go rfl
theorem i143_16 {x y : Int32} : WP V 143 16 ls (.int y :: .int x :: st) t I L R Q = WP V 143 17 ls (.int (x + y) :: st) t I L R Q := wp_go rfl
theorem i143_17  : WP V 143 17 ls st t I L R Q = WP V 143 18 ls (.int (nI 2) :: st) t I L R Q := wp_go rfl
theorem i143_18 {w0 w1 w2 w3 : Value} {x : Int32} : WP V 143 18 [w0, w1, w2, w3, .int x] st t I L R Q = WP V 143 19 [w0, w1, w2, w3, .int x] (.int x :: st) t I L R Q := wp_go rfl
theorem i143_19 {x y : Int32} : WP V 143 19 ls (.int y :: .int x :: st) t I L R Q = WP V 143 20 ls (.int (x * y) :: st) t I L R Q := wp_go rfl
theorem i143_20 {x y : Int32} : WP V 143 20 ls (.int y :: .int x :: st) t I L R Q = WP V 143 21 ls (.int (x + y) :: st) t I L R Q := wp_go rfl
theorem i143_21 {k j : Nat} (h2 : m_ar k 2 612 = true) (h1 : k < t) (h3 : j < 612) : WP V 143 21 ls (.int (nI j) :: .ref k :: st) t I L R Q = WP V 143 22 ls (.int (I k j) :: st) t I L R Q := wp_iaload rfl (by decide) h1 h2 h3
theorem i143_22  : WP V 143 22 ls st t I L R Q = WP V 143 23 ls (.int (-1) :: st) t I L R Q := wp_go rfl
theorem i143_23 {x y : Int32} : WP V 143 23 ls (.int y :: .int x :: st) t I L R Q = if x = y then WP V 143 26 ls st t I L R Q else WP V 143 24 ls st t I L R Q := wp_br (c := m_cc .eq x y) rfl rfl
theorem i143_24  : WP V 143 24 ls st t I L R Q = WP V 143 25 ls (.int (nI 1) :: st) t I L R Q := wp_go rfl
theorem i143_25  : WP V 143 25 ls st t I L R Q = WP V 143 27 ls st t I L R Q := wp_go rfl
theorem i143_26  : WP V 143 26 ls st t I L R Q = WP V 143 27 ls (.int (nI 0) :: st) t I L R Q := wp_go rfl
theorem i143_27 {p : Int32} {w0 w1 w3 w4 : Value} {x : Int32} : WP V 143 27 [w0, w1, .int p, w3, w4] (.int x :: st) t I L R Q = WP V 143 28 [w0, w1, .int p, .int x, w4] st t I L R Q := wp_go rfl
theorem i143_28 {p : Int32} {w0 w1 w2 : Value} {x : Int32} : WP V 143 28 [w0, w1, w2, .int p, .int x] st t I L R Q = WP V 143 29 [w0, w1, w2, .int p, .int (x + (nI 1))] st t I L R Q := wp_go rfl
theorem i143_29  : WP V 143 29 ls st t I L R Q = WP V 143 7 ls st t I L R Q := wp_go rfl
theorem i143_30 {w0 w1 w2 w4 : Value} {x : Int32} : WP V 143 30 [w0, w1, w2, .int x, w4] st t I L R Q = WP V 143 31 [w0, w1, w2, .int x, w4] (.int x :: st) t I L R Q := wp_go rfl
theorem i143_31 {x : Int32} : WP V 143 31 ls (.int x :: st) t I L R Q = if x = nI 0 then WP V 143 84 ls st t I L R Q else WP V 143 32 ls st t I L R Q := wp_br (c := m_cc .eq x 0) rfl rfl
theorem i143_32 {w1 w2 w3 w4 : Value} {x : Nat} : WP V 143 32 [.ref x, w1, w2, w3, w4] st t I L R Q = WP V 143 33 [.ref x, w1, w2, w3, w4] (.ref x :: st) t I L R Q := wp_go rfl
theorem i143_33 {k : Nat} (h1 : k < t) (h2 : m_ob k 8 = true) : WP V 143 33 ls (.ref k :: st) t I L R Q = WP V 143 34 ls (m_rv (R k 0) :: st) t I L R Q := wp_getR rfl (by decide) h1 h2
theorem i143_34  : WP V 143 34 ls st t I L R Q = WP V 143 35 ls (.int (nI 144) :: st) t I L R Q := wp_go rfl
theorem i143_35 {v0 : Int32} {v1 : Nat} : WP V 143 35 ls (.int v0 :: .ref v1 :: st) t I L R Q = WP V 143 36 ls (.int v0 :: .ref v1 :: .int v0 :: .ref v1 :: st) t I L R Q := wp_go rfl
theorem i143_36 {k j : Nat} (h2 : m_ar k 2 612 = true) (h1 : k < t) (h3 : j < 612) : WP V 143 36 ls (.int (nI j) :: .ref k :: st) t I L R Q = WP V 143 37 ls (.int (I k j) :: st) t I L R Q := wp_iaload rfl (by decide) h1 h2 h3
theorem i143_37  : WP V 143 37 ls st t I L R Q = WP V 143 38 ls (.int (nI 1) :: st) t I L R Q := wp_go rfl
theorem i143_38 {x y : Int32} : WP V 143 38 ls (.int y :: .int x :: st) t I L R Q = WP V 143 39 ls (.int (x + y) :: st) t I L R Q := wp_go rfl
theorem i143_39 {k j : Nat} {x : Int32} (h2 : m_ar k 2 612 = true) (h1 : k < t) (h3 : j < 612) : WP V 143 39 ls (.int x :: .int (nI j) :: .ref k :: st) t I L R Q = WP V 143 40 ls st t (m_sc I k (m_sc (I k) j x)) L R Q := wp_iastore rfl (by decide) h1 h2 h3
theorem i143_40  : WP V 143 40 ls st t I L R Q = WP V 143 41 ls (.int (nI 0) :: st) t I L R Q := wp_go rfl
theorem i143_41 {p : Int32} {w0 w1 w2 w4 : Value} {x : Int32} : WP V 143 41 [w0, w1, w2, .int p, w4] (.int x :: st) t I L R Q = WP V 143 42 [w0, w1, w2, .int p, .int x] st t I L R Q := wp_go rfl
theorem i143_42 {w0 w1 w2 w3 : Value} {x : Int32} : WP V 143 42 [w0, w1, w2, w3, .int x] st t I L R Q = WP V 143 43 [w0, w1, w2, w3, .int x] (.int x :: st) t I L R Q := wp_go rfl
theorem i143_43  : WP V 143 43 ls st t I L R Q = WP V 143 44 ls (.int (nI 8) :: st) t I L R Q := wp_go rfl
theorem i143_44 {x y : Int32} : WP V 143 44 ls (.int y :: .int x :: st) t I L R Q = if y ≤ x then WP V 143 84 ls st t I L R Q else WP V 143 45 ls st t I L R Q := wp_br (c := m_cc .ge x y) rfl rfl
theorem i143_45 {w1 w2 w3 w4 : Value} {x : Nat} : WP V 143 45 [.ref x, w1, w2, w3, w4] st t I L R Q = WP V 143 46 [.ref x, w1, w2, w3, w4] (.ref x :: st) t I L R Q := wp_go rfl
theorem i143_46 {k : Nat} (h1 : k < t) (h2 : m_ob k 8 = true) : WP V 143 46 ls (.ref k :: st) t I L R Q = WP V 143 47 ls (m_rv (R k 0) :: st) t I L R Q := wp_getR rfl (by decide) h1 h2
theorem i143_47 {w0 w1 w3 w4 : Value} {x : Int32} : WP V 143 47 [w0, w1, .int x, w3, w4] st t I L R Q = WP V 143 48 [w0, w1, .int x, w3, w4] (.int x :: st) t I L R Q := wp_go rfl
theorem i143_48  : WP V 143 48 ls st t I L R Q = WP V 143 49 ls (.int (nI 135) :: st) t I L R Q := wp_go rfl
theorem i143_49 {x y : Int32} : WP V 143 49 ls (.int y :: .int x :: st) t I L R Q = WP V 143 50 ls (.int (x + y) :: st) t I L R Q := wp_go rfl
theorem i143_50  : WP V 143 50 ls st t I L R Q = WP V 143 51 ls (.int (nI 2) :: st) t I L R Q := wp_go rfl
theorem i143_51 {w0 w1 w2 w3 : Value} {x : Int32} : WP V 143 51 [w0, w1, w2, w3, .int x] st t I L R Q = WP V 143 52 [w0, w1, w2, w3, .int x] (.int x :: st) t I L R Q := wp_go rfl
theorem i143_52 {x y : Int32} : WP V 143 52 ls (.int y :: .int x :: st) t I L R Q = WP V 143 53 ls (.int (x * y) :: st) t I L R Q := wp_go rfl
theorem i143_53 {x y : Int32} : WP V 143 53 ls (.int y :: .int x :: st) t I L R Q = WP V 143 54 ls (.int (x + y) :: st) t I L R Q := wp_go rfl
theorem i143_54 {k j : Nat} (h2 : m_ar k 2 612 = true) (h1 : k < t) (h3 : j < 612) : WP V 143 54 ls (.int (nI j) :: .ref k :: st) t I L R Q = WP V 143 55 ls (.int (I k j) :: st) t I L R Q := wp_iaload rfl (by decide) h1 h2 h3
theorem i143_55  : WP V 143 55 ls st t I L R Q = WP V 143 56 ls (.int (-1) :: st) t I L R Q := wp_go rfl
theorem i143_56 {x y : Int32} : WP V 143 56 ls (.int y :: .int x :: st) t I L R Q = if x = y then WP V 143 82 ls st t I L R Q else WP V 143 57 ls st t I L R Q := wp_br (c := m_cc .eq x y) rfl rfl
theorem i143_57 {w1 w2 w3 w4 : Value} {x : Nat} : WP V 143 57 [.ref x, w1, w2, w3, w4] st t I L R Q = WP V 143 58 [.ref x, w1, w2, w3, w4] (.ref x :: st) t I L R Q := wp_go rfl
theorem i143_58 {w0 w1 w2 w3 : Value} {x : Int32} : WP V 143 58 [w0, w1, w2, w3, .int x] st t I L R Q = WP V 143 59 [w0, w1, w2, w3, .int x] (.int x :: st) t I L R Q := wp_go rfl
theorem i143_59 {w1 w2 w3 w4 : Value} {x : Nat} : WP V 143 59 [.ref x, w1, w2, w3, w4] st t I L R Q = WP V 143 60 [.ref x, w1, w2, w3, w4] (.ref x :: st) t I L R Q := wp_go rfl
theorem i143_60 {k : Nat} (h1 : k < t) (h2 : m_ob k 8 = true) : WP V 143 60 ls (.ref k :: st) t I L R Q = WP V 143 61 ls (m_rv (R k 0) :: st) t I L R Q := wp_getR rfl (by decide) h1 h2
theorem i143_61 {w0 w1 w3 w4 : Value} {x : Int32} : WP V 143 61 [w0, w1, .int x, w3, w4] st t I L R Q = WP V 143 62 [w0, w1, .int x, w3, w4] (.int x :: st) t I L R Q := wp_go rfl
theorem i143_62  : WP V 143 62 ls st t I L R Q = WP V 143 63 ls (.int (nI 135) :: st) t I L R Q := wp_go rfl
theorem i143_63 {x y : Int32} : WP V 143 63 ls (.int y :: .int x :: st) t I L R Q = WP V 143 64 ls (.int (x + y) :: st) t I L R Q := wp_go rfl
theorem i143_64  : WP V 143 64 ls st t I L R Q = WP V 143 65 ls (.int (nI 2) :: st) t I L R Q := wp_go rfl
theorem i143_65 {w0 w1 w2 w3 : Value} {x : Int32} : WP V 143 65 [w0, w1, w2, w3, .int x] st t I L R Q = WP V 143 66 [w0, w1, w2, w3, .int x] (.int x :: st) t I L R Q := wp_go rfl
theorem i143_66 {x y : Int32} : WP V 143 66 ls (.int y :: .int x :: st) t I L R Q = WP V 143 67 ls (.int (x * y) :: st) t I L R Q := wp_go rfl
theorem i143_67 {x y : Int32} : WP V 143 67 ls (.int y :: .int x :: st) t I L R Q = WP V 143 68 ls (.int (x + y) :: st) t I L R Q := wp_go rfl
theorem i143_68 {k j : Nat} (h2 : m_ar k 2 612 = true) (h1 : k < t) (h3 : j < 612) : WP V 143 68 ls (.int (nI j) :: .ref k :: st) t I L R Q = WP V 143 69 ls (.int (I k j) :: st) t I L R Q := wp_iaload rfl (by decide) h1 h2 h3
theorem i143_69 {w1 w2 w3 w4 : Value} {x : Nat} : WP V 143 69 [.ref x, w1, w2, w3, w4] st t I L R Q = WP V 143 70 [.ref x, w1, w2, w3, w4] (.ref x :: st) t I L R Q := wp_go rfl
theorem i143_70 {k : Nat} (h1 : k < t) (h2 : m_ob k 8 = true) : WP V 143 70 ls (.ref k :: st) t I L R Q = WP V 143 71 ls (m_rv (R k 0) :: st) t I L R Q := wp_getR rfl (by decide) h1 h2
theorem i143_71 {w0 w1 w3 w4 : Value} {x : Int32} : WP V 143 71 [w0, w1, .int x, w3, w4] st t I L R Q = WP V 143 72 [w0, w1, .int x, w3, w4] (.int x :: st) t I L R Q := wp_go rfl
theorem i143_72  : WP V 143 72 ls st t I L R Q = WP V 143 73 ls (.int (nI 135) :: st) t I L R Q := wp_go rfl
theorem i143_73 {x y : Int32} : WP V 143 73 ls (.int y :: .int x :: st) t I L R Q = WP V 143 74 ls (.int (x + y) :: st) t I L R Q := wp_go rfl
theorem i143_74  : WP V 143 74 ls st t I L R Q = WP V 143 75 ls (.int (nI 2) :: st) t I L R Q := wp_go rfl
theorem i143_75 {w0 w1 w2 w3 : Value} {x : Int32} : WP V 143 75 [w0, w1, w2, w3, .int x] st t I L R Q = WP V 143 76 [w0, w1, w2, w3, .int x] (.int x :: st) t I L R Q := wp_go rfl
theorem i143_76 {x y : Int32} : WP V 143 76 ls (.int y :: .int x :: st) t I L R Q = WP V 143 77 ls (.int (x * y) :: st) t I L R Q := wp_go rfl
theorem i143_77 {x y : Int32} : WP V 143 77 ls (.int y :: .int x :: st) t I L R Q = WP V 143 78 ls (.int (x + y) :: st) t I L R Q := wp_go rfl
theorem i143_78  : WP V 143 78 ls st t I L R Q = WP V 143 79 ls (.int (nI 1) :: st) t I L R Q := wp_go rfl
theorem i143_79 {x y : Int32} : WP V 143 79 ls (.int y :: .int x :: st) t I L R Q = WP V 143 80 ls (.int (x + y) :: st) t I L R Q := wp_go rfl
theorem i143_80 {k j : Nat} (h2 : m_ar k 2 612 = true) (h1 : k < t) (h3 : j < 612) : WP V 143 80 ls (.int (nI j) :: .ref k :: st) t I L R Q = WP V 143 81 ls (.int (I k j) :: st) t I L R Q := wp_iaload rfl (by decide) h1 h2 h3
theorem i143_81 {x0 : Int32} {x1 : Int32} {x2 : Int32} {x3 : Nat}  (h1 : x3 < t) (h2 : m_ob x3 8 = true) : WP V 143 81 ls [.int x0, .int x1, .int x2, .ref x3] t I L R Q = WPC V 137 [.ref x3, .int x2, .int x1, .int x0] 143 82 ls [] t I L R Q := wp_cls (wp_icv rfl rfl h1 h2) (by decide) (Nat.le_of_ble_eq_true rfl) rfl rfl (Nat.le_of_ble_eq_true rfl) (Nat.le_of_ble_eq_true rfl)
theorem i143_82 {p : Int32} {w0 w1 w2 : Value} {x : Int32} : WP V 143 82 [w0, w1, w2, .int p, .int x] st t I L R Q = WP V 143 83 [w0, w1, w2, .int p, .int (x + (nI 1))] st t I L R Q := wp_go rfl
theorem i143_83  : WP V 143 83 ls st t I L R Q = WP V 143 42 ls st t I L R Q := wp_go rfl
theorem i143_84 {w1 w2 w3 w4 : Value} {x : Nat} : WP V 143 84 [.ref x, w1, w2, w3, w4] st t I L R Q = WP V 143 85 [.ref x, w1, w2, w3, w4] (.ref x :: st) t I L R Q := wp_go rfl
theorem i143_85 {k : Nat} (h1 : k < t) (h2 : m_ob k 8 = true) : WP V 143 85 ls (.ref k :: st) t I L R Q = WP V 143 86 ls (.int (I k 5) :: st) t I L R Q := wp_getI rfl (by decide) h1 h2
theorem i143_86 {x : Int32} : WP V 143 86 ls (.int x :: st) t I L R Q = if x = nI 0 then WP V 143 87 ls st t I L R Q else WP V 143 112 ls st t I L R Q := wp_brn (c := m_cc .ne x 0) rfl rfl
theorem i143_87 {w1 w2 w3 w4 : Value} {x : Nat} : WP V 143 87 [.ref x, w1, w2, w3, w4] st t I L R Q = WP V 143 88 [.ref x, w1, w2, w3, w4] (.ref x :: st) t I L R Q := wp_go rfl
theorem i143_88 {w0 w2 w3 w4 : Value} {x : Int32} : WP V 143 88 [w0, .int x, w2, w3, w4] st t I L R Q = WP V 143 89 [w0, .int x, w2, w3, w4] (.int x :: st) t I L R Q := wp_go rfl
theorem i143_89 {w1 w2 w3 w4 : Value} {x : Nat} : WP V 143 89 [.ref x, w1, w2, w3, w4] st t I L R Q = WP V 143 90 [.ref x, w1, w2, w3, w4] (.ref x :: st) t I L R Q := wp_go rfl
theorem i143_90 {k : Nat} (h1 : k < t) (h2 : m_ob k 8 = true) : WP V 143 90 ls (.ref k :: st) t I L R Q = WP V 143 91 ls (m_rv (R k 0) :: st) t I L R Q := wp_getR rfl (by decide) h1 h2
theorem i143_91 {w0 w1 w3 w4 : Value} {x : Int32} : WP V 143 91 [w0, w1, .int x, w3, w4] st t I L R Q = WP V 143 92 [w0, w1, .int x, w3, w4] (.int x :: st) t I L R Q := wp_go rfl
theorem i143_92  : WP V 143 92 ls st t I L R Q = WP V 143 93 ls (.int (nI 102) :: st) t I L R Q := wp_go rfl
theorem i143_93 {x y : Int32} : WP V 143 93 ls (.int y :: .int x :: st) t I L R Q = WP V 143 94 ls (.int (x + y) :: st) t I L R Q := wp_go rfl
theorem i143_94 {k j : Nat} (h2 : m_ar k 2 612 = true) (h1 : k < t) (h3 : j < 612) : WP V 143 94 ls (.int (nI j) :: .ref k :: st) t I L R Q = WP V 143 95 ls (.int (I k j) :: st) t I L R Q := wp_iaload rfl (by decide) h1 h2 h3
theorem i143_95 {w0 w1 w2 w4 : Value} {x : Int32} : WP V 143 95 [w0, w1, w2, .int x, w4] st t I L R Q = WP V 143 96 [w0, w1, w2, .int x, w4] (.int x :: st) t I L R Q := wp_go rfl
theorem i143_96 {x : Int32} : WP V 143 96 ls (.int x :: st) t I L R Q = if x = nI 0 then WP V 143 102 ls st t I L R Q else WP V 143 97 ls st t I L R Q := wp_br (c := m_cc .eq x 0) rfl rfl
theorem i143_97 {w1 w2 w3 w4 : Value} {x : Nat} : WP V 143 97 [.ref x, w1, w2, w3, w4] st t I L R Q = WP V 143 98 [.ref x, w1, w2, w3, w4] (.ref x :: st) t I L R Q := wp_go rfl
theorem i143_98 {k : Nat} (h1 : k < t) (h2 : m_ob k 8 = true) : WP V 143 98 ls (.ref k :: st) t I L R Q = WP V 143 99 ls (m_rv (R k 0) :: st) t I L R Q := wp_getR rfl (by decide) h1 h2
theorem i143_99  : WP V 143 99 ls st t I L R Q = WP V 143 100 ls (.int (nI 144) :: st) t I L R Q := wp_go rfl
theorem i143_100 {k j : Nat} (h2 : m_ar k 2 612 = true) (h1 : k < t) (h3 : j < 612) : WP V 143 100 ls (.int (nI j) :: .ref k :: st) t I L R Q = WP V 143 101 ls (.int (I k j) :: st) t I L R Q := wp_iaload rfl (by decide) h1 h2 h3
theorem i143_101  : WP V 143 101 ls st t I L R Q = WP V 143 103 ls st t I L R Q := wp_go rfl
theorem i143_102  : WP V 143 102 ls st t I L R Q = WP V 143 103 ls (.int (-1) :: st) t I L R Q := wp_go rfl
theorem i143_103 {w1 w2 w3 w4 : Value} {x : Nat} : WP V 143 103 [.ref x, w1, w2, w3, w4] st t I L R Q = WP V 143 104 [.ref x, w1, w2, w3, w4] (.ref x :: st) t I L R Q := wp_go rfl
theorem i143_104 {k : Nat} (h1 : k < t) (h2 : m_ob k 8 = true) : WP V 143 104 ls (.ref k :: st) t I L R Q = WP V 143 105 ls (m_rv (R k 0) :: st) t I L R Q := wp_getR rfl (by decide) h1 h2
theorem i143_105 {w0 w1 w3 w4 : Value} {x : Int32} : WP V 143 105 [w0, w1, .int x, w3, w4] st t I L R Q = WP V 143 106 [w0, w1, .int x, w3, w4] (.int x :: st) t I L R Q := wp_go rfl
theorem i143_106  : WP V 143 106 ls st t I L R Q = WP V 143 107 ls (.int (nI 119) :: st) t I L R Q := wp_go rfl
theorem i143_107 {x y : Int32} : WP V 143 107 ls (.int y :: .int x :: st) t I L R Q = WP V 143 108 ls (.int (x + y) :: st) t I L R Q := wp_go rfl
theorem i143_108 {w0 w1 w3 w4 : Value} {x : Int32} : WP V 143 108 [w0, w1, .int x, w3, w4] st t I L R Q = WP V 143 109 [w0, w1, .int x, w3, w4] (.int x :: st) t I L R Q := wp_go rfl
theorem i143_109  : WP V 143 109 ls st t I L R Q = WP V 143 110 ls (.int (nI 135) :: st) t I L R Q := wp_go rfl
theorem i143_110 {x y : Int32} : WP V 143 110 ls (.int y :: .int x :: st) t I L R Q = WP V 143 111 ls (.int (x + y) :: st) t I L R Q := wp_go rfl
theorem i143_111 {x0 : Int32} {x1 : Int32} {x2 : Nat} {x3 : Int32} {x4 : Int32} {x5 : Int32} {x6 : Nat}  (h1 : x6 < t) (h2 : m_ob x6 8 = true) : WP V 143 111 ls [.int x0, .int x1, .ref x2, .int x3, .int x4, .int x5, .ref x6] t I L R Q = WPC V 136 [.ref x6, .int x5, .int x4, .int x3, .ref x2, .int x1, .int x0] 143 112 ls [] t I L R Q := wp_cls (wp_icv rfl rfl h1 h2) (by decide) (Nat.le_of_ble_eq_true rfl) rfl rfl (Nat.le_of_ble_eq_true rfl) (Nat.le_of_ble_eq_true rfl)
theorem i143_112 {w1 w2 w3 w4 : Value} {x : Nat} : WP V 143 112 [.ref x, w1, w2, w3, w4] st t I L R Q = WP V 143 113 [.ref x, w1, w2, w3, w4] (.ref x :: st) t I L R Q := wp_go rfl
theorem i143_113 {w0 w2 w3 w4 : Value} {x : Int32} : WP V 143 113 [w0, .int x, w2, w3, w4] st t I L R Q = WP V 143 114 [w0, .int x, w2, w3, w4] (.int x :: st) t I L R Q := wp_go rfl
theorem i143_114 {x0 : Int32} {x1 : Nat}  (h1 : x1 < t) (h2 : m_ob x1 8 = true) : WP V 143 114 ls [.int x0, .ref x1] t I L R Q = WPC V 144 [.ref x1, .int x0] 143 115 ls [] t I L R Q := wp_cls (wp_icv rfl rfl h1 h2) (by decide) (Nat.le_of_ble_eq_true rfl) rfl rfl (Nat.le_of_ble_eq_true rfl) (Nat.le_of_ble_eq_true rfl)
theorem i143_115  : WP V 143 115 ls [] t I L R Q = Q none t I L R := wp_rtv rfl rfl
-- TransactionCellsModel.ends(I)V
theorem i144_0 {w1 w2 w3 : Value} {x : Nat} : WP V 144 0 [.ref x, w1, w2, w3] st t I L R Q = WP V 144 1 [.ref x, w1, w2, w3] (.ref x :: st) t I L R Q := wp_go rfl
theorem i144_1 {w0 w2 w3 : Value} {x : Int32} : WP V 144 1 [w0, .int x, w2, w3] st t I L R Q = WP V 144 2 [w0, .int x, w2, w3] (.int x :: st) t I L R Q := wp_go rfl
theorem i144_2 {x0 : Int32} {x1 : Nat}  (h1 : x1 < t) (h2 : m_ob x1 8 = true) : WP V 144 2 ls [.int x0, .ref x1] t I L R Q = WPC V 138 [.ref x1, .int x0] 144 3 ls [] t I L R Q := wp_cls (wp_icv rfl rfl h1 h2) (by decide) (Nat.le_of_ble_eq_true rfl) rfl rfl (Nat.le_of_ble_eq_true rfl) (Nat.le_of_ble_eq_true rfl)
theorem i144_3  : WP V 144 3 ls st t I L R Q = WP V 144 4 ls (.int (nI 0) :: st) t I L R Q := wp_go rfl
theorem i144_4 {p : Int32} {w0 w2 w3 : Value} {x : Int32} : WP V 144 4 [w0, .int p, w2, w3] (.int x :: st) t I L R Q = WP V 144 5 [w0, .int p, .int x, w3] st t I L R Q := wp_go rfl
theorem i144_5 {w0 w1 w3 : Value} {x : Int32} : WP V 144 5 [w0, w1, .int x, w3] st t I L R Q = WP V 144 6 [w0, w1, .int x, w3] (.int x :: st) t I L R Q := wp_go rfl
theorem i144_6  : WP V 144 6 ls st t I L R Q = WP V 144 7 ls (.int (nI 8) :: st) t I L R Q := wp_go rfl
theorem i144_7 {x y : Int32} : WP V 144 7 ls (.int y :: .int x :: st) t I L R Q = if y ≤ x then WP V 144 35 ls st t I L R Q else WP V 144 8 ls st t I L R Q := wp_br (c := m_cc .ge x y) rfl rfl
theorem i144_8 {w0 w1 w3 : Value} {x : Int32} : WP V 144 8 [w0, w1, .int x, w3] st t I L R Q = WP V 144 9 [w0, w1, .int x, w3] (.int x :: st) t I L R Q := wp_go rfl
theorem i144_9 {x0 : Int32}  : WP V 144 9 ls [.int x0] t I L R Q = WPC V 112 [.int x0] 144 10 ls [] t I L R Q := wp_cls (wp_ics rfl (by decide)) (by decide) (Nat.le_of_ble_eq_true rfl) rfl rfl (Nat.le_of_ble_eq_true rfl) (Nat.le_of_ble_eq_true rfl)
theorem i144_10 {p : Int32} {w0 w1 w3 : Value} {x : Int32} : WP V 144 10 [w0, w1, .int p, w3] (.int x :: st) t I L R Q = WP V 144 11 [w0, w1, .int p, .int x] st t I L R Q := wp_go rfl
theorem i144_11 {w1 w2 w3 : Value} {x : Nat} : WP V 144 11 [.ref x, w1, w2, w3] st t I L R Q = WP V 144 12 [.ref x, w1, w2, w3] (.ref x :: st) t I L R Q := wp_go rfl
theorem i144_12 {k : Nat} (h1 : k < t) (h2 : m_ob k 8 = true) : WP V 144 12 ls (.ref k :: st) t I L R Q = WP V 144 13 ls (m_rv (R k 0) :: st) t I L R Q := wp_getR rfl (by decide) h1 h2
theorem i144_13 {w0 w1 w2 : Value} {x : Int32} : WP V 144 13 [w0, w1, w2, .int x] st t I L R Q = WP V 144 14 [w0, w1, w2, .int x] (.int x :: st) t I L R Q := wp_go rfl
theorem i144_14  : WP V 144 14 ls st t I L R Q = WP V 144 15 ls (.int (nI 17) :: st) t I L R Q := wp_go rfl
theorem i144_15 {x y : Int32} : WP V 144 15 ls (.int y :: .int x :: st) t I L R Q = WP V 144 16 ls (.int (x + y) :: st) t I L R Q := wp_go rfl
theorem i144_16 {w1 w2 w3 : Value} {x : Nat} : WP V 144 16 [.ref x, w1, w2, w3] st t I L R Q = WP V 144 17 [.ref x, w1, w2, w3] (.ref x :: st) t I L R Q := wp_go rfl
theorem i144_17 {k : Nat} (h1 : k < t) (h2 : m_ob k 8 = true) : WP V 144 17 ls (.ref k :: st) t I L R Q = WP V 144 18 ls (m_rv (R k 0) :: st) t I L R Q := wp_getR rfl (by decide) h1 h2
theorem i144_18 {w0 w1 w2 : Value} {x : Int32} : WP V 144 18 [w0, w1, w2, .int x] st t I L R Q = WP V 144 19 [w0, w1, w2, .int x] (.int x :: st) t I L R Q := wp_go rfl
theorem i144_19  : WP V 144 19 ls st t I L R Q = WP V 144 20 ls (.int (nI 17) :: st) t I L R Q := wp_go rfl
theorem i144_20 {x y : Int32} : WP V 144 20 ls (.int y :: .int x :: st) t I L R Q = WP V 144 21 ls (.int (x + y) :: st) t I L R Q := wp_go rfl
theorem i144_21 {k j : Nat} (h2 : m_ar k 2 612 = true) (h1 : k < t) (h3 : j < 612) : WP V 144 21 ls (.int (nI j) :: .ref k :: st) t I L R Q = WP V 144 22 ls (.int (I k j) :: st) t I L R Q := wp_iaload rfl (by decide) h1 h2 h3
theorem i144_22 {w0 w2 w3 : Value} {x : Int32} : WP V 144 22 [w0, .int x, w2, w3] st t I L R Q = WP V 144 23 [w0, .int x, w2, w3] (.int x :: st) t I L R Q := wp_go rfl
theorem i144_23 {x y : Int32} : WP V 144 23 ls (.int y :: .int x :: st) t I L R Q = if x = y then WP V 144 24 ls st t I L R Q else WP V 144 26 ls st t I L R Q := wp_brn (c := m_cc .ne x y) rfl rfl
theorem i144_24  : WP V 144 24 ls st t I L R Q = WP V 144 25 ls (.int (-1) :: st) t I L R Q := wp_go rfl
theorem i144_25  : WP V 144 25 ls st t I L R Q = WP V 144 32 ls st t I L R Q := wp_go rfl
theorem i144_26 {w1 w2 w3 : Value} {x : Nat} : WP V 144 26 [.ref x, w1, w2, w3] st t I L R Q = WP V 144 27 [.ref x, w1, w2, w3] (.ref x :: st) t I L R Q := wp_go rfl
theorem i144_27 {k : Nat} (h1 : k < t) (h2 : m_ob k 8 = true) : WP V 144 27 ls (.ref k :: st) t I L R Q = WP V 144 28 ls (m_rv (R k 0) :: st) t I L R Q := wp_getR rfl (by decide) h1 h2
theorem i144_28 {w0 w1 w2 : Value} {x : Int32} : WP V 144 28 [w0, w1, w2, .int x] st t I L R Q = WP V 144 29 [w0, w1, w2, .int x] (.int x :: st) t I L R Q := wp_go rfl
theorem i144_29  : WP V 144 29 ls st t I L R Q = WP V 144 30 ls (.int (nI 17) :: st) t I L R Q := wp_go rfl
theorem i144_30 {x y : Int32} : WP V 144 30 ls (.int y :: .int x :: st) t I L R Q = WP V 144 31 ls (.int (x + y) :: st) t I L R Q := wp_go rfl
theorem i144_31 {k j : Nat} (h2 : m_ar k 2 612 = true) (h1 : k < t) (h3 : j < 612) : WP V 144 31 ls (.int (nI j) :: .ref k :: st) t I L R Q = WP V 144 32 ls (.int (I k j) :: st) t I L R Q := wp_iaload rfl (by decide) h1 h2 h3
theorem i144_32 {k j : Nat} {x : Int32} (h2 : m_ar k 2 612 = true) (h1 : k < t) (h3 : j < 612) : WP V 144 32 ls (.int x :: .int (nI j) :: .ref k :: st) t I L R Q = WP V 144 33 ls st t (m_sc I k (m_sc (I k) j x)) L R Q := wp_iastore rfl (by decide) h1 h2 h3
theorem i144_33 {p : Int32} {w0 w3 : Value} {x : Int32} : WP V 144 33 [w0, .int p, .int x, w3] st t I L R Q = WP V 144 34 [w0, .int p, .int (x + (nI 1)), w3] st t I L R Q := wp_go rfl
theorem i144_34  : WP V 144 34 ls st t I L R Q = WP V 144 5 ls st t I L R Q := wp_go rfl
theorem i144_35 {w1 w2 w3 : Value} {x : Nat} : WP V 144 35 [.ref x, w1, w2, w3] st t I L R Q = WP V 144 36 [.ref x, w1, w2, w3] (.ref x :: st) t I L R Q := wp_go rfl
theorem i144_36 {w0 w2 w3 : Value} {x : Int32} : WP V 144 36 [w0, .int x, w2, w3] st t I L R Q = WP V 144 37 [w0, .int x, w2, w3] (.int x :: st) t I L R Q := wp_go rfl
theorem i144_37 {x0 : Int32} {x1 : Nat}  (h1 : x1 < t) (h2 : m_ob x1 8 = true) : WP V 144 37 ls [.int x0, .ref x1] t I L R Q = WPC V 139 [.ref x1, .int x0] 144 38 ls [] t I L R Q := wp_cls (wp_icv rfl rfl h1 h2) (by decide) (Nat.le_of_ble_eq_true rfl) rfl rfl (Nat.le_of_ble_eq_true rfl) (Nat.le_of_ble_eq_true rfl)
theorem i144_38 {w1 w2 w3 : Value} {x : Nat} : WP V 144 38 [.ref x, w1, w2, w3] st t I L R Q = WP V 144 39 [.ref x, w1, w2, w3] (.ref x :: st) t I L R Q := wp_go rfl
theorem i144_39 {k : Nat} (h1 : k < t) (h2 : m_ob k 8 = true) : WP V 144 39 ls (.ref k :: st) t I L R Q = WP V 144 40 ls (m_rv (R k 0) :: st) t I L R Q := wp_getR rfl (by decide) h1 h2
theorem i144_40  : WP V 144 40 ls st t I L R Q = WP V 144 41 ls (.int (nI 146) :: st) t I L R Q := wp_go rfl
theorem i144_41 {w1 w2 w3 : Value} {x : Nat} : WP V 144 41 [.ref x, w1, w2, w3] st t I L R Q = WP V 144 42 [.ref x, w1, w2, w3] (.ref x :: st) t I L R Q := wp_go rfl
theorem i144_42 {k : Nat} (h1 : k < t) (h2 : m_ob k 8 = true) : WP V 144 42 ls (.ref k :: st) t I L R Q = WP V 144 43 ls (m_rv (R k 0) :: st) t I L R Q := wp_getR rfl (by decide) h1 h2
theorem i144_43  : WP V 144 43 ls st t I L R Q = WP V 144 44 ls (.int (nI 146) :: st) t I L R Q := wp_go rfl
theorem i144_44 {k j : Nat} (h2 : m_ar k 2 612 = true) (h1 : k < t) (h3 : j < 612) : WP V 144 44 ls (.int (nI j) :: .ref k :: st) t I L R Q = WP V 144 45 ls (.int (I k j) :: st) t I L R Q := wp_iaload rfl (by decide) h1 h2 h3
theorem i144_45 {w0 w2 w3 : Value} {x : Int32} : WP V 144 45 [w0, .int x, w2, w3] st t I L R Q = WP V 144 46 [w0, .int x, w2, w3] (.int x :: st) t I L R Q := wp_go rfl
theorem i144_46 {x y : Int32} : WP V 144 46 ls (.int y :: .int x :: st) t I L R Q = if x = y then WP V 144 47 ls st t I L R Q else WP V 144 49 ls st t I L R Q := wp_brn (c := m_cc .ne x y) rfl rfl
theorem i144_47  : WP V 144 47 ls st t I L R Q = WP V 144 48 ls (.int (-1) :: st) t I L R Q := wp_go rfl
theorem i144_48  : WP V 144 48 ls st t I L R Q = WP V 144 53 ls st t I L R Q := wp_go rfl
theorem i144_49 {w1 w2 w3 : Value} {x : Nat} : WP V 144 49 [.ref x, w1, w2, w3] st t I L R Q = WP V 144 50 [.ref x, w1, w2, w3] (.ref x :: st) t I L R Q := wp_go rfl
theorem i144_50 {k : Nat} (h1 : k < t) (h2 : m_ob k 8 = true) : WP V 144 50 ls (.ref k :: st) t I L R Q = WP V 144 51 ls (m_rv (R k 0) :: st) t I L R Q := wp_getR rfl (by decide) h1 h2
theorem i144_51  : WP V 144 51 ls st t I L R Q = WP V 144 52 ls (.int (nI 146) :: st) t I L R Q := wp_go rfl
theorem i144_52 {k j : Nat} (h2 : m_ar k 2 612 = true) (h1 : k < t) (h3 : j < 612) : WP V 144 52 ls (.int (nI j) :: .ref k :: st) t I L R Q = WP V 144 53 ls (.int (I k j) :: st) t I L R Q := wp_iaload rfl (by decide) h1 h2 h3
theorem i144_53 {k j : Nat} {x : Int32} (h2 : m_ar k 2 612 = true) (h1 : k < t) (h3 : j < 612) : WP V 144 53 ls (.int x :: .int (nI j) :: .ref k :: st) t I L R Q = WP V 144 54 ls st t (m_sc I k (m_sc (I k) j x)) L R Q := wp_iastore rfl (by decide) h1 h2 h3
theorem i144_54 {w1 w2 w3 : Value} {x : Nat} : WP V 144 54 [.ref x, w1, w2, w3] st t I L R Q = WP V 144 55 [.ref x, w1, w2, w3] (.ref x :: st) t I L R Q := wp_go rfl
theorem i144_55 {w0 w2 w3 : Value} {x : Int32} : WP V 144 55 [w0, .int x, w2, w3] st t I L R Q = WP V 144 56 [w0, .int x, w2, w3] (.int x :: st) t I L R Q := wp_go rfl
theorem i144_56 {x0 : Int32} {x1 : Nat}  (h1 : x1 < t) (h2 : m_ob x1 8 = true) : WP V 144 56 ls [.int x0, .ref x1] t I L R Q = WPC V 116 [.ref x1, .int x0] 144 57 ls [] t I L R Q := wp_cls (wp_icv rfl rfl h1 h2) (by decide) (Nat.le_of_ble_eq_true rfl) rfl rfl (Nat.le_of_ble_eq_true rfl) (Nat.le_of_ble_eq_true rfl)
theorem i144_57  : WP V 144 57 ls [] t I L R Q = Q none t I L R := wp_rtv rfl rfl
-- TransactionCellsModel.isElder(II)Z
theorem i145_0 {w0 w2 w3 w4 : Value} {x : Int32} : WP V 145 0 [w0, .int x, w2, w3, w4] st t I L R Q = WP V 145 1 [w0, .int x, w2, w3, w4] (.int x :: st) t I L R Q := wp_go rfl
theorem i145_1 {x0 : Int32}  : WP V 145 1 ls [.int x0] t I L R Q = WPC V 113 [.int x0] 145 2 ls [] t I L R Q := wp_cls (wp_ics rfl (by decide)) (by decide) (Nat.le_of_ble_eq_true rfl) rfl rfl (Nat.le_of_ble_eq_true rfl) (Nat.le_of_ble_eq_true rfl)
theorem i145_2 {p : Int32} {w0 w1 w3 w4 : Value} {x : Int32} : WP V 145 2 [w0, w1, .int p, w3, w4] (.int x :: st) t I L R Q = WP V 145 3 [w0, w1, .int p, .int x, w4] st t I L R Q := wp_go rfl
theorem i145_3 {w0 w1 w3 w4 : Value} {x : Int32} : WP V 145 3 [w0, w1, .int x, w3, w4] st t I L R Q = WP V 145 4 [w0, w1, .int x, w3, w4] (.int x :: st) t I L R Q := wp_go rfl
theorem i145_4 {x0 : Int32}  : WP V 145 4 ls [.int x0] t I L R Q = WPC V 113 [.int x0] 145 5 ls [] t I L R Q := wp_cls (wp_ics rfl (by decide)) (by decide) (Nat.le_of_ble_eq_true rfl) rfl rfl (Nat.le_of_ble_eq_true rfl) (Nat.le_of_ble_eq_true rfl)
theorem i145_5 {p : Int32} {w0 w1 w2 w4 : Value} {x : Int32} : WP V 145 5 [w0, w1, w2, .int p, w4] (.int x :: st) t I L R Q = WP V 145 6 [w0, w1, w2, .int p, .int x] st t I L R Q := wp_go rfl
theorem i145_6 {w1 w2 w3 w4 : Value} {x : Nat} : WP V 145 6 [.ref x, w1, w2, w3, w4] st t I L R Q = WP V 145 7 [.ref x, w1, w2, w3, w4] (.ref x :: st) t I L R Q := wp_go rfl
theorem i145_7 {k : Nat} (h1 : k < t) (h2 : m_ob k 8 = true) : WP V 145 7 ls (.ref k :: st) t I L R Q = WP V 145 8 ls (m_rv (R k 0) :: st) t I L R Q := wp_getR rfl (by decide) h1 h2
theorem i145_8 {w0 w1 w2 w4 : Value} {x : Int32} : WP V 145 8 [w0, w1, w2, .int x, w4] st t I L R Q = WP V 145 9 [w0, w1, w2, .int x, w4] (.int x :: st) t I L R Q := wp_go rfl
theorem i145_9  : WP V 145 9 ls st t I L R Q = WP V 145 10 ls (.int (nI 102) :: st) t I L R Q := wp_go rfl
theorem i145_10 {x y : Int32} : WP V 145 10 ls (.int y :: .int x :: st) t I L R Q = WP V 145 11 ls (.int (x + y) :: st) t I L R Q := wp_go rfl
theorem i145_11 {k j : Nat} (h2 : m_ar k 2 612 = true) (h1 : k < t) (h3 : j < 612) : WP V 145 11 ls (.int (nI j) :: .ref k :: st) t I L R Q = WP V 145 12 ls (.int (I k j) :: st) t I L R Q := wp_iaload rfl (by decide) h1 h2 h3
theorem i145_12  : WP V 145 12 ls st t I L R Q = WP V 145 13 ls (.int (nI 3) :: st) t I L R Q := wp_go rfl
theorem i145_13 {x y : Int32} : WP V 145 13 ls (.int y :: .int x :: st) t I L R Q = if x = y then WP V 145 22 ls st t I L R Q else WP V 145 14 ls st t I L R Q := wp_br (c := m_cc .eq x y) rfl rfl
theorem i145_14 {w1 w2 w3 w4 : Value} {x : Nat} : WP V 145 14 [.ref x, w1, w2, w3, w4] st t I L R Q = WP V 145 15 [.ref x, w1, w2, w3, w4] (.ref x :: st) t I L R Q := wp_go rfl
theorem i145_15 {k : Nat} (h1 : k < t) (h2 : m_ob k 8 = true) : WP V 145 15 ls (.ref k :: st) t I L R Q = WP V 145 16 ls (m_rv (R k 0) :: st) t I L R Q := wp_getR rfl (by decide) h1 h2
theorem i145_16 {w0 w1 w2 w3 : Value} {x : Int32} : WP V 145 16 [w0, w1, w2, w3, .int x] st t I L R Q = WP V 145 17 [w0, w1, w2, w3, .int x] (.int x :: st) t I L R Q := wp_go rfl
theorem i145_17  : WP V 145 17 ls st t I L R Q = WP V 145 18 ls (.int (nI 102) :: st) t I L R Q := wp_go rfl
theorem i145_18 {x y : Int32} : WP V 145 18 ls (.int y :: .int x :: st) t I L R Q = WP V 145 19 ls (.int (x + y) :: st) t I L R Q := wp_go rfl
theorem i145_19 {k j : Nat} (h2 : m_ar k 2 612 = true) (h1 : k < t) (h3 : j < 612) : WP V 145 19 ls (.int (nI j) :: .ref k :: st) t I L R Q = WP V 145 20 ls (.int (I k j) :: st) t I L R Q := wp_iaload rfl (by decide) h1 h2 h3
theorem i145_20  : WP V 145 20 ls st t I L R Q = WP V 145 21 ls (.int (nI 3) :: st) t I L R Q := wp_go rfl
theorem i145_21 {x y : Int32} : WP V 145 21 ls (.int y :: .int x :: st) t I L R Q = if x = y then WP V 145 22 ls st t I L R Q else WP V 145 34 ls st t I L R Q := wp_brn (c := m_cc .ne x y) rfl rfl
theorem i145_22 {w1 w2 w3 w4 : Value} {x : Nat} : WP V 145 22 [.ref x, w1, w2, w3, w4] st t I L R Q = WP V 145 23 [.ref x, w1, w2, w3, w4] (.ref x :: st) t I L R Q := wp_go rfl
theorem i145_23 {k : Nat} (h1 : k < t) (h2 : m_ob k 8 = true) : WP V 145 23 ls (.ref k :: st) t I L R Q = WP V 145 24 ls (m_rv (R k 0) :: st) t I L R Q := wp_getR rfl (by decide) h1 h2
theorem i145_24 {w0 w1 w2 w4 : Value} {x : Int32} : WP V 145 24 [w0, w1, w2, .int x, w4] st t I L R Q = WP V 145 25 [w0, w1, w2, .int x, w4] (.int x :: st) t I L R Q := wp_go rfl
theorem i145_25  : WP V 145 25 ls st t I L R Q = WP V 145 26 ls (.int (nI 102) :: st) t I L R Q := wp_go rfl
theorem i145_26 {x y : Int32} : WP V 145 26 ls (.int y :: .int x :: st) t I L R Q = WP V 145 27 ls (.int (x + y) :: st) t I L R Q := wp_go rfl
theorem i145_27 {k j : Nat} (h2 : m_ar k 2 612 = true) (h1 : k < t) (h3 : j < 612) : WP V 145 27 ls (.int (nI j) :: .ref k :: st) t I L R Q = WP V 145 28 ls (.int (I k j) :: st) t I L R Q := wp_iaload rfl (by decide) h1 h2 h3
theorem i145_28  : WP V 145 28 ls st t I L R Q = WP V 145 29 ls (.int (nI 3) :: st) t I L R Q := wp_go rfl
theorem i145_29 {x y : Int32} : WP V 145 29 ls (.int y :: .int x :: st) t I L R Q = if x = y then WP V 145 30 ls st t I L R Q else WP V 145 32 ls st t I L R Q := wp_brn (c := m_cc .ne x y) rfl rfl
theorem i145_30  : WP V 145 30 ls st t I L R Q = WP V 145 31 ls (.int (nI 1) :: st) t I L R Q := wp_go rfl
theorem i145_31  : WP V 145 31 ls st t I L R Q = WP V 145 33 ls st t I L R Q := wp_go rfl
theorem i145_32  : WP V 145 32 ls st t I L R Q = WP V 145 33 ls (.int (nI 0) :: st) t I L R Q := wp_go rfl
theorem i145_33 {x : Int32} (h : m_01 x = true) : WP V 145 33 ls [.int x] t I L R Q = Q (some (.int x)) t I L R := wp_rtz rfl rfl h
theorem i145_34 {w1 w2 w3 w4 : Value} {x : Nat} : WP V 145 34 [.ref x, w1, w2, w3, w4] st t I L R Q = WP V 145 35 [.ref x, w1, w2, w3, w4] (.ref x :: st) t I L R Q := wp_go rfl
theorem i145_35 {k : Nat} (h1 : k < t) (h2 : m_ob k 8 = true) : WP V 145 35 ls (.ref k :: st) t I L R Q = WP V 145 36 ls (m_rv (R k 0) :: st) t I L R Q := wp_getR rfl (by decide) h1 h2
theorem i145_36 {w0 w1 w2 w4 : Value} {x : Int32} : WP V 145 36 [w0, w1, w2, .int x, w4] st t I L R Q = WP V 145 37 [w0, w1, w2, .int x, w4] (.int x :: st) t I L R Q := wp_go rfl
theorem i145_37  : WP V 145 37 ls st t I L R Q = WP V 145 38 ls (.int (nI 104) :: st) t I L R Q := wp_go rfl
theorem i145_38 {x y : Int32} : WP V 145 38 ls (.int y :: .int x :: st) t I L R Q = WP V 145 39 ls (.int (x + y) :: st) t I L R Q := wp_go rfl
theorem i145_39 {k j : Nat} (h2 : m_ar k 2 612 = true) (h1 : k < t) (h3 : j < 612) : WP V 145 39 ls (.int (nI j) :: .ref k :: st) t I L R Q = WP V 145 40 ls (.int (I k j) :: st) t I L R Q := wp_iaload rfl (by decide) h1 h2 h3
theorem i145_40 {w1 w2 w3 w4 : Value} {x : Nat} : WP V 145 40 [.ref x, w1, w2, w3, w4] st t I L R Q = WP V 145 41 [.ref x, w1, w2, w3, w4] (.ref x :: st) t I L R Q := wp_go rfl
theorem i145_41 {k : Nat} (h1 : k < t) (h2 : m_ob k 8 = true) : WP V 145 41 ls (.ref k :: st) t I L R Q = WP V 145 42 ls (m_rv (R k 0) :: st) t I L R Q := wp_getR rfl (by decide) h1 h2
theorem i145_42 {w0 w1 w2 w3 : Value} {x : Int32} : WP V 145 42 [w0, w1, w2, w3, .int x] st t I L R Q = WP V 145 43 [w0, w1, w2, w3, .int x] (.int x :: st) t I L R Q := wp_go rfl
theorem i145_43  : WP V 145 43 ls st t I L R Q = WP V 145 44 ls (.int (nI 104) :: st) t I L R Q := wp_go rfl
theorem i145_44 {x y : Int32} : WP V 145 44 ls (.int y :: .int x :: st) t I L R Q = WP V 145 45 ls (.int (x + y) :: st) t I L R Q := wp_go rfl
theorem i145_45 {k j : Nat} (h2 : m_ar k 2 612 = true) (h1 : k < t) (h3 : j < 612) : WP V 145 45 ls (.int (nI j) :: .ref k :: st) t I L R Q = WP V 145 46 ls (.int (I k j) :: st) t I L R Q := wp_iaload rfl (by decide) h1 h2 h3
theorem i145_46 {x y : Int32} : WP V 145 46 ls (.int y :: .int x :: st) t I L R Q = if y ≤ x then WP V 145 49 ls st t I L R Q else WP V 145 47 ls st t I L R Q := wp_br (c := m_cc .ge x y) rfl rfl
theorem i145_47  : WP V 145 47 ls st t I L R Q = WP V 145 48 ls (.int (nI 1) :: st) t I L R Q := wp_go rfl
theorem i145_48  : WP V 145 48 ls st t I L R Q = WP V 145 50 ls st t I L R Q := wp_go rfl
theorem i145_49  : WP V 145 49 ls st t I L R Q = WP V 145 50 ls (.int (nI 0) :: st) t I L R Q := wp_go rfl
theorem i145_50 {x : Int32} (h : m_01 x = true) : WP V 145 50 ls [.int x] t I L R Q = Q (some (.int x)) t I L R := wp_rtz rfl rfl h
-- TransactionCellsModel.waitsForOwner(II)Z
theorem i146_0 {w1 w2 w3 : Value} {x : Nat} : WP V 146 0 [.ref x, w1, w2, w3] st t I L R Q = WP V 146 1 [.ref x, w1, w2, w3] (.ref x :: st) t I L R Q := wp_go rfl
theorem i146_1 {k : Nat} (h1 : k < t) (h2 : m_ob k 8 = true) : WP V 146 1 ls (.ref k :: st) t I L R Q = WP V 146 2 ls (m_rv (R k 0) :: st) t I L R Q := wp_getR rfl (by decide) h1 h2
theorem i146_2 {w0 w1 w3 : Value} {x : Int32} : WP V 146 2 [w0, w1, .int x, w3] st t I L R Q = WP V 146 3 [w0, w1, .int x, w3] (.int x :: st) t I L R Q := wp_go rfl
theorem i146_3 {x0 : Int32} {r0 : Nat} : WP V 146 3 ls [.int x0, .ref r0] t I L R Q = WPC V 112 [.int x0] 146 4 ls [.ref r0] t I L R Q := wp_cls (wp_ics rfl (by decide)) (by decide) (Nat.le_of_ble_eq_true rfl) rfl rfl (Nat.le_of_ble_eq_true rfl) (Nat.le_of_ble_eq_true rfl)
theorem i146_4  : WP V 146 4 ls st t I L R Q = WP V 146 5 ls (.int (nI 16) :: st) t I L R Q := wp_go rfl
theorem i146_5 {x y : Int32} : WP V 146 5 ls (.int y :: .int x :: st) t I L R Q = WP V 146 6 ls (.int (x + y) :: st) t I L R Q := wp_go rfl
theorem i146_6 {k j : Nat} (h2 : m_ar k 2 612 = true) (h1 : k < t) (h3 : j < 612) : WP V 146 6 ls (.int (nI j) :: .ref k :: st) t I L R Q = WP V 146 7 ls (.int (I k j) :: st) t I L R Q := wp_iaload rfl (by decide) h1 h2 h3
theorem i146_7 {p : Int32} {w0 w1 w3 : Value} {x : Int32} : WP V 146 7 [w0, w1, .int p, w3] (.int x :: st) t I L R Q = WP V 146 8 [w0, w1, .int p, .int x] st t I L R Q := wp_go rfl
theorem i146_8 {w1 w2 w3 : Value} {x : Nat} : WP V 146 8 [.ref x, w1, w2, w3] st t I L R Q = WP V 146 9 [.ref x, w1, w2, w3] (.ref x :: st) t I L R Q := wp_go rfl
theorem i146_9 {k : Nat} (h1 : k < t) (h2 : m_ob k 8 = true) : WP V 146 9 ls (.ref k :: st) t I L R Q = WP V 146 10 ls (.int (I k 1) :: st) t I L R Q := wp_getI rfl (by decide) h1 h2
theorem i146_10  : WP V 146 10 ls st t I L R Q = WP V 146 11 ls (.int (nI 1) :: st) t I L R Q := wp_go rfl
theorem i146_11 {x y : Int32} : WP V 146 11 ls (.int y :: .int x :: st) t I L R Q = if x = y then WP V 146 12 ls st t I L R Q else WP V 146 18 ls st t I L R Q := wp_brn (c := m_cc .ne x y) rfl rfl
theorem i146_12 {w0 w1 w2 : Value} {x : Int32} : WP V 146 12 [w0, w1, w2, .int x] st t I L R Q = WP V 146 13 [w0, w1, w2, .int x] (.int x :: st) t I L R Q := wp_go rfl
theorem i146_13  : WP V 146 13 ls st t I L R Q = WP V 146 14 ls (.int (-1) :: st) t I L R Q := wp_go rfl
theorem i146_14 {x y : Int32} : WP V 146 14 ls (.int y :: .int x :: st) t I L R Q = if x = y then WP V 146 18 ls st t I L R Q else WP V 146 15 ls st t I L R Q := wp_br (c := m_cc .eq x y) rfl rfl
theorem i146_15 {w0 w1 w2 : Value} {x : Int32} : WP V 146 15 [w0, w1, w2, .int x] st t I L R Q = WP V 146 16 [w0, w1, w2, .int x] (.int x :: st) t I L R Q := wp_go rfl
theorem i146_16 {w0 w2 w3 : Value} {x : Int32} : WP V 146 16 [w0, .int x, w2, w3] st t I L R Q = WP V 146 17 [w0, .int x, w2, w3] (.int x :: st) t I L R Q := wp_go rfl
theorem i146_17 {x y : Int32} : WP V 146 17 ls (.int y :: .int x :: st) t I L R Q = if x = y then WP V 146 18 ls st t I L R Q else WP V 146 20 ls st t I L R Q := wp_brn (c := m_cc .ne x y) rfl rfl
theorem i146_18  : WP V 146 18 ls st t I L R Q = WP V 146 19 ls (.int (nI 0) :: st) t I L R Q := wp_go rfl
theorem i146_19 {x : Int32} (h : m_01 x = true) : WP V 146 19 ls [.int x] t I L R Q = Q (some (.int x)) t I L R := wp_rtz rfl rfl h
theorem i146_20 {w1 w2 w3 : Value} {x : Nat} : WP V 146 20 [.ref x, w1, w2, w3] st t I L R Q = WP V 146 21 [.ref x, w1, w2, w3] (.ref x :: st) t I L R Q := wp_go rfl
theorem i146_21 {w0 w2 w3 : Value} {x : Int32} : WP V 146 21 [w0, .int x, w2, w3] st t I L R Q = WP V 146 22 [w0, .int x, w2, w3] (.int x :: st) t I L R Q := wp_go rfl
theorem i146_22 {w0 w1 w2 : Value} {x : Int32} : WP V 146 22 [w0, w1, w2, .int x] st t I L R Q = WP V 146 23 [w0, w1, w2, .int x] (.int x :: st) t I L R Q := wp_go rfl
theorem i146_23 {x0 : Int32} {x1 : Int32} {x2 : Nat}  (h1 : x2 < t) (h2 : m_ob x2 8 = true) : WP V 146 23 ls [.int x0, .int x1, .ref x2] t I L R Q = WPC V 145 [.ref x2, .int x1, .int x0] 146 24 ls [] t I L R Q := wp_cls (wp_icv rfl rfl h1 h2) (by decide) (Nat.le_of_ble_eq_true rfl) rfl rfl (Nat.le_of_ble_eq_true rfl) (Nat.le_of_ble_eq_true rfl)
theorem i146_24 {x : Int32} : WP V 146 24 ls (.int x :: st) t I L R Q = if x = nI 0 then WP V 146 25 ls st t I L R Q else WP V 146 27 ls st t I L R Q := wp_brn (c := m_cc .ne x 0) rfl rfl
theorem i146_25  : WP V 146 25 ls st t I L R Q = WP V 146 26 ls (.int (nI 1) :: st) t I L R Q := wp_go rfl
theorem i146_26 {x : Int32} (h : m_01 x = true) : WP V 146 26 ls [.int x] t I L R Q = Q (some (.int x)) t I L R := wp_rtz rfl rfl h
theorem i146_27 {w1 w2 w3 : Value} {x : Nat} : WP V 146 27 [.ref x, w1, w2, w3] st t I L R Q = WP V 146 28 [.ref x, w1, w2, w3] (.ref x :: st) t I L R Q := wp_go rfl
theorem i146_28 {w0 w1 w2 : Value} {x : Int32} : WP V 146 28 [w0, w1, w2, .int x] st t I L R Q = WP V 146 29 [w0, w1, w2, .int x] (.int x :: st) t I L R Q := wp_go rfl
theorem i146_29 {x0 : Int32} {x1 : Nat}  (h1 : x1 < t) (h2 : m_ob x1 8 = true) : WP V 146 29 ls [.int x0, .ref x1] t I L R Q = WPC V 142 [.ref x1, .int x0] 146 30 ls [] t I L R Q := wp_cls (wp_icv rfl rfl h1 h2) (by decide) (Nat.le_of_ble_eq_true rfl) rfl rfl (Nat.le_of_ble_eq_true rfl) (Nat.le_of_ble_eq_true rfl)
theorem i146_30  : WP V 146 30 ls st t I L R Q = WP V 146 31 ls (.int (nI 0) :: st) t I L R Q := wp_go rfl
theorem i146_31 {x : Int32} (h : m_01 x = true) : WP V 146 31 ls [.int x] t I L R Q = Q (some (.int x)) t I L R := wp_rtz rfl rfl h
-- TransactionCellsModel.isHeld(II)Z
theorem i147_0 {w1 w2 w3 : Value} {x : Nat} : WP V 147 0 [.ref x, w1, w2, w3] st t I L R Q = WP V 147 1 [.ref x, w1, w2, w3] (.ref x :: st) t I L R Q := wp_go rfl
theorem i147_1 {k : Nat} (h1 : k < t) (h2 : m_ob k 8 = true) : WP V 147 1 ls (.ref k :: st) t I L R Q = WP V 147 2 ls (m_rv (R k 0) :: st) t I L R Q := wp_getR rfl (by decide) h1 h2
theorem i147_2 {w0 w1 w3 : Value} {x : Int32} : WP V 147 2 [w0, w1, .int x, w3] st t I L R Q = WP V 147 3 [w0, w1, .int x, w3] (.int x :: st) t I L R Q := wp_go rfl
theorem i147_3 {x0 : Int32} {r0 : Nat} : WP V 147 3 ls [.int x0, .ref r0] t I L R Q = WPC V 112 [.int x0] 147 4 ls [.ref r0] t I L R Q := wp_cls (wp_ics rfl (by decide)) (by decide) (Nat.le_of_ble_eq_true rfl) rfl rfl (Nat.le_of_ble_eq_true rfl) (Nat.le_of_ble_eq_true rfl)
theorem i147_4  : WP V 147 4 ls st t I L R Q = WP V 147 5 ls (.int (nI 17) :: st) t I L R Q := wp_go rfl
theorem i147_5 {x y : Int32} : WP V 147 5 ls (.int y :: .int x :: st) t I L R Q = WP V 147 6 ls (.int (x + y) :: st) t I L R Q := wp_go rfl
theorem i147_6 {k j : Nat} (h2 : m_ar k 2 612 = true) (h1 : k < t) (h3 : j < 612) : WP V 147 6 ls (.int (nI j) :: .ref k :: st) t I L R Q = WP V 147 7 ls (.int (I k j) :: st) t I L R Q := wp_iaload rfl (by decide) h1 h2 h3
theorem i147_7 {p : Int32} {w0 w1 w3 : Value} {x : Int32} : WP V 147 7 [w0, w1, .int p, w3] (.int x :: st) t I L R Q = WP V 147 8 [w0, w1, .int p, .int x] st t I L R Q := wp_go rfl
theorem i147_8 {w0 w1 w2 : Value} {x : Int32} : WP V 147 8 [w0, w1, w2, .int x] st t I L R Q = WP V 147 9 [w0, w1, w2, .int x] (.int x :: st) t I L R Q := wp_go rfl
theorem i147_9  : WP V 147 9 ls st t I L R Q = WP V 147 10 ls (.int (-1) :: st) t I L R Q := wp_go rfl
theorem i147_10 {x y : Int32} : WP V 147 10 ls (.int y :: .int x :: st) t I L R Q = if x = y then WP V 147 16 ls st t I L R Q else WP V 147 11 ls st t I L R Q := wp_br (c := m_cc .eq x y) rfl rfl
theorem i147_11 {w0 w1 w2 : Value} {x : Int32} : WP V 147 11 [w0, w1, w2, .int x] st t I L R Q = WP V 147 12 [w0, w1, w2, .int x] (.int x :: st) t I L R Q := wp_go rfl
theorem i147_12 {w0 w2 w3 : Value} {x : Int32} : WP V 147 12 [w0, .int x, w2, w3] st t I L R Q = WP V 147 13 [w0, .int x, w2, w3] (.int x :: st) t I L R Q := wp_go rfl
theorem i147_13 {x y : Int32} : WP V 147 13 ls (.int y :: .int x :: st) t I L R Q = if x = y then WP V 147 16 ls st t I L R Q else WP V 147 14 ls st t I L R Q := wp_br (c := m_cc .eq x y) rfl rfl
theorem i147_14  : WP V 147 14 ls st t I L R Q = WP V 147 15 ls (.int (nI 1) :: st) t I L R Q := wp_go rfl
theorem i147_15  : WP V 147 15 ls st t I L R Q = WP V 147 17 ls st t I L R Q := wp_go rfl
theorem i147_16  : WP V 147 16 ls st t I L R Q = WP V 147 17 ls (.int (nI 0) :: st) t I L R Q := wp_go rfl
theorem i147_17 {x : Int32} (h : m_01 x = true) : WP V 147 17 ls [.int x] t I L R Q = Q (some (.int x)) t I L R := wp_rtz rfl rfl h
-- TransactionCellsModel.isLocked(I)Z
theorem i148_0 {w1 : Value} {x : Nat} : WP V 148 0 [.ref x, w1] st t I L R Q = WP V 148 1 [.ref x, w1] (.ref x :: st) t I L R Q := wp_go rfl
theorem i148_1 {k : Nat} (h1 : k < t) (h2 : m_ob k 8 = true) : WP V 148 1 ls (.ref k :: st) t I L R Q = WP V 148 2 ls (m_rv (R k 0) :: st) t I L R Q := wp_getR rfl (by decide) h1 h2
theorem i148_2  : WP V 148 2 ls st t I L R Q = WP V 148 3 ls (.int (nI 145) :: st) t I L R Q := wp_go rfl
theorem i148_3 {k j : Nat} (h2 : m_ar k 2 612 = true) (h1 : k < t) (h3 : j < 612) : WP V 148 3 ls (.int (nI j) :: .ref k :: st) t I L R Q = WP V 148 4 ls (.int (I k j) :: st) t I L R Q := wp_iaload rfl (by decide) h1 h2 h3
theorem i148_4  : WP V 148 4 ls st t I L R Q = WP V 148 5 ls (.int (-1) :: st) t I L R Q := wp_go rfl
theorem i148_5 {x y : Int32} : WP V 148 5 ls (.int y :: .int x :: st) t I L R Q = if x = y then WP V 148 14 ls st t I L R Q else WP V 148 6 ls st t I L R Q := wp_br (c := m_cc .eq x y) rfl rfl
theorem i148_6 {w1 : Value} {x : Nat} : WP V 148 6 [.ref x, w1] st t I L R Q = WP V 148 7 [.ref x, w1] (.ref x :: st) t I L R Q := wp_go rfl
theorem i148_7 {k : Nat} (h1 : k < t) (h2 : m_ob k 8 = true) : WP V 148 7 ls (.ref k :: st) t I L R Q = WP V 148 8 ls (m_rv (R k 0) :: st) t I L R Q := wp_getR rfl (by decide) h1 h2
theorem i148_8  : WP V 148 8 ls st t I L R Q = WP V 148 9 ls (.int (nI 145) :: st) t I L R Q := wp_go rfl
theorem i148_9 {k j : Nat} (h2 : m_ar k 2 612 = true) (h1 : k < t) (h3 : j < 612) : WP V 148 9 ls (.int (nI j) :: .ref k :: st) t I L R Q = WP V 148 10 ls (.int (I k j) :: st) t I L R Q := wp_iaload rfl (by decide) h1 h2 h3
theorem i148_10 {w0 : Value} {x : Int32} : WP V 148 10 [w0, .int x] st t I L R Q = WP V 148 11 [w0, .int x] (.int x :: st) t I L R Q := wp_go rfl
theorem i148_11 {x y : Int32} : WP V 148 11 ls (.int y :: .int x :: st) t I L R Q = if x = y then WP V 148 14 ls st t I L R Q else WP V 148 12 ls st t I L R Q := wp_br (c := m_cc .eq x y) rfl rfl
theorem i148_12  : WP V 148 12 ls st t I L R Q = WP V 148 13 ls (.int (nI 1) :: st) t I L R Q := wp_go rfl
theorem i148_13  : WP V 148 13 ls st t I L R Q = WP V 148 15 ls st t I L R Q := wp_go rfl
theorem i148_14  : WP V 148 14 ls st t I L R Q = WP V 148 15 ls (.int (nI 0) :: st) t I L R Q := wp_go rfl
theorem i148_15 {x : Int32} (h : m_01 x = true) : WP V 148 15 ls [.int x] t I L R Q = Q (some (.int x)) t I L R := wp_rtz rfl rfl h
-- TransactionCellsModel.reads(II)I
theorem i149_0 {w0 w2 w3 w4 : Value} {x : Int32} : WP V 149 0 [w0, .int x, w2, w3, w4] st t I L R Q = WP V 149 1 [w0, .int x, w2, w3, w4] (.int x :: st) t I L R Q := wp_go rfl
theorem i149_1 {x0 : Int32}  : WP V 149 1 ls [.int x0] t I L R Q = WPC V 113 [.int x0] 149 2 ls [] t I L R Q := wp_cls (wp_ics rfl (by decide)) (by decide) (Nat.le_of_ble_eq_true rfl) rfl rfl (Nat.le_of_ble_eq_true rfl) (Nat.le_of_ble_eq_true rfl)
theorem i149_2 {p : Int32} {w0 w1 w3 w4 : Value} {x : Int32} : WP V 149 2 [w0, w1, .int p, w3, w4] (.int x :: st) t I L R Q = WP V 149 3 [w0, w1, .int p, .int x, w4] st t I L R Q := wp_go rfl
theorem i149_3 {w0 w1 w3 w4 : Value} {x : Int32} : WP V 149 3 [w0, w1, .int x, w3, w4] st t I L R Q = WP V 149 4 [w0, w1, .int x, w3, w4] (.int x :: st) t I L R Q := wp_go rfl
theorem i149_4 {x0 : Int32}  : WP V 149 4 ls [.int x0] t I L R Q = WPC V 112 [.int x0] 149 5 ls [] t I L R Q := wp_cls (wp_ics rfl (by decide)) (by decide) (Nat.le_of_ble_eq_true rfl) rfl rfl (Nat.le_of_ble_eq_true rfl) (Nat.le_of_ble_eq_true rfl)
theorem i149_5 {p : Int32} {w0 w1 w2 w4 : Value} {x : Int32} : WP V 149 5 [w0, w1, w2, .int p, w4] (.int x :: st) t I L R Q = WP V 149 6 [w0, w1, w2, .int p, .int x] st t I L R Q := wp_go rfl
theorem i149_6 {w1 w2 w3 w4 : Value} {x : Nat} : WP V 149 6 [.ref x, w1, w2, w3, w4] st t I L R Q = WP V 149 7 [.ref x, w1, w2, w3, w4] (.ref x :: st) t I L R Q := wp_go rfl
theorem i149_7 {k : Nat} (h1 : k < t) (h2 : m_ob k 8 = true) : WP V 149 7 ls (.ref k :: st) t I L R Q = WP V 149 8 ls (m_rv (R k 0) :: st) t I L R Q := wp_getR rfl (by decide) h1 h2
theorem i149_8 {w0 w1 w2 w4 : Value} {x : Int32} : WP V 149 8 [w0, w1, w2, .int x, w4] st t I L R Q = WP V 149 9 [w0, w1, w2, .int x, w4] (.int x :: st) t I L R Q := wp_go rfl
theorem i149_9  : WP V 149 9 ls st t I L R Q = WP V 149 10 ls (.int (nI 101) :: st) t I L R Q := wp_go rfl
theorem i149_10 {x y : Int32} : WP V 149 10 ls (.int y :: .int x :: st) t I L R Q = WP V 149 11 ls (.int (x + y) :: st) t I L R Q := wp_go rfl
theorem i149_11 {k j : Nat} (h2 : m_ar k 2 612 = true) (h1 : k < t) (h3 : j < 612) : WP V 149 11 ls (.int (nI j) :: .ref k :: st) t I L R Q = WP V 149 12 ls (.int (I k j) :: st) t I L R Q := wp_iaload rfl (by decide) h1 h2 h3
theorem i149_12 {x : Int32} : WP V 149 12 ls (.int x :: st) t I L R Q = if x = nI 0 then WP V 149 13 ls st t I L R Q else WP V 149 43 ls st t I L R Q := wp_brn (c := m_cc .ne x 0) rfl rfl
theorem i149_13 {w1 w2 w3 w4 : Value} {x : Nat} : WP V 149 13 [.ref x, w1, w2, w3, w4] st t I L R Q = WP V 149 14 [.ref x, w1, w2, w3, w4] (.ref x :: st) t I L R Q := wp_go rfl
theorem i149_14 {w1 w2 w3 w4 : Value} {x : Nat} : WP V 149 14 [.ref x, w1, w2, w3, w4] st t I L R Q = WP V 149 15 [.ref x, w1, w2, w3, w4] (.ref x :: st) t I L R Q := wp_go rfl
theorem i149_15 {k : Nat} (h1 : k < t) (h2 : m_ob k 8 = true) : WP V 149 15 ls (.ref k :: st) t I L R Q = WP V 149 16 ls (m_rv (R k 0) :: st) t I L R Q := wp_getR rfl (by decide) h1 h2
theorem i149_16 {w0 w1 w2 w3 : Value} {x : Int32} : WP V 149 16 [w0, w1, w2, w3, .int x] st t I L R Q = WP V 149 17 [w0, w1, w2, w3, .int x] (.int x :: st) t I L R Q := wp_go rfl
theorem i149_17 {k j : Nat} (h2 : m_ar k 2 612 = true) (h1 : k < t) (h3 : j < 612) : WP V 149 17 ls (.int (nI j) :: .ref k :: st) t I L R Q = WP V 149 18 ls (.int (I k j) :: st) t I L R Q := wp_iaload rfl (by decide) h1 h2 h3
theorem i149_18 {k : Nat} {x : Int32} (h1 : k < t) (h2 : m_ob k 8 = true) : WP V 149 18 ls (.int x :: .ref k :: st) t I L R Q = WP V 149 19 ls st t (m_sc I k (m_sc (I k) 22 x)) L R Q := wp_putI rfl (by decide) h1 h2
theorem i149_19 {w1 w2 w3 w4 : Value} {x : Nat} : WP V 149 19 [.ref x, w1, w2, w3, w4] st t I L R Q = WP V 149 20 [.ref x, w1, w2, w3, w4] (.ref x :: st) t I L R Q := wp_go rfl
theorem i149_20 {w1 w2 w3 w4 : Value} {x : Nat} : WP V 149 20 [.ref x, w1, w2, w3, w4] st t I L R Q = WP V 149 21 [.ref x, w1, w2, w3, w4] (.ref x :: st) t I L R Q := wp_go rfl
theorem i149_21 {k : Nat} (h1 : k < t) (h2 : m_ob k 8 = true) : WP V 149 21 ls (.ref k :: st) t I L R Q = WP V 149 22 ls (m_rv (R k 0) :: st) t I L R Q := wp_getR rfl (by decide) h1 h2
theorem i149_22 {w0 w1 w2 w3 : Value} {x : Int32} : WP V 149 22 [w0, w1, w2, w3, .int x] st t I L R Q = WP V 149 23 [w0, w1, w2, w3, .int x] (.int x :: st) t I L R Q := wp_go rfl
theorem i149_23  : WP V 149 23 ls st t I L R Q = WP V 149 24 ls (.int (nI 1) :: st) t I L R Q := wp_go rfl
theorem i149_24 {x y : Int32} : WP V 149 24 ls (.int y :: .int x :: st) t I L R Q = WP V 149 25 ls (.int (x + y) :: st) t I L R Q := wp_go rfl
theorem i149_25 {k j : Nat} (h2 : m_ar k 2 612 = true) (h1 : k < t) (h3 : j < 612) : WP V 149 25 ls (.int (nI j) :: .ref k :: st) t I L R Q = WP V 149 26 ls (.int (I k j) :: st) t I L R Q := wp_iaload rfl (by decide) h1 h2 h3
theorem i149_26 {k : Nat} {x : Int32} (h1 : k < t) (h2 : m_ob k 8 = true) : WP V 149 26 ls (.int x :: .ref k :: st) t I L R Q = WP V 149 27 ls st t (m_sc I k (m_sc (I k) 23 x)) L R Q := wp_putI rfl (by decide) h1 h2
theorem i149_27 {w1 w2 w3 w4 : Value} {x : Nat} : WP V 149 27 [.ref x, w1, w2, w3, w4] st t I L R Q = WP V 149 28 [.ref x, w1, w2, w3, w4] (.ref x :: st) t I L R Q := wp_go rfl
theorem i149_28 {k : Nat} (h1 : k < t) (h2 : m_ob k 8 = true) : WP V 149 28 ls (.ref k :: st) t I L R Q = WP V 149 29 ls (m_rv (R k 0) :: st) t I L R Q := wp_getR rfl (by decide) h1 h2
theorem i149_29 {w0 w1 w2 w3 : Value} {x : Int32} : WP V 149 29 [w0, w1, w2, w3, .int x] st t I L R Q = WP V 149 30 [w0, w1, w2, w3, .int x] (.int x :: st) t I L R Q := wp_go rfl
theorem i149_30  : WP V 149 30 ls st t I L R Q = WP V 149 31 ls (.int (nI 17) :: st) t I L R Q := wp_go rfl
theorem i149_31 {x y : Int32} : WP V 149 31 ls (.int y :: .int x :: st) t I L R Q = WP V 149 32 ls (.int (x + y) :: st) t I L R Q := wp_go rfl
theorem i149_32 {k j : Nat} (h2 : m_ar k 2 612 = true) (h1 : k < t) (h3 : j < 612) : WP V 149 32 ls (.int (nI j) :: .ref k :: st) t I L R Q = WP V 149 33 ls (.int (I k j) :: st) t I L R Q := wp_iaload rfl (by decide) h1 h2 h3
theorem i149_33  : WP V 149 33 ls st t I L R Q = WP V 149 34 ls (.int (-1) :: st) t I L R Q := wp_go rfl
theorem i149_34 {x y : Int32} : WP V 149 34 ls (.int y :: .int x :: st) t I L R Q = if x = y then WP V 149 35 ls st t I L R Q else WP V 149 39 ls st t I L R Q := wp_brn (c := m_cc .ne x y) rfl rfl
theorem i149_35 {w1 w2 w3 w4 : Value} {x : Nat} : WP V 149 35 [.ref x, w1, w2, w3, w4] st t I L R Q = WP V 149 36 [.ref x, w1, w2, w3, w4] (.ref x :: st) t I L R Q := wp_go rfl
theorem i149_36 {w0 w2 w3 w4 : Value} {x : Int32} : WP V 149 36 [w0, .int x, w2, w3, w4] st t I L R Q = WP V 149 37 [w0, .int x, w2, w3, w4] (.int x :: st) t I L R Q := wp_go rfl
theorem i149_37 {x0 : Int32} {x1 : Nat}  (h1 : x1 < t) (h2 : m_ob x1 8 = true) : WP V 149 37 ls [.int x0, .ref x1] t I L R Q = WPC V 148 [.ref x1, .int x0] 149 38 ls [] t I L R Q := wp_cls (wp_icv rfl rfl h1 h2) (by decide) (Nat.le_of_ble_eq_true rfl) rfl rfl (Nat.le_of_ble_eq_true rfl) (Nat.le_of_ble_eq_true rfl)
theorem i149_38 {x : Int32} : WP V 149 38 ls (.int x :: st) t I L R Q = if x = nI 0 then WP V 149 41 ls st t I L R Q else WP V 149 39 ls st t I L R Q := wp_br (c := m_cc .eq x 0) rfl rfl
theorem i149_39  : WP V 149 39 ls st t I L R Q = WP V 149 40 ls (.int (nI 1) :: st) t I L R Q := wp_go rfl
theorem i149_40  : WP V 149 40 ls st t I L R Q = WP V 149 42 ls st t I L R Q := wp_go rfl
theorem i149_41  : WP V 149 41 ls st t I L R Q = WP V 149 42 ls (.int (nI 0) :: st) t I L R Q := wp_go rfl
theorem i149_42 {x : Int32} : WP V 149 42 ls [.int x] t I L R Q = Q (some (.int x)) t I L R := wp_rti rfl rfl
theorem i149_43 {w1 w2 w3 w4 : Value} {x : Nat} : WP V 149 43 [.ref x, w1, w2, w3, w4] st t I L R Q = WP V 149 44 [.ref x, w1, w2, w3, w4] (.ref x :: st) t I L R Q := wp_go rfl
theorem i149_44 {k : Nat} (h1 : k < t) (h2 : m_ob k 8 = true) : WP V 149 44 ls (.ref k :: st) t I L R Q = WP V 149 45 ls (m_rv (R k 0) :: st) t I L R Q := wp_getR rfl (by decide) h1 h2
theorem i149_45 {w0 w1 w2 w4 : Value} {x : Int32} : WP V 149 45 [w0, w1, w2, .int x, w4] st t I L R Q = WP V 149 46 [w0, w1, w2, .int x, w4] (.int x :: st) t I L R Q := wp_go rfl
theorem i149_46  : WP V 149 46 ls st t I L R Q = WP V 149 47 ls (.int (nI 135) :: st) t I L R Q := wp_go rfl
theorem i149_47 {x y : Int32} : WP V 149 47 ls (.int y :: .int x :: st) t I L R Q = WP V 149 48 ls (.int (x + y) :: st) t I L R Q := wp_go rfl
theorem i149_48  : WP V 149 48 ls st t I L R Q = WP V 149 49 ls (.int (nI 2) :: st) t I L R Q := wp_go rfl
theorem i149_49 {w0 w1 w3 w4 : Value} {x : Int32} : WP V 149 49 [w0, w1, .int x, w3, w4] st t I L R Q = WP V 149 50 [w0, w1, .int x, w3, w4] (.int x :: st) t I L R Q := wp_go rfl
theorem i149_50 {x y : Int32} : WP V 149 50 ls (.int y :: .int x :: st) t I L R Q = WP V 149 51 ls (.int (x * y) :: st) t I L R Q := wp_go rfl
theorem i149_51 {x y : Int32} : WP V 149 51 ls (.int y :: .int x :: st) t I L R Q = WP V 149 52 ls (.int (x + y) :: st) t I L R Q := wp_go rfl
theorem i149_52 {k j : Nat} (h2 : m_ar k 2 612 = true) (h1 : k < t) (h3 : j < 612) : WP V 149 52 ls (.int (nI j) :: .ref k :: st) t I L R Q = WP V 149 53 ls (.int (I k j) :: st) t I L R Q := wp_iaload rfl (by decide) h1 h2 h3
theorem i149_53  : WP V 149 53 ls st t I L R Q = WP V 149 54 ls (.int (-1) :: st) t I L R Q := wp_go rfl
theorem i149_54 {x y : Int32} : WP V 149 54 ls (.int y :: .int x :: st) t I L R Q = if x = y then WP V 149 83 ls st t I L R Q else WP V 149 55 ls st t I L R Q := wp_br (c := m_cc .eq x y) rfl rfl
theorem i149_55 {w1 w2 w3 w4 : Value} {x : Nat} : WP V 149 55 [.ref x, w1, w2, w3, w4] st t I L R Q = WP V 149 56 [.ref x, w1, w2, w3, w4] (.ref x :: st) t I L R Q := wp_go rfl
theorem i149_56 {w1 w2 w3 w4 : Value} {x : Nat} : WP V 149 56 [.ref x, w1, w2, w3, w4] st t I L R Q = WP V 149 57 [.ref x, w1, w2, w3, w4] (.ref x :: st) t I L R Q := wp_go rfl
theorem i149_57 {k : Nat} (h1 : k < t) (h2 : m_ob k 8 = true) : WP V 149 57 ls (.ref k :: st) t I L R Q = WP V 149 58 ls (m_rv (R k 0) :: st) t I L R Q := wp_getR rfl (by decide) h1 h2
theorem i149_58 {w0 w1 w2 w4 : Value} {x : Int32} : WP V 149 58 [w0, w1, w2, .int x, w4] st t I L R Q = WP V 149 59 [w0, w1, w2, .int x, w4] (.int x :: st) t I L R Q := wp_go rfl
theorem i149_59  : WP V 149 59 ls st t I L R Q = WP V 149 60 ls (.int (nI 135) :: st) t I L R Q := wp_go rfl
theorem i149_60 {x y : Int32} : WP V 149 60 ls (.int y :: .int x :: st) t I L R Q = WP V 149 61 ls (.int (x + y) :: st) t I L R Q := wp_go rfl
theorem i149_61  : WP V 149 61 ls st t I L R Q = WP V 149 62 ls (.int (nI 2) :: st) t I L R Q := wp_go rfl
theorem i149_62 {w0 w1 w3 w4 : Value} {x : Int32} : WP V 149 62 [w0, w1, .int x, w3, w4] st t I L R Q = WP V 149 63 [w0, w1, .int x, w3, w4] (.int x :: st) t I L R Q := wp_go rfl
theorem i149_63 {x y : Int32} : WP V 149 63 ls (.int y :: .int x :: st) t I L R Q = WP V 149 64 ls (.int (x * y) :: st) t I L R Q := wp_go rfl
theorem i149_64 {x y : Int32} : WP V 149 64 ls (.int y :: .int x :: st) t I L R Q = WP V 149 65 ls (.int (x + y) :: st) t I L R Q := wp_go rfl
theorem i149_65 {k j : Nat} (h2 : m_ar k 2 612 = true) (h1 : k < t) (h3 : j < 612) : WP V 149 65 ls (.int (nI j) :: .ref k :: st) t I L R Q = WP V 149 66 ls (.int (I k j) :: st) t I L R Q := wp_iaload rfl (by decide) h1 h2 h3
theorem i149_66 {k : Nat} {x : Int32} (h1 : k < t) (h2 : m_ob k 8 = true) : WP V 149 66 ls (.int x :: .ref k :: st) t I L R Q = WP V 149 67 ls st t (m_sc I k (m_sc (I k) 22 x)) L R Q := wp_putI rfl (by decide) h1 h2
theorem i149_67 {w1 w2 w3 w4 : Value} {x : Nat} : WP V 149 67 [.ref x, w1, w2, w3, w4] st t I L R Q = WP V 149 68 [.ref x, w1, w2, w3, w4] (.ref x :: st) t I L R Q := wp_go rfl
theorem i149_68 {w1 w2 w3 w4 : Value} {x : Nat} : WP V 149 68 [.ref x, w1, w2, w3, w4] st t I L R Q = WP V 149 69 [.ref x, w1, w2, w3, w4] (.ref x :: st) t I L R Q := wp_go rfl
theorem i149_69 {k : Nat} (h1 : k < t) (h2 : m_ob k 8 = true) : WP V 149 69 ls (.ref k :: st) t I L R Q = WP V 149 70 ls (m_rv (R k 0) :: st) t I L R Q := wp_getR rfl (by decide) h1 h2
theorem i149_70 {w0 w1 w2 w4 : Value} {x : Int32} : WP V 149 70 [w0, w1, w2, .int x, w4] st t I L R Q = WP V 149 71 [w0, w1, w2, .int x, w4] (.int x :: st) t I L R Q := wp_go rfl
theorem i149_71  : WP V 149 71 ls st t I L R Q = WP V 149 72 ls (.int (nI 135) :: st) t I L R Q := wp_go rfl
theorem i149_72 {x y : Int32} : WP V 149 72 ls (.int y :: .int x :: st) t I L R Q = WP V 149 73 ls (.int (x + y) :: st) t I L R Q := wp_go rfl
theorem i149_73  : WP V 149 73 ls st t I L R Q = WP V 149 74 ls (.int (nI 2) :: st) t I L R Q := wp_go rfl
theorem i149_74 {w0 w1 w3 w4 : Value} {x : Int32} : WP V 149 74 [w0, w1, .int x, w3, w4] st t I L R Q = WP V 149 75 [w0, w1, .int x, w3, w4] (.int x :: st) t I L R Q := wp_go rfl
theorem i149_75 {x y : Int32} : WP V 149 75 ls (.int y :: .int x :: st) t I L R Q = WP V 149 76 ls (.int (x * y) :: st) t I L R Q := wp_go rfl
theorem i149_76 {x y : Int32} : WP V 149 76 ls (.int y :: .int x :: st) t I L R Q = WP V 149 77 ls (.int (x + y) :: st) t I L R Q := wp_go rfl
theorem i149_77  : WP V 149 77 ls st t I L R Q = WP V 149 78 ls (.int (nI 1) :: st) t I L R Q := wp_go rfl
theorem i149_78 {x y : Int32} : WP V 149 78 ls (.int y :: .int x :: st) t I L R Q = WP V 149 79 ls (.int (x + y) :: st) t I L R Q := wp_go rfl
theorem i149_79 {k j : Nat} (h2 : m_ar k 2 612 = true) (h1 : k < t) (h3 : j < 612) : WP V 149 79 ls (.int (nI j) :: .ref k :: st) t I L R Q = WP V 149 80 ls (.int (I k j) :: st) t I L R Q := wp_iaload rfl (by decide) h1 h2 h3
theorem i149_80 {k : Nat} {x : Int32} (h1 : k < t) (h2 : m_ob k 8 = true) : WP V 149 80 ls (.int x :: .ref k :: st) t I L R Q = WP V 149 81 ls st t (m_sc I k (m_sc (I k) 23 x)) L R Q := wp_putI rfl (by decide) h1 h2
theorem i149_81  : WP V 149 81 ls st t I L R Q = WP V 149 82 ls (.int (nI 0) :: st) t I L R Q := wp_go rfl
theorem i149_82 {x : Int32} : WP V 149 82 ls [.int x] t I L R Q = Q (some (.int x)) t I L R := wp_rti rfl rfl
theorem i149_83 {w1 w2 w3 w4 : Value} {x : Nat} : WP V 149 83 [.ref x, w1, w2, w3, w4] st t I L R Q = WP V 149 84 [.ref x, w1, w2, w3, w4] (.ref x :: st) t I L R Q := wp_go rfl
theorem i149_84 {k : Nat} (h1 : k < t) (h2 : m_ob k 8 = true) : WP V 149 84 ls (.ref k :: st) t I L R Q = WP V 149 85 ls (.int (I k 1) :: st) t I L R Q := wp_getI rfl (by decide) h1 h2
theorem i149_85  : WP V 149 85 ls st t I L R Q = WP V 149 86 ls (.int (nI 3) :: st) t I L R Q := wp_go rfl
theorem i149_86 {x y : Int32} : WP V 149 86 ls (.int y :: .int x :: st) t I L R Q = if x = y then WP V 149 87 ls st t I L R Q else WP V 149 102 ls st t I L R Q := wp_brn (c := m_cc .ne x y) rfl rfl
theorem i149_87 {w1 w2 w3 w4 : Value} {x : Nat} : WP V 149 87 [.ref x, w1, w2, w3, w4] st t I L R Q = WP V 149 88 [.ref x, w1, w2, w3, w4] (.ref x :: st) t I L R Q := wp_go rfl
theorem i149_88 {k : Nat} (h1 : k < t) (h2 : m_ob k 8 = true) : WP V 149 88 ls (.ref k :: st) t I L R Q = WP V 149 89 ls (m_rv (R k 0) :: st) t I L R Q := wp_getR rfl (by decide) h1 h2
theorem i149_89 {w0 w1 w2 w4 : Value} {x : Int32} : WP V 149 89 [w0, w1, w2, .int x, w4] st t I L R Q = WP V 149 90 [w0, w1, w2, .int x, w4] (.int x :: st) t I L R Q := wp_go rfl
theorem i149_90  : WP V 149 90 ls st t I L R Q = WP V 149 91 ls (.int (nI 111) :: st) t I L R Q := wp_go rfl
theorem i149_91 {x y : Int32} : WP V 149 91 ls (.int y :: .int x :: st) t I L R Q = WP V 149 92 ls (.int (x + y) :: st) t I L R Q := wp_go rfl
theorem i149_92 {w0 w1 w3 w4 : Value} {x : Int32} : WP V 149 92 [w0, w1, .int x, w3, w4] st t I L R Q = WP V 149 93 [w0, w1, .int x, w3, w4] (.int x :: st) t I L R Q := wp_go rfl
theorem i149_93 {x y : Int32} : WP V 149 93 ls (.int y :: .int x :: st) t I L R Q = WP V 149 94 ls (.int (x + y) :: st) t I L R Q := wp_go rfl
theorem i149_94 {w1 w2 w3 w4 : Value} {x : Nat} : WP V 149 94 [.ref x, w1, w2, w3, w4] st t I L R Q = WP V 149 95 [.ref x, w1, w2, w3, w4] (.ref x :: st) t I L R Q := wp_go rfl
theorem i149_95 {k : Nat} (h1 : k < t) (h2 : m_ob k 8 = true) : WP V 149 95 ls (.ref k :: st) t I L R Q = WP V 149 96 ls (m_rv (R k 0) :: st) t I L R Q := wp_getR rfl (by decide) h1 h2
theorem i149_96 {w0 w1 w2 w3 : Value} {x : Int32} : WP V 149 96 [w0, w1, w2, w3, .int x] st t I L R Q = WP V 149 97 [w0, w1, w2, w3, .int x] (.int x :: st) t I L R Q := wp_go rfl
theorem i149_97  : WP V 149 97 ls st t I L R Q = WP V 149 98 ls (.int (nI 2) :: st) t I L R Q := wp_go rfl
theorem i149_98 {x y : Int32} : WP V 149 98 ls (.int y :: .int x :: st) t I L R Q = WP V 149 99 ls (.int (x + y) :: st) t I L R Q := wp_go rfl
theorem i149_99 {k j : Nat} (h2 : m_ar k 2 612 = true) (h1 : k < t) (h3 : j < 612) : WP V 149 99 ls (.int (nI j) :: .ref k :: st) t I L R Q = WP V 149 100 ls (.int (I k j) :: st) t I L R Q := wp_iaload rfl (by decide) h1 h2 h3
theorem i149_100 {k j : Nat} {x : Int32} (h2 : m_ar k 2 612 = true) (h1 : k < t) (h3 : j < 612) : WP V 149 100 ls (.int x :: .int (nI j) :: .ref k :: st) t I L R Q = WP V 149 101 ls st t (m_sc I k (m_sc (I k) j x)) L R Q := wp_iastore rfl (by decide) h1 h2 h3
theorem i149_101  : WP V 149 101 ls st t I L R Q = WP V 149 223 ls st t I L R Q := wp_go rfl
theorem i149_102 {w1 w2 w3 w4 : Value} {x : Nat} : WP V 149 102 [.ref x, w1, w2, w3, w4] st t I L R Q = WP V 149 103 [.ref x, w1, w2, w3, w4] (.ref x :: st) t I L R Q := wp_go rfl
theorem i149_103 {w0 w2 w3 w4 : Value} {x : Int32} : WP V 149 103 [w0, .int x, w2, w3, w4] st t I L R Q = WP V 149 104 [w0, .int x, w2, w3, w4] (.int x :: st) t I L R Q := wp_go rfl
theorem i149_104 {w0 w1 w3 w4 : Value} {x : Int32} : WP V 149 104 [w0, w1, .int x, w3, w4] st t I L R Q = WP V 149 105 [w0, w1, .int x, w3, w4] (.int x :: st) t I L R Q := wp_go rfl
theorem i149_105 {x0 : Int32} {x1 : Int32} {x2 : Nat}  (h1 : x2 < t) (h2 : m_ob x2 8 = true) : WP V 149 105 ls [.int x0, .int x1, .ref x2] t I L R Q = WPC V 147 [.ref x2, .int x1, .int x0] 149 106 ls [] t I L R Q := wp_cls (wp_icv rfl rfl h1 h2) (by decide) (Nat.le_of_ble_eq_true rfl) rfl rfl (Nat.le_of_ble_eq_true rfl) (Nat.le_of_ble_eq_true rfl)
theorem i149_106 {x : Int32} : WP V 149 106 ls (.int x :: st) t I L R Q = if x = nI 0 then WP V 149 107 ls st t I L R Q else WP V 149 112 ls st t I L R Q := wp_brn (c := m_cc .ne x 0) rfl rfl
theorem i149_107 {w1 w2 w3 w4 : Value} {x : Nat} : WP V 149 107 [.ref x, w1, w2, w3, w4] st t I L R Q = WP V 149 108 [.ref x, w1, w2, w3, w4] (.ref x :: st) t I L R Q := wp_go rfl
theorem i149_108 {w0 w2 w3 w4 : Value} {x : Int32} : WP V 149 108 [w0, .int x, w2, w3, w4] st t I L R Q = WP V 149 109 [w0, .int x, w2, w3, w4] (.int x :: st) t I L R Q := wp_go rfl
theorem i149_109 {w0 w1 w3 w4 : Value} {x : Int32} : WP V 149 109 [w0, w1, .int x, w3, w4] st t I L R Q = WP V 149 110 [w0, w1, .int x, w3, w4] (.int x :: st) t I L R Q := wp_go rfl
theorem i149_110 {x0 : Int32} {x1 : Int32} {x2 : Nat}  (h1 : x2 < t) (h2 : m_ob x2 8 = true) : WP V 149 110 ls [.int x0, .int x1, .ref x2] t I L R Q = WPC V 146 [.ref x2, .int x1, .int x0] 149 111 ls [] t I L R Q := wp_cls (wp_icv rfl rfl h1 h2) (by decide) (Nat.le_of_ble_eq_true rfl) rfl rfl (Nat.le_of_ble_eq_true rfl) (Nat.le_of_ble_eq_true rfl)
theorem i149_111 {x : Int32} : WP V 149 111 ls (.int x :: st) t I L R Q = if x = nI 0 then WP V 149 114 ls st t I L R Q else WP V 149 112 ls st t I L R Q := wp_br (c := m_cc .eq x 0) rfl rfl
theorem i149_112  : WP V 149 112 ls st t I L R Q = WP V 149 113 ls (.int (nI 1) :: st) t I L R Q := wp_go rfl
theorem i149_113 {x : Int32} : WP V 149 113 ls [.int x] t I L R Q = Q (some (.int x)) t I L R := wp_rti rfl rfl
theorem i149_114 {w1 w2 w3 w4 : Value} {x : Nat} : WP V 149 114 [.ref x, w1, w2, w3, w4] st t I L R Q = WP V 149 115 [.ref x, w1, w2, w3, w4] (.ref x :: st) t I L R Q := wp_go rfl
theorem i149_115 {k : Nat} (h1 : k < t) (h2 : m_ob k 8 = true) : WP V 149 115 ls (.ref k :: st) t I L R Q = WP V 149 116 ls (m_rv (R k 0) :: st) t I L R Q := wp_getR rfl (by decide) h1 h2
theorem i149_116 {w0 w1 w2 w4 : Value} {x : Int32} : WP V 149 116 [w0, w1, w2, .int x, w4] st t I L R Q = WP V 149 117 [w0, w1, w2, .int x, w4] (.int x :: st) t I L R Q := wp_go rfl
theorem i149_117  : WP V 149 117 ls st t I L R Q = WP V 149 118 ls (.int (nI 102) :: st) t I L R Q := wp_go rfl
theorem i149_118 {x y : Int32} : WP V 149 118 ls (.int y :: .int x :: st) t I L R Q = WP V 149 119 ls (.int (x + y) :: st) t I L R Q := wp_go rfl
theorem i149_119 {k j : Nat} (h2 : m_ar k 2 612 = true) (h1 : k < t) (h3 : j < 612) : WP V 149 119 ls (.int (nI j) :: .ref k :: st) t I L R Q = WP V 149 120 ls (.int (I k j) :: st) t I L R Q := wp_iaload rfl (by decide) h1 h2 h3
theorem i149_120  : WP V 149 120 ls st t I L R Q = WP V 149 121 ls (.int (nI 3) :: st) t I L R Q := wp_go rfl
theorem i149_121 {x y : Int32} : WP V 149 121 ls (.int y :: .int x :: st) t I L R Q = if x = y then WP V 149 122 ls st t I L R Q else WP V 149 130 ls st t I L R Q := wp_brn (c := m_cc .ne x y) rfl rfl
theorem i149_122 {w1 w2 w3 w4 : Value} {x : Nat} : WP V 149 122 [.ref x, w1, w2, w3, w4] st t I L R Q = WP V 149 123 [.ref x, w1, w2, w3, w4] (.ref x :: st) t I L R Q := wp_go rfl
theorem i149_123 {k : Nat} (h1 : k < t) (h2 : m_ob k 8 = true) : WP V 149 123 ls (.ref k :: st) t I L R Q = WP V 149 124 ls (m_rv (R k 0) :: st) t I L R Q := wp_getR rfl (by decide) h1 h2
theorem i149_124 {w0 w1 w2 w3 : Value} {x : Int32} : WP V 149 124 [w0, w1, w2, w3, .int x] st t I L R Q = WP V 149 125 [w0, w1, w2, w3, .int x] (.int x :: st) t I L R Q := wp_go rfl
theorem i149_125  : WP V 149 125 ls st t I L R Q = WP V 149 126 ls (.int (nI 17) :: st) t I L R Q := wp_go rfl
theorem i149_126 {x y : Int32} : WP V 149 126 ls (.int y :: .int x :: st) t I L R Q = WP V 149 127 ls (.int (x + y) :: st) t I L R Q := wp_go rfl
theorem i149_127 {w0 w2 w3 w4 : Value} {x : Int32} : WP V 149 127 [w0, .int x, w2, w3, w4] st t I L R Q = WP V 149 128 [w0, .int x, w2, w3, w4] (.int x :: st) t I L R Q := wp_go rfl
theorem i149_128 {k j : Nat} {x : Int32} (h2 : m_ar k 2 612 = true) (h1 : k < t) (h3 : j < 612) : WP V 149 128 ls (.int x :: .int (nI j) :: .ref k :: st) t I L R Q = WP V 149 129 ls st t (m_sc I k (m_sc (I k) j x)) L R Q := wp_iastore rfl (by decide) h1 h2 h3
theorem i149_129  : WP V 149 129 ls st t I L R Q = WP V 149 223 ls st t I L R Q := wp_go rfl
theorem i149_130 {w1 w2 w3 w4 : Value} {x : Nat} : WP V 149 130 [.ref x, w1, w2, w3, w4] st t I L R Q = WP V 149 131 [.ref x, w1, w2, w3, w4] (.ref x :: st) t I L R Q := wp_go rfl
theorem i149_131 {k : Nat} (h1 : k < t) (h2 : m_ob k 8 = true) : WP V 149 131 ls (.ref k :: st) t I L R Q = WP V 149 132 ls (m_rv (R k 0) :: st) t I L R Q := wp_getR rfl (by decide) h1 h2
theorem i149_132 {w0 w1 w2 w4 : Value} {x : Int32} : WP V 149 132 [w0, w1, w2, .int x, w4] st t I L R Q = WP V 149 133 [w0, w1, w2, .int x, w4] (.int x :: st) t I L R Q := wp_go rfl
theorem i149_133  : WP V 149 133 ls st t I L R Q = WP V 149 134 ls (.int (nI 102) :: st) t I L R Q := wp_go rfl
theorem i149_134 {x y : Int32} : WP V 149 134 ls (.int y :: .int x :: st) t I L R Q = WP V 149 135 ls (.int (x + y) :: st) t I L R Q := wp_go rfl
theorem i149_135 {k j : Nat} (h2 : m_ar k 2 612 = true) (h1 : k < t) (h3 : j < 612) : WP V 149 135 ls (.int (nI j) :: .ref k :: st) t I L R Q = WP V 149 136 ls (.int (I k j) :: st) t I L R Q := wp_iaload rfl (by decide) h1 h2 h3
theorem i149_136  : WP V 149 136 ls st t I L R Q = WP V 149 137 ls (.int (nI 1) :: st) t I L R Q := wp_go rfl
theorem i149_137 {x y : Int32} : WP V 149 137 ls (.int y :: .int x :: st) t I L R Q = if x = y then WP V 149 138 ls st t I L R Q else WP V 149 147 ls st t I L R Q := wp_brn (c := m_cc .ne x y) rfl rfl
theorem i149_138 {w1 w2 w3 w4 : Value} {x : Nat} : WP V 149 138 [.ref x, w1, w2, w3, w4] st t I L R Q = WP V 149 139 [.ref x, w1, w2, w3, w4] (.ref x :: st) t I L R Q := wp_go rfl
theorem i149_139 {k : Nat} (h1 : k < t) (h2 : m_ob k 8 = true) : WP V 149 139 ls (.ref k :: st) t I L R Q = WP V 149 140 ls (.int (I k 1) :: st) t I L R Q := wp_getI rfl (by decide) h1 h2
theorem i149_140  : WP V 149 140 ls st t I L R Q = WP V 149 141 ls (.int (nI 2) :: st) t I L R Q := wp_go rfl
theorem i149_141 {x y : Int32} : WP V 149 141 ls (.int y :: .int x :: st) t I L R Q = if x = y then WP V 149 142 ls st t I L R Q else WP V 149 147 ls st t I L R Q := wp_brn (c := m_cc .ne x y) rfl rfl
theorem i149_142 {w1 w2 w3 w4 : Value} {x : Nat} : WP V 149 142 [.ref x, w1, w2, w3, w4] st t I L R Q = WP V 149 143 [.ref x, w1, w2, w3, w4] (.ref x :: st) t I L R Q := wp_go rfl
theorem i149_143 {w0 w2 w3 w4 : Value} {x : Int32} : WP V 149 143 [w0, .int x, w2, w3, w4] st t I L R Q = WP V 149 144 [w0, .int x, w2, w3, w4] (.int x :: st) t I L R Q := wp_go rfl
theorem i149_144 {w0 w1 w3 w4 : Value} {x : Int32} : WP V 149 144 [w0, w1, .int x, w3, w4] st t I L R Q = WP V 149 145 [w0, w1, .int x, w3, w4] (.int x :: st) t I L R Q := wp_go rfl
theorem i149_145 {x0 : Int32} {x1 : Int32} {x2 : Nat}  (h1 : x2 < t) (h2 : m_ob x2 8 = true) : WP V 149 145 ls [.int x0, .int x1, .ref x2] t I L R Q = WPC V 151 [.ref x2, .int x1, .int x0] 149 146 ls [] t I L R Q := wp_cls (wp_icv rfl rfl h1 h2) (by decide) (Nat.le_of_ble_eq_true rfl) rfl rfl (Nat.le_of_ble_eq_true rfl) (Nat.le_of_ble_eq_true rfl)
theorem i149_146 {x : Int32} : WP V 149 146 ls [.int x] t I L R Q = Q (some (.int x)) t I L R := wp_rti rfl rfl
theorem i149_147 {w1 w2 w3 w4 : Value} {x : Nat} : WP V 149 147 [.ref x, w1, w2, w3, w4] st t I L R Q = WP V 149 148 [.ref x, w1, w2, w3, w4] (.ref x :: st) t I L R Q := wp_go rfl
theorem i149_148 {k : Nat} (h1 : k < t) (h2 : m_ob k 8 = true) : WP V 149 148 ls (.ref k :: st) t I L R Q = WP V 149 149 ls (m_rv (R k 0) :: st) t I L R Q := wp_getR rfl (by decide) h1 h2
theorem i149_149 {w0 w1 w2 w4 : Value} {x : Int32} : WP V 149 149 [w0, w1, w2, .int x, w4] st t I L R Q = WP V 149 150 [w0, w1, w2, .int x, w4] (.int x :: st) t I L R Q := wp_go rfl
theorem i149_150  : WP V 149 150 ls st t I L R Q = WP V 149 151 ls (.int (nI 111) :: st) t I L R Q := wp_go rfl
theorem i149_151 {x y : Int32} : WP V 149 151 ls (.int y :: .int x :: st) t I L R Q = WP V 149 152 ls (.int (x + y) :: st) t I L R Q := wp_go rfl
theorem i149_152 {w0 w1 w3 w4 : Value} {x : Int32} : WP V 149 152 [w0, w1, .int x, w3, w4] st t I L R Q = WP V 149 153 [w0, w1, .int x, w3, w4] (.int x :: st) t I L R Q := wp_go rfl
theorem i149_153 {x y : Int32} : WP V 149 153 ls (.int y :: .int x :: st) t I L R Q = WP V 149 154 ls (.int (x + y) :: st) t I L R Q := wp_go rfl
theorem i149_154 {k j : Nat} (h2 : m_ar k 2 612 = true) (h1 : k < t) (h3 : j < 612) : WP V 149 154 ls (.int (nI j) :: .ref k :: st) t I L R Q = WP V 149 155 ls (.int (I k j) :: st) t I L R Q := wp_iaload rfl (by decide) h1 h2 h3
theorem i149_155  : WP V 149 155 ls st t I L R Q = WP V 149 156 ls (.int (-1) :: st) t I L R Q := wp_go rfl
theorem i149_156 {x y : Int32} : WP V 149 156 ls (.int y :: .int x :: st) t I L R Q = if x = y then WP V 149 177 ls st t I L R Q else WP V 149 157 ls st t I L R Q := wp_br (c := m_cc .eq x y) rfl rfl
theorem i149_157 {w1 w2 w3 w4 : Value} {x : Nat} : WP V 149 157 [.ref x, w1, w2, w3, w4] st t I L R Q = WP V 149 158 [.ref x, w1, w2, w3, w4] (.ref x :: st) t I L R Q := wp_go rfl
theorem i149_158 {k : Nat} (h1 : k < t) (h2 : m_ob k 8 = true) : WP V 149 158 ls (.ref k :: st) t I L R Q = WP V 149 159 ls (m_rv (R k 0) :: st) t I L R Q := wp_getR rfl (by decide) h1 h2
theorem i149_159 {w0 w1 w2 w4 : Value} {x : Int32} : WP V 149 159 [w0, w1, w2, .int x, w4] st t I L R Q = WP V 149 160 [w0, w1, w2, .int x, w4] (.int x :: st) t I L R Q := wp_go rfl
theorem i149_160  : WP V 149 160 ls st t I L R Q = WP V 149 161 ls (.int (nI 111) :: st) t I L R Q := wp_go rfl
theorem i149_161 {x y : Int32} : WP V 149 161 ls (.int y :: .int x :: st) t I L R Q = WP V 149 162 ls (.int (x + y) :: st) t I L R Q := wp_go rfl
theorem i149_162 {w0 w1 w3 w4 : Value} {x : Int32} : WP V 149 162 [w0, w1, .int x, w3, w4] st t I L R Q = WP V 149 163 [w0, w1, .int x, w3, w4] (.int x :: st) t I L R Q := wp_go rfl
theorem i149_163 {x y : Int32} : WP V 149 163 ls (.int y :: .int x :: st) t I L R Q = WP V 149 164 ls (.int (x + y) :: st) t I L R Q := wp_go rfl
theorem i149_164 {k j : Nat} (h2 : m_ar k 2 612 = true) (h1 : k < t) (h3 : j < 612) : WP V 149 164 ls (.int (nI j) :: .ref k :: st) t I L R Q = WP V 149 165 ls (.int (I k j) :: st) t I L R Q := wp_iaload rfl (by decide) h1 h2 h3
theorem i149_165 {w1 w2 w3 w4 : Value} {x : Nat} : WP V 149 165 [.ref x, w1, w2, w3, w4] st t I L R Q = WP V 149 166 [.ref x, w1, w2, w3, w4] (.ref x :: st) t I L R Q := wp_go rfl
theorem i149_166 {k : Nat} (h1 : k < t) (h2 : m_ob k 8 = true) : WP V 149 166 ls (.ref k :: st) t I L R Q = WP V 149 167 ls (m_rv (R k 0) :: st) t I L R Q := wp_getR rfl (by decide) h1 h2
theorem i149_167 {w0 w1 w2 w3 : Value} {x : Int32} : WP V 149 167 [w0, w1, w2, w3, .int x] st t I L R Q = WP V 149 168 [w0, w1, w2, w3, .int x] (.int x :: st) t I L R Q := wp_go rfl
theorem i149_168  : WP V 149 168 ls st t I L R Q = WP V 149 169 ls (.int (nI 2) :: st) t I L R Q := wp_go rfl
theorem i149_169 {x y : Int32} : WP V 149 169 ls (.int y :: .int x :: st) t I L R Q = WP V 149 170 ls (.int (x + y) :: st) t I L R Q := wp_go rfl
theorem i149_170 {k j : Nat} (h2 : m_ar k 2 612 = true) (h1 : k < t) (h3 : j < 612) : WP V 149 170 ls (.int (nI j) :: .ref k :: st) t I L R Q = WP V 149 171 ls (.int (I k j) :: st) t I L R Q := wp_iaload rfl (by decide) h1 h2 h3
theorem i149_171 {x y : Int32} : WP V 149 171 ls (.int y :: .int x :: st) t I L R Q = if x = y then WP V 149 223 ls st t I L R Q else WP V 149 172 ls st t I L R Q := wp_br (c := m_cc .eq x y) rfl rfl
theorem i149_172 {w1 w2 w3 w4 : Value} {x : Nat} : WP V 149 172 [.ref x, w1, w2, w3, w4] st t I L R Q = WP V 149 173 [.ref x, w1, w2, w3, w4] (.ref x :: st) t I L R Q := wp_go rfl
theorem i149_173 {w0 w2 w3 w4 : Value} {x : Int32} : WP V 149 173 [w0, .int x, w2, w3, w4] st t I L R Q = WP V 149 174 [w0, .int x, w2, w3, w4] (.int x :: st) t I L R Q := wp_go rfl
theorem i149_174 {x0 : Int32} {x1 : Nat}  (h1 : x1 < t) (h2 : m_ob x1 8 = true) : WP V 149 174 ls [.int x0, .ref x1] t I L R Q = WPC V 142 [.ref x1, .int x0] 149 175 ls [] t I L R Q := wp_cls (wp_icv rfl rfl h1 h2) (by decide) (Nat.le_of_ble_eq_true rfl) rfl rfl (Nat.le_of_ble_eq_true rfl) (Nat.le_of_ble_eq_true rfl)
theorem i149_175  : WP V 149 175 ls st t I L R Q = WP V 149 176 ls (.int (nI 2) :: st) t I L R Q := wp_go rfl
theorem i149_176 {x : Int32} : WP V 149 176 ls [.int x] t I L R Q = Q (some (.int x)) t I L R := wp_rti rfl rfl
theorem i149_177 {w1 w2 w3 w4 : Value} {x : Nat} : WP V 149 177 [.ref x, w1, w2, w3, w4] st t I L R Q = WP V 149 178 [.ref x, w1, w2, w3, w4] (.ref x :: st) t I L R Q := wp_go rfl
theorem i149_178 {k : Nat} (h1 : k < t) (h2 : m_ob k 8 = true) : WP V 149 178 ls (.ref k :: st) t I L R Q = WP V 149 179 ls (m_rv (R k 0) :: st) t I L R Q := wp_getR rfl (by decide) h1 h2
theorem i149_179 {w0 w1 w2 w3 : Value} {x : Int32} : WP V 149 179 [w0, w1, w2, w3, .int x] st t I L R Q = WP V 149 180 [w0, w1, w2, w3, .int x] (.int x :: st) t I L R Q := wp_go rfl
theorem i149_180  : WP V 149 180 ls st t I L R Q = WP V 149 181 ls (.int (nI 2) :: st) t I L R Q := wp_go rfl
theorem i149_181 {x y : Int32} : WP V 149 181 ls (.int y :: .int x :: st) t I L R Q = WP V 149 182 ls (.int (x + y) :: st) t I L R Q := wp_go rfl
theorem i149_182 {k j : Nat} (h2 : m_ar k 2 612 = true) (h1 : k < t) (h3 : j < 612) : WP V 149 182 ls (.int (nI j) :: .ref k :: st) t I L R Q = WP V 149 183 ls (.int (I k j) :: st) t I L R Q := wp_iaload rfl (by decide) h1 h2 h3
theorem i149_183 {w1 w2 w3 w4 : Value} {x : Nat} : WP V 149 183 [.ref x, w1, w2, w3, w4] st t I L R Q = WP V 149 184 [.ref x, w1, w2, w3, w4] (.ref x :: st) t I L R Q := wp_go rfl
theorem i149_184 {k : Nat} (h1 : k < t) (h2 : m_ob k 8 = true) : WP V 149 184 ls (.ref k :: st) t I L R Q = WP V 149 185 ls (m_rv (R k 0) :: st) t I L R Q := wp_getR rfl (by decide) h1 h2
theorem i149_185 {w0 w1 w2 w4 : Value} {x : Int32} : WP V 149 185 [w0, w1, w2, .int x, w4] st t I L R Q = WP V 149 186 [w0, w1, w2, .int x, w4] (.int x :: st) t I L R Q := wp_go rfl
theorem i149_186  : WP V 149 186 ls st t I L R Q = WP V 149 187 ls (.int (nI 103) :: st) t I L R Q := wp_go rfl
theorem i149_187 {x y : Int32} : WP V 149 187 ls (.int y :: .int x :: st) t I L R Q = WP V 149 188 ls (.int (x + y) :: st) t I L R Q := wp_go rfl
theorem i149_188 {k j : Nat} (h2 : m_ar k 2 612 = true) (h1 : k < t) (h3 : j < 612) : WP V 149 188 ls (.int (nI j) :: .ref k :: st) t I L R Q = WP V 149 189 ls (.int (I k j) :: st) t I L R Q := wp_iaload rfl (by decide) h1 h2 h3
theorem i149_189 {x y : Int32} : WP V 149 189 ls (.int y :: .int x :: st) t I L R Q = if x ≤ y then WP V 149 209 ls st t I L R Q else WP V 149 190 ls st t I L R Q := wp_br (c := m_cc .le x y) rfl rfl
theorem i149_190 {w1 w2 w3 w4 : Value} {x : Nat} : WP V 149 190 [.ref x, w1, w2, w3, w4] st t I L R Q = WP V 149 191 [.ref x, w1, w2, w3, w4] (.ref x :: st) t I L R Q := wp_go rfl
theorem i149_191 {w0 w2 w3 w4 : Value} {x : Int32} : WP V 149 191 [w0, .int x, w2, w3, w4] st t I L R Q = WP V 149 192 [w0, .int x, w2, w3, w4] (.int x :: st) t I L R Q := wp_go rfl
theorem i149_192 {x0 : Int32} {x1 : Nat}  (h1 : x1 < t) (h2 : m_ob x1 8 = true) : WP V 149 192 ls [.int x0, .ref x1] t I L R Q = WPC V 140 [.ref x1, .int x0] 149 193 ls [] t I L R Q := wp_cls (wp_icv rfl rfl h1 h2) (by decide) (Nat.le_of_ble_eq_true rfl) rfl rfl (Nat.le_of_ble_eq_true rfl) (Nat.le_of_ble_eq_true rfl)
theorem i149_193 {x : Int32} : WP V 149 193 ls (.int x :: st) t I L R Q = if x = nI 0 then WP V 149 199 ls st t I L R Q else WP V 149 194 ls st t I L R Q := wp_br (c := m_cc .eq x 0) rfl rfl
theorem i149_194 {w1 w2 w3 w4 : Value} {x : Nat} : WP V 149 194 [.ref x, w1, w2, w3, w4] st t I L R Q = WP V 149 195 [.ref x, w1, w2, w3, w4] (.ref x :: st) t I L R Q := wp_go rfl
theorem i149_195 {w0 w2 w3 w4 : Value} {x : Int32} : WP V 149 195 [w0, .int x, w2, w3, w4] st t I L R Q = WP V 149 196 [w0, .int x, w2, w3, w4] (.int x :: st) t I L R Q := wp_go rfl
theorem i149_196 {x0 : Int32} {x1 : Nat}  (h1 : x1 < t) (h2 : m_ob x1 8 = true) : WP V 149 196 ls [.int x0, .ref x1] t I L R Q = WPC V 142 [.ref x1, .int x0] 149 197 ls [] t I L R Q := wp_cls (wp_icv rfl rfl h1 h2) (by decide) (Nat.le_of_ble_eq_true rfl) rfl rfl (Nat.le_of_ble_eq_true rfl) (Nat.le_of_ble_eq_true rfl)
theorem i149_197  : WP V 149 197 ls st t I L R Q = WP V 149 198 ls (.int (nI 2) :: st) t I L R Q := wp_go rfl
theorem i149_198 {x : Int32} : WP V 149 198 ls [.int x] t I L R Q = Q (some (.int x)) t I L R := wp_rti rfl rfl
theorem i149_199 {w1 w2 w3 w4 : Value} {x : Nat} : WP V 149 199 [.ref x, w1, w2, w3, w4] st t I L R Q = WP V 149 200 [.ref x, w1, w2, w3, w4] (.ref x :: st) t I L R Q := wp_go rfl
theorem i149_200 {k : Nat} (h1 : k < t) (h2 : m_ob k 8 = true) : WP V 149 200 ls (.ref k :: st) t I L R Q = WP V 149 201 ls (m_rv (R k 0) :: st) t I L R Q := wp_getR rfl (by decide) h1 h2
theorem i149_201 {w0 w1 w2 w4 : Value} {x : Int32} : WP V 149 201 [w0, w1, w2, .int x, w4] st t I L R Q = WP V 149 202 [w0, w1, w2, .int x, w4] (.int x :: st) t I L R Q := wp_go rfl
theorem i149_202  : WP V 149 202 ls st t I L R Q = WP V 149 203 ls (.int (nI 103) :: st) t I L R Q := wp_go rfl
theorem i149_203 {x y : Int32} : WP V 149 203 ls (.int y :: .int x :: st) t I L R Q = WP V 149 204 ls (.int (x + y) :: st) t I L R Q := wp_go rfl
theorem i149_204 {w1 w2 w3 w4 : Value} {x : Nat} : WP V 149 204 [.ref x, w1, w2, w3, w4] st t I L R Q = WP V 149 205 [.ref x, w1, w2, w3, w4] (.ref x :: st) t I L R Q := wp_go rfl
theorem i149_205 {k : Nat} (h1 : k < t) (h2 : m_ob k 8 = true) : WP V 149 205 ls (.ref k :: st) t I L R Q = WP V 149 206 ls (m_rv (R k 0) :: st) t I L R Q := wp_getR rfl (by decide) h1 h2
theorem i149_206  : WP V 149 206 ls st t I L R Q = WP V 149 207 ls (.int (nI 144) :: st) t I L R Q := wp_go rfl
theorem i149_207 {k j : Nat} (h2 : m_ar k 2 612 = true) (h1 : k < t) (h3 : j < 612) : WP V 149 207 ls (.int (nI j) :: .ref k :: st) t I L R Q = WP V 149 208 ls (.int (I k j) :: st) t I L R Q := wp_iaload rfl (by decide) h1 h2 h3
theorem i149_208 {k j : Nat} {x : Int32} (h2 : m_ar k 2 612 = true) (h1 : k < t) (h3 : j < 612) : WP V 149 208 ls (.int x :: .int (nI j) :: .ref k :: st) t I L R Q = WP V 149 209 ls st t (m_sc I k (m_sc (I k) j x)) L R Q := wp_iastore rfl (by decide) h1 h2 h3
theorem i149_209 {w1 w2 w3 w4 : Value} {x : Nat} : WP V 149 209 [.ref x, w1, w2, w3, w4] st t I L R Q = WP V 149 210 [.ref x, w1, w2, w3, w4] (.ref x :: st) t I L R Q := wp_go rfl
theorem i149_210 {k : Nat} (h1 : k < t) (h2 : m_ob k 8 = true) : WP V 149 210 ls (.ref k :: st) t I L R Q = WP V 149 211 ls (m_rv (R k 0) :: st) t I L R Q := wp_getR rfl (by decide) h1 h2
theorem i149_211 {w0 w1 w2 w4 : Value} {x : Int32} : WP V 149 211 [w0, w1, w2, .int x, w4] st t I L R Q = WP V 149 212 [w0, w1, w2, .int x, w4] (.int x :: st) t I L R Q := wp_go rfl
theorem i149_212  : WP V 149 212 ls st t I L R Q = WP V 149 213 ls (.int (nI 111) :: st) t I L R Q := wp_go rfl
theorem i149_213 {x y : Int32} : WP V 149 213 ls (.int y :: .int x :: st) t I L R Q = WP V 149 214 ls (.int (x + y) :: st) t I L R Q := wp_go rfl
theorem i149_214 {w0 w1 w3 w4 : Value} {x : Int32} : WP V 149 214 [w0, w1, .int x, w3, w4] st t I L R Q = WP V 149 215 [w0, w1, .int x, w3, w4] (.int x :: st) t I L R Q := wp_go rfl
theorem i149_215 {x y : Int32} : WP V 149 215 ls (.int y :: .int x :: st) t I L R Q = WP V 149 216 ls (.int (x + y) :: st) t I L R Q := wp_go rfl
theorem i149_216 {w1 w2 w3 w4 : Value} {x : Nat} : WP V 149 216 [.ref x, w1, w2, w3, w4] st t I L R Q = WP V 149 217 [.ref x, w1, w2, w3, w4] (.ref x :: st) t I L R Q := wp_go rfl
theorem i149_217 {k : Nat} (h1 : k < t) (h2 : m_ob k 8 = true) : WP V 149 217 ls (.ref k :: st) t I L R Q = WP V 149 218 ls (m_rv (R k 0) :: st) t I L R Q := wp_getR rfl (by decide) h1 h2
theorem i149_218 {w0 w1 w2 w3 : Value} {x : Int32} : WP V 149 218 [w0, w1, w2, w3, .int x] st t I L R Q = WP V 149 219 [w0, w1, w2, w3, .int x] (.int x :: st) t I L R Q := wp_go rfl
theorem i149_219  : WP V 149 219 ls st t I L R Q = WP V 149 220 ls (.int (nI 2) :: st) t I L R Q := wp_go rfl
theorem i149_220 {x y : Int32} : WP V 149 220 ls (.int y :: .int x :: st) t I L R Q = WP V 149 221 ls (.int (x + y) :: st) t I L R Q := wp_go rfl
theorem i149_221 {k j : Nat} (h2 : m_ar k 2 612 = true) (h1 : k < t) (h3 : j < 612) : WP V 149 221 ls (.int (nI j) :: .ref k :: st) t I L R Q = WP V 149 222 ls (.int (I k j) :: st) t I L R Q := wp_iaload rfl (by decide) h1 h2 h3
theorem i149_222 {k j : Nat} {x : Int32} (h2 : m_ar k 2 612 = true) (h1 : k < t) (h3 : j < 612) : WP V 149 222 ls (.int x :: .int (nI j) :: .ref k :: st) t I L R Q = WP V 149 223 ls st t (m_sc I k (m_sc (I k) j x)) L R Q := wp_iastore rfl (by decide) h1 h2 h3
theorem i149_223 {w1 w2 w3 w4 : Value} {x : Nat} : WP V 149 223 [.ref x, w1, w2, w3, w4] st t I L R Q = WP V 149 224 [.ref x, w1, w2, w3, w4] (.ref x :: st) t I L R Q := wp_go rfl
theorem i149_224 {w1 w2 w3 w4 : Value} {x : Nat} : WP V 149 224 [.ref x, w1, w2, w3, w4] st t I L R Q = WP V 149 225 [.ref x, w1, w2, w3, w4] (.ref x :: st) t I L R Q := wp_go rfl
theorem i149_225 {k : Nat} (h1 : k < t) (h2 : m_ob k 8 = true) : WP V 149 225 ls (.ref k :: st) t I L R Q = WP V 149 226 ls (m_rv (R k 0) :: st) t I L R Q := wp_getR rfl (by decide) h1 h2
theorem i149_226 {w0 w1 w2 w3 : Value} {x : Int32} : WP V 149 226 [w0, w1, w2, w3, .int x] st t I L R Q = WP V 149 227 [w0, w1, w2, w3, .int x] (.int x :: st) t I L R Q := wp_go rfl
theorem i149_227 {k j : Nat} (h2 : m_ar k 2 612 = true) (h1 : k < t) (h3 : j < 612) : WP V 149 227 ls (.int (nI j) :: .ref k :: st) t I L R Q = WP V 149 228 ls (.int (I k j) :: st) t I L R Q := wp_iaload rfl (by decide) h1 h2 h3
theorem i149_228 {k : Nat} {x : Int32} (h1 : k < t) (h2 : m_ob k 8 = true) : WP V 149 228 ls (.int x :: .ref k :: st) t I L R Q = WP V 149 229 ls st t (m_sc I k (m_sc (I k) 22 x)) L R Q := wp_putI rfl (by decide) h1 h2
theorem i149_229 {w1 w2 w3 w4 : Value} {x : Nat} : WP V 149 229 [.ref x, w1, w2, w3, w4] st t I L R Q = WP V 149 230 [.ref x, w1, w2, w3, w4] (.ref x :: st) t I L R Q := wp_go rfl
theorem i149_230 {w1 w2 w3 w4 : Value} {x : Nat} : WP V 149 230 [.ref x, w1, w2, w3, w4] st t I L R Q = WP V 149 231 [.ref x, w1, w2, w3, w4] (.ref x :: st) t I L R Q := wp_go rfl
theorem i149_231 {k : Nat} (h1 : k < t) (h2 : m_ob k 8 = true) : WP V 149 231 ls (.ref k :: st) t I L R Q = WP V 149 232 ls (m_rv (R k 0) :: st) t I L R Q := wp_getR rfl (by decide) h1 h2
theorem i149_232 {w0 w1 w2 w3 : Value} {x : Int32} : WP V 149 232 [w0, w1, w2, w3, .int x] st t I L R Q = WP V 149 233 [w0, w1, w2, w3, .int x] (.int x :: st) t I L R Q := wp_go rfl
theorem i149_233  : WP V 149 233 ls st t I L R Q = WP V 149 234 ls (.int (nI 1) :: st) t I L R Q := wp_go rfl
theorem i149_234 {x y : Int32} : WP V 149 234 ls (.int y :: .int x :: st) t I L R Q = WP V 149 235 ls (.int (x + y) :: st) t I L R Q := wp_go rfl
theorem i149_235 {k j : Nat} (h2 : m_ar k 2 612 = true) (h1 : k < t) (h3 : j < 612) : WP V 149 235 ls (.int (nI j) :: .ref k :: st) t I L R Q = WP V 149 236 ls (.int (I k j) :: st) t I L R Q := wp_iaload rfl (by decide) h1 h2 h3
theorem i149_236 {k : Nat} {x : Int32} (h1 : k < t) (h2 : m_ob k 8 = true) : WP V 149 236 ls (.int x :: .ref k :: st) t I L R Q = WP V 149 237 ls st t (m_sc I k (m_sc (I k) 23 x)) L R Q := wp_putI rfl (by decide) h1 h2
theorem i149_237 {w1 w2 w3 w4 : Value} {x : Nat} : WP V 149 237 [.ref x, w1, w2, w3, w4] st t I L R Q = WP V 149 238 [.ref x, w1, w2, w3, w4] (.ref x :: st) t I L R Q := wp_go rfl
theorem i149_238 {w0 w2 w3 w4 : Value} {x : Int32} : WP V 149 238 [w0, .int x, w2, w3, w4] st t I L R Q = WP V 149 239 [w0, .int x, w2, w3, w4] (.int x :: st) t I L R Q := wp_go rfl
theorem i149_239 {w0 w1 w3 w4 : Value} {x : Int32} : WP V 149 239 [w0, w1, .int x, w3, w4] st t I L R Q = WP V 149 240 [w0, w1, .int x, w3, w4] (.int x :: st) t I L R Q := wp_go rfl
theorem i149_240 {x0 : Int32} {x1 : Int32} {x2 : Nat}  (h1 : x2 < t) (h2 : m_ob x2 8 = true) : WP V 149 240 ls [.int x0, .int x1, .ref x2] t I L R Q = WPC V 150 [.ref x2, .int x1, .int x0] 149 241 ls [] t I L R Q := wp_cls (wp_icv rfl rfl h1 h2) (by decide) (Nat.le_of_ble_eq_true rfl) rfl rfl (Nat.le_of_ble_eq_true rfl) (Nat.le_of_ble_eq_true rfl)
theorem i149_241  : WP V 149 241 ls st t I L R Q = WP V 149 242 ls (.int (nI 0) :: st) t I L R Q := wp_go rfl
theorem i149_242 {x : Int32} : WP V 149 242 ls [.int x] t I L R Q = Q (some (.int x)) t I L R := wp_rti rfl rfl
-- TransactionCellsModel.seen(II)V
theorem i150_0 {w0 w2 w3 : Value} {x : Int32} : WP V 150 0 [w0, .int x, w2, w3] st t I L R Q = WP V 150 1 [w0, .int x, w2, w3] (.int x :: st) t I L R Q := wp_go rfl
theorem i150_1 {x0 : Int32}  : WP V 150 1 ls [.int x0] t I L R Q = WPC V 113 [.int x0] 150 2 ls [] t I L R Q := wp_cls (wp_ics rfl (by decide)) (by decide) (Nat.le_of_ble_eq_true rfl) rfl rfl (Nat.le_of_ble_eq_true rfl) (Nat.le_of_ble_eq_true rfl)
theorem i150_2 {p : Int32} {w0 w1 w3 : Value} {x : Int32} : WP V 150 2 [w0, w1, .int p, w3] (.int x :: st) t I L R Q = WP V 150 3 [w0, w1, .int p, .int x] st t I L R Q := wp_go rfl
theorem i150_3 {w1 w2 w3 : Value} {x : Nat} : WP V 150 3 [.ref x, w1, w2, w3] st t I L R Q = WP V 150 4 [.ref x, w1, w2, w3] (.ref x :: st) t I L R Q := wp_go rfl
theorem i150_4 {k : Nat} (h1 : k < t) (h2 : m_ob k 8 = true) : WP V 150 4 ls (.ref k :: st) t I L R Q = WP V 150 5 ls (m_rv (R k 0) :: st) t I L R Q := wp_getR rfl (by decide) h1 h2
theorem i150_5 {w0 w1 w2 : Value} {x : Int32} : WP V 150 5 [w0, w1, w2, .int x] st t I L R Q = WP V 150 6 [w0, w1, w2, .int x] (.int x :: st) t I L R Q := wp_go rfl
theorem i150_6  : WP V 150 6 ls st t I L R Q = WP V 150 7 ls (.int (nI 119) :: st) t I L R Q := wp_go rfl
theorem i150_7 {x y : Int32} : WP V 150 7 ls (.int y :: .int x :: st) t I L R Q = WP V 150 8 ls (.int (x + y) :: st) t I L R Q := wp_go rfl
theorem i150_8  : WP V 150 8 ls st t I L R Q = WP V 150 9 ls (.int (nI 2) :: st) t I L R Q := wp_go rfl
theorem i150_9 {w0 w1 w3 : Value} {x : Int32} : WP V 150 9 [w0, w1, .int x, w3] st t I L R Q = WP V 150 10 [w0, w1, .int x, w3] (.int x :: st) t I L R Q := wp_go rfl
theorem i150_10 {x y : Int32} : WP V 150 10 ls (.int y :: .int x :: st) t I L R Q = WP V 150 11 ls (.int (x * y) :: st) t I L R Q := wp_go rfl
theorem i150_11 {x y : Int32} : WP V 150 11 ls (.int y :: .int x :: st) t I L R Q = WP V 150 12 ls (.int (x + y) :: st) t I L R Q := wp_go rfl
theorem i150_12 {k j : Nat} (h2 : m_ar k 2 612 = true) (h1 : k < t) (h3 : j < 612) : WP V 150 12 ls (.int (nI j) :: .ref k :: st) t I L R Q = WP V 150 13 ls (.int (I k j) :: st) t I L R Q := wp_iaload rfl (by decide) h1 h2 h3
theorem i150_13  : WP V 150 13 ls st t I L R Q = WP V 150 14 ls (.int (-1) :: st) t I L R Q := wp_go rfl
theorem i150_14 {x y : Int32} : WP V 150 14 ls (.int y :: .int x :: st) t I L R Q = if x = y then WP V 150 15 ls st t I L R Q else WP V 150 41 ls st t I L R Q := wp_brn (c := m_cc .ne x y) rfl rfl
theorem i150_15 {w1 w2 w3 : Value} {x : Nat} : WP V 150 15 [.ref x, w1, w2, w3] st t I L R Q = WP V 150 16 [.ref x, w1, w2, w3] (.ref x :: st) t I L R Q := wp_go rfl
theorem i150_16 {k : Nat} (h1 : k < t) (h2 : m_ob k 8 = true) : WP V 150 16 ls (.ref k :: st) t I L R Q = WP V 150 17 ls (m_rv (R k 0) :: st) t I L R Q := wp_getR rfl (by decide) h1 h2
theorem i150_17 {w0 w1 w2 : Value} {x : Int32} : WP V 150 17 [w0, w1, w2, .int x] st t I L R Q = WP V 150 18 [w0, w1, w2, .int x] (.int x :: st) t I L R Q := wp_go rfl
theorem i150_18  : WP V 150 18 ls st t I L R Q = WP V 150 19 ls (.int (nI 119) :: st) t I L R Q := wp_go rfl
theorem i150_19 {x y : Int32} : WP V 150 19 ls (.int y :: .int x :: st) t I L R Q = WP V 150 20 ls (.int (x + y) :: st) t I L R Q := wp_go rfl
theorem i150_20  : WP V 150 20 ls st t I L R Q = WP V 150 21 ls (.int (nI 2) :: st) t I L R Q := wp_go rfl
theorem i150_21 {w0 w1 w3 : Value} {x : Int32} : WP V 150 21 [w0, w1, .int x, w3] st t I L R Q = WP V 150 22 [w0, w1, .int x, w3] (.int x :: st) t I L R Q := wp_go rfl
theorem i150_22 {x y : Int32} : WP V 150 22 ls (.int y :: .int x :: st) t I L R Q = WP V 150 23 ls (.int (x * y) :: st) t I L R Q := wp_go rfl
theorem i150_23 {x y : Int32} : WP V 150 23 ls (.int y :: .int x :: st) t I L R Q = WP V 150 24 ls (.int (x + y) :: st) t I L R Q := wp_go rfl
theorem i150_24 {w1 w2 w3 : Value} {x : Nat} : WP V 150 24 [.ref x, w1, w2, w3] st t I L R Q = WP V 150 25 [.ref x, w1, w2, w3] (.ref x :: st) t I L R Q := wp_go rfl
theorem i150_25 {k : Nat} (h1 : k < t) (h2 : m_ob k 8 = true) : WP V 150 25 ls (.ref k :: st) t I L R Q = WP V 150 26 ls (.int (I k 22) :: st) t I L R Q := wp_getI rfl (by decide) h1 h2
theorem i150_26 {k j : Nat} {x : Int32} (h2 : m_ar k 2 612 = true) (h1 : k < t) (h3 : j < 612) : WP V 150 26 ls (.int x :: .int (nI j) :: .ref k :: st) t I L R Q = WP V 150 27 ls st t (m_sc I k (m_sc (I k) j x)) L R Q := wp_iastore rfl (by decide) h1 h2 h3
theorem i150_27 {w1 w2 w3 : Value} {x : Nat} : WP V 150 27 [.ref x, w1, w2, w3] st t I L R Q = WP V 150 28 [.ref x, w1, w2, w3] (.ref x :: st) t I L R Q := wp_go rfl
theorem i150_28 {k : Nat} (h1 : k < t) (h2 : m_ob k 8 = true) : WP V 150 28 ls (.ref k :: st) t I L R Q = WP V 150 29 ls (m_rv (R k 0) :: st) t I L R Q := wp_getR rfl (by decide) h1 h2
theorem i150_29 {w0 w1 w2 : Value} {x : Int32} : WP V 150 29 [w0, w1, w2, .int x] st t I L R Q = WP V 150 30 [w0, w1, w2, .int x] (.int x :: st) t I L R Q := wp_go rfl
theorem i150_30  : WP V 150 30 ls st t I L R Q = WP V 150 31 ls (.int (nI 119) :: st) t I L R Q := wp_go rfl
theorem i150_31 {x y : Int32} : WP V 150 31 ls (.int y :: .int x :: st) t I L R Q = WP V 150 32 ls (.int (x + y) :: st) t I L R Q := wp_go rfl
theorem i150_32  : WP V 150 32 ls st t I L R Q = WP V 150 33 ls (.int (nI 2) :: st) t I L R Q := wp_go rfl
theorem i150_33 {w0 w1 w3 : Value} {x : Int32} : WP V 150 33 [w0, w1, .int x, w3] st t I L R Q = WP V 150 34 [w0, w1, .int x, w3] (.int x :: st) t I L R Q := wp_go rfl
theorem i150_34 {x y : Int32} : WP V 150 34 ls (.int y :: .int x :: st) t I L R Q = WP V 150 35 ls (.int (x * y) :: st) t I L R Q := wp_go rfl
theorem i150_35 {x y : Int32} : WP V 150 35 ls (.int y :: .int x :: st) t I L R Q = WP V 150 36 ls (.int (x + y) :: st) t I L R Q := wp_go rfl
theorem i150_36  : WP V 150 36 ls st t I L R Q = WP V 150 37 ls (.int (nI 1) :: st) t I L R Q := wp_go rfl
theorem i150_37 {x y : Int32} : WP V 150 37 ls (.int y :: .int x :: st) t I L R Q = WP V 150 38 ls (.int (x + y) :: st) t I L R Q := wp_go rfl
theorem i150_38 {w1 w2 w3 : Value} {x : Nat} : WP V 150 38 [.ref x, w1, w2, w3] st t I L R Q = WP V 150 39 [.ref x, w1, w2, w3] (.ref x :: st) t I L R Q := wp_go rfl
theorem i150_39 {k : Nat} (h1 : k < t) (h2 : m_ob k 8 = true) : WP V 150 39 ls (.ref k :: st) t I L R Q = WP V 150 40 ls (.int (I k 23) :: st) t I L R Q := wp_getI rfl (by decide) h1 h2
theorem i150_40 {k j : Nat} {x : Int32} (h2 : m_ar k 2 612 = true) (h1 : k < t) (h3 : j < 612) : WP V 150 40 ls (.int x :: .int (nI j) :: .ref k :: st) t I L R Q = WP V 150 41 ls st t (m_sc I k (m_sc (I k) j x)) L R Q := wp_iastore rfl (by decide) h1 h2 h3
theorem i150_41  : WP V 150 41 ls [] t I L R Q = Q none t I L R := wp_rtv rfl rfl
-- TransactionCellsModel.pictured(II)I
theorem i151_0 {w0 w2 w3 w4 w5 : Value} {x : Int32} : WP V 151 0 [w0, .int x, w2, w3, w4, w5] st t I L R Q = WP V 151 1 [w0, .int x, w2, w3, w4, w5] (.int x :: st) t I L R Q := wp_go rfl
theorem i151_1 {x0 : Int32}  : WP V 151 1 ls [.int x0] t I L R Q = WPC V 113 [.int x0] 151 2 ls [] t I L R Q := wp_cls (wp_ics rfl (by decide)) (by decide) (Nat.le_of_ble_eq_true rfl) rfl rfl (Nat.le_of_ble_eq_true rfl) (Nat.le_of_ble_eq_true rfl)
theorem i151_2 {p : Int32} {w0 w1 w3 w4 w5 : Value} {x : Int32} : WP V 151 2 [w0, w1, .int p, w3, w4, w5] (.int x :: st) t I L R Q = WP V 151 3 [w0, w1, .int p, .int x, w4, w5] st t I L R Q := wp_go rfl
theorem i151_3 {w0 w1 w3 w4 w5 : Value} {x : Int32} : WP V 151 3 [w0, w1, .int x, w3, w4, w5] st t I L R Q = WP V 151 4 [w0, w1, .int x, w3, w4, w5] (.int x :: st) t I L R Q := wp_go rfl
theorem i151_4 {x0 : Int32}  : WP V 151 4 ls [.int x0] t I L R Q = WPC V 112 [.int x0] 151 5 ls [] t I L R Q := wp_cls (wp_ics rfl (by decide)) (by decide) (Nat.le_of_ble_eq_true rfl) rfl rfl (Nat.le_of_ble_eq_true rfl) (Nat.le_of_ble_eq_true rfl)
theorem i151_5 {p : Int32} {w0 w1 w2 w4 w5 : Value} {x : Int32} : WP V 151 5 [w0, w1, w2, .int p, w4, w5] (.int x :: st) t I L R Q = WP V 151 6 [w0, w1, w2, .int p, .int x, w5] st t I L R Q := wp_go rfl
theorem i151_6  : WP V 151 6 ls st t I L R Q = WP V 151 7 ls (.int (nI 0) :: st) t I L R Q := wp_go rfl
theorem i151_7 {p : Int32} {w0 w1 w2 w3 w5 : Value} {x : Int32} : WP V 151 7 [w0, w1, w2, w3, .int p, w5] (.int x :: st) t I L R Q = WP V 151 8 [w0, w1, w2, w3, .int p, .int x] st t I L R Q := wp_go rfl
theorem i151_8 {w0 w1 w2 w3 w4 : Value} {x : Int32} : WP V 151 8 [w0, w1, w2, w3, w4, .int x] st t I L R Q = WP V 151 9 [w0, w1, w2, w3, w4, .int x] (.int x :: st) t I L R Q := wp_go rfl
theorem i151_9 {w1 w2 w3 w4 w5 : Value} {x : Nat} : WP V 151 9 [.ref x, w1, w2, w3, w4, w5] st t I L R Q = WP V 151 10 [.ref x, w1, w2, w3, w4, w5] (.ref x :: st) t I L R Q := wp_go rfl
theorem i151_10 {k : Nat} (h1 : k < t) (h2 : m_ob k 8 = true) : WP V 151 10 ls (.ref k :: st) t I L R Q = WP V 151 11 ls (m_rv (R k 0) :: st) t I L R Q := wp_getR rfl (by decide) h1 h2
theorem i151_11 {w0 w1 w2 w3 w5 : Value} {x : Int32} : WP V 151 11 [w0, w1, w2, w3, .int x, w5] st t I L R Q = WP V 151 12 [w0, w1, w2, w3, .int x, w5] (.int x :: st) t I L R Q := wp_go rfl
theorem i151_12  : WP V 151 12 ls st t I L R Q = WP V 151 13 ls (.int (nI 15) :: st) t I L R Q := wp_go rfl
theorem i151_13 {x y : Int32} : WP V 151 13 ls (.int y :: .int x :: st) t I L R Q = WP V 151 14 ls (.int (x + y) :: st) t I L R Q := wp_go rfl
theorem i151_14 {k j : Nat} (h2 : m_ar k 2 612 = true) (h1 : k < t) (h3 : j < 612) : WP V 151 14 ls (.int (nI j) :: .ref k :: st) t I L R Q = WP V 151 15 ls (.int (I k j) :: st) t I L R Q := wp_iaload rfl (by decide) h1 h2 h3
theorem i151_15 {x y : Int32} : WP V 151 15 ls (.int y :: .int x :: st) t I L R Q = if y ≤ x then WP V 151 69 ls st t I L R Q else WP V 151 16 ls st t I L R Q := wp_br (c := m_cc .ge x y) rfl rfl
theorem i151_16 {w1 w2 w3 w4 w5 : Value} {x : Nat} : WP V 151 16 [.ref x, w1, w2, w3, w4, w5] st t I L R Q = WP V 151 17 [.ref x, w1, w2, w3, w4, w5] (.ref x :: st) t I L R Q := wp_go rfl
theorem i151_17 {k : Nat} (h1 : k < t) (h2 : m_ob k 8 = true) : WP V 151 17 ls (.ref k :: st) t I L R Q = WP V 151 18 ls (m_rv (R k 0) :: st) t I L R Q := wp_getR rfl (by decide) h1 h2
theorem i151_18 {w0 w1 w2 w3 w5 : Value} {x : Int32} : WP V 151 18 [w0, w1, w2, w3, .int x, w5] st t I L R Q = WP V 151 19 [w0, w1, w2, w3, .int x, w5] (.int x :: st) t I L R Q := wp_go rfl
theorem i151_19  : WP V 151 19 ls st t I L R Q = WP V 151 20 ls (.int (nI 3) :: st) t I L R Q := wp_go rfl
theorem i151_20 {x y : Int32} : WP V 151 20 ls (.int y :: .int x :: st) t I L R Q = WP V 151 21 ls (.int (x + y) :: st) t I L R Q := wp_go rfl
theorem i151_21  : WP V 151 21 ls st t I L R Q = WP V 151 22 ls (.int (nI 3) :: st) t I L R Q := wp_go rfl
theorem i151_22 {w0 w1 w2 w3 w4 : Value} {x : Int32} : WP V 151 22 [w0, w1, w2, w3, w4, .int x] st t I L R Q = WP V 151 23 [w0, w1, w2, w3, w4, .int x] (.int x :: st) t I L R Q := wp_go rfl
theorem i151_23 {x y : Int32} : WP V 151 23 ls (.int y :: .int x :: st) t I L R Q = WP V 151 24 ls (.int (x * y) :: st) t I L R Q := wp_go rfl
theorem i151_24 {x y : Int32} : WP V 151 24 ls (.int y :: .int x :: st) t I L R Q = WP V 151 25 ls (.int (x + y) :: st) t I L R Q := wp_go rfl
theorem i151_25  : WP V 151 25 ls st t I L R Q = WP V 151 26 ls (.int (nI 2) :: st) t I L R Q := wp_go rfl
theorem i151_26 {x y : Int32} : WP V 151 26 ls (.int y :: .int x :: st) t I L R Q = WP V 151 27 ls (.int (x + y) :: st) t I L R Q := wp_go rfl
theorem i151_27 {k j : Nat} (h2 : m_ar k 2 612 = true) (h1 : k < t) (h3 : j < 612) : WP V 151 27 ls (.int (nI j) :: .ref k :: st) t I L R Q = WP V 151 28 ls (.int (I k j) :: st) t I L R Q := wp_iaload rfl (by decide) h1 h2 h3
theorem i151_28 {w1 w2 w3 w4 w5 : Value} {x : Nat} : WP V 151 28 [.ref x, w1, w2, w3, w4, w5] st t I L R Q = WP V 151 29 [.ref x, w1, w2, w3, w4, w5] (.ref x :: st) t I L R Q := wp_go rfl
theorem i151_29 {k : Nat} (h1 : k < t) (h2 : m_ob k 8 = true) : WP V 151 29 ls (.ref k :: st) t I L R Q = WP V 151 30 ls (m_rv (R k 0) :: st) t I L R Q := wp_getR rfl (by decide) h1 h2
theorem i151_30 {w0 w1 w2 w4 w5 : Value} {x : Int32} : WP V 151 30 [w0, w1, w2, .int x, w4, w5] st t I L R Q = WP V 151 31 [w0, w1, w2, .int x, w4, w5] (.int x :: st) t I L R Q := wp_go rfl
theorem i151_31  : WP V 151 31 ls st t I L R Q = WP V 151 32 ls (.int (nI 103) :: st) t I L R Q := wp_go rfl
theorem i151_32 {x y : Int32} : WP V 151 32 ls (.int y :: .int x :: st) t I L R Q = WP V 151 33 ls (.int (x + y) :: st) t I L R Q := wp_go rfl
theorem i151_33 {k j : Nat} (h2 : m_ar k 2 612 = true) (h1 : k < t) (h3 : j < 612) : WP V 151 33 ls (.int (nI j) :: .ref k :: st) t I L R Q = WP V 151 34 ls (.int (I k j) :: st) t I L R Q := wp_iaload rfl (by decide) h1 h2 h3
theorem i151_34 {x y : Int32} : WP V 151 34 ls (.int y :: .int x :: st) t I L R Q = if y < x then WP V 151 67 ls st t I L R Q else WP V 151 35 ls st t I L R Q := wp_br (c := m_cc .gt x y) rfl rfl
theorem i151_35 {w1 w2 w3 w4 w5 : Value} {x : Nat} : WP V 151 35 [.ref x, w1, w2, w3, w4, w5] st t I L R Q = WP V 151 36 [.ref x, w1, w2, w3, w4, w5] (.ref x :: st) t I L R Q := wp_go rfl
theorem i151_36 {w1 w2 w3 w4 w5 : Value} {x : Nat} : WP V 151 36 [.ref x, w1, w2, w3, w4, w5] st t I L R Q = WP V 151 37 [.ref x, w1, w2, w3, w4, w5] (.ref x :: st) t I L R Q := wp_go rfl
theorem i151_37 {k : Nat} (h1 : k < t) (h2 : m_ob k 8 = true) : WP V 151 37 ls (.ref k :: st) t I L R Q = WP V 151 38 ls (m_rv (R k 0) :: st) t I L R Q := wp_getR rfl (by decide) h1 h2
theorem i151_38 {w0 w1 w2 w3 w5 : Value} {x : Int32} : WP V 151 38 [w0, w1, w2, w3, .int x, w5] st t I L R Q = WP V 151 39 [w0, w1, w2, w3, .int x, w5] (.int x :: st) t I L R Q := wp_go rfl
theorem i151_39  : WP V 151 39 ls st t I L R Q = WP V 151 40 ls (.int (nI 3) :: st) t I L R Q := wp_go rfl
theorem i151_40 {x y : Int32} : WP V 151 40 ls (.int y :: .int x :: st) t I L R Q = WP V 151 41 ls (.int (x + y) :: st) t I L R Q := wp_go rfl
theorem i151_41  : WP V 151 41 ls st t I L R Q = WP V 151 42 ls (.int (nI 3) :: st) t I L R Q := wp_go rfl
theorem i151_42 {w0 w1 w2 w3 w4 : Value} {x : Int32} : WP V 151 42 [w0, w1, w2, w3, w4, .int x] st t I L R Q = WP V 151 43 [w0, w1, w2, w3, w4, .int x] (.int x :: st) t I L R Q := wp_go rfl
theorem i151_43 {x y : Int32} : WP V 151 43 ls (.int y :: .int x :: st) t I L R Q = WP V 151 44 ls (.int (x * y) :: st) t I L R Q := wp_go rfl
theorem i151_44 {x y : Int32} : WP V 151 44 ls (.int y :: .int x :: st) t I L R Q = WP V 151 45 ls (.int (x + y) :: st) t I L R Q := wp_go rfl
theorem i151_45 {k j : Nat} (h2 : m_ar k 2 612 = true) (h1 : k < t) (h3 : j < 612) : WP V 151 45 ls (.int (nI j) :: .ref k :: st) t I L R Q = WP V 151 46 ls (.int (I k j) :: st) t I L R Q := wp_iaload rfl (by decide) h1 h2 h3
theorem i151_46 {k : Nat} {x : Int32} (h1 : k < t) (h2 : m_ob k 8 = true) : WP V 151 46 ls (.int x :: .ref k :: st) t I L R Q = WP V 151 47 ls st t (m_sc I k (m_sc (I k) 22 x)) L R Q := wp_putI rfl (by decide) h1 h2
theorem i151_47 {w1 w2 w3 w4 w5 : Value} {x : Nat} : WP V 151 47 [.ref x, w1, w2, w3, w4, w5] st t I L R Q = WP V 151 48 [.ref x, w1, w2, w3, w4, w5] (.ref x :: st) t I L R Q := wp_go rfl
theorem i151_48 {w1 w2 w3 w4 w5 : Value} {x : Nat} : WP V 151 48 [.ref x, w1, w2, w3, w4, w5] st t I L R Q = WP V 151 49 [.ref x, w1, w2, w3, w4, w5] (.ref x :: st) t I L R Q := wp_go rfl
theorem i151_49 {k : Nat} (h1 : k < t) (h2 : m_ob k 8 = true) : WP V 151 49 ls (.ref k :: st) t I L R Q = WP V 151 50 ls (m_rv (R k 0) :: st) t I L R Q := wp_getR rfl (by decide) h1 h2
theorem i151_50 {w0 w1 w2 w3 w5 : Value} {x : Int32} : WP V 151 50 [w0, w1, w2, w3, .int x, w5] st t I L R Q = WP V 151 51 [w0, w1, w2, w3, .int x, w5] (.int x :: st) t I L R Q := wp_go rfl
theorem i151_51  : WP V 151 51 ls st t I L R Q = WP V 151 52 ls (.int (nI 3) :: st) t I L R Q := wp_go rfl
theorem i151_52 {x y : Int32} : WP V 151 52 ls (.int y :: .int x :: st) t I L R Q = WP V 151 53 ls (.int (x + y) :: st) t I L R Q := wp_go rfl
theorem i151_53  : WP V 151 53 ls st t I L R Q = WP V 151 54 ls (.int (nI 3) :: st) t I L R Q := wp_go rfl
theorem i151_54 {w0 w1 w2 w3 w4 : Value} {x : Int32} : WP V 151 54 [w0, w1, w2, w3, w4, .int x] st t I L R Q = WP V 151 55 [w0, w1, w2, w3, w4, .int x] (.int x :: st) t I L R Q := wp_go rfl
theorem i151_55 {x y : Int32} : WP V 151 55 ls (.int y :: .int x :: st) t I L R Q = WP V 151 56 ls (.int (x * y) :: st) t I L R Q := wp_go rfl
theorem i151_56 {x y : Int32} : WP V 151 56 ls (.int y :: .int x :: st) t I L R Q = WP V 151 57 ls (.int (x + y) :: st) t I L R Q := wp_go rfl
theorem i151_57  : WP V 151 57 ls st t I L R Q = WP V 151 58 ls (.int (nI 1) :: st) t I L R Q := wp_go rfl
theorem i151_58 {x y : Int32} : WP V 151 58 ls (.int y :: .int x :: st) t I L R Q = WP V 151 59 ls (.int (x + y) :: st) t I L R Q := wp_go rfl
theorem i151_59 {k j : Nat} (h2 : m_ar k 2 612 = true) (h1 : k < t) (h3 : j < 612) : WP V 151 59 ls (.int (nI j) :: .ref k :: st) t I L R Q = WP V 151 60 ls (.int (I k j) :: st) t I L R Q := wp_iaload rfl (by decide) h1 h2 h3
theorem i151_60 {k : Nat} {x : Int32} (h1 : k < t) (h2 : m_ob k 8 = true) : WP V 151 60 ls (.int x :: .ref k :: st) t I L R Q = WP V 151 61 ls st t (m_sc I k (m_sc (I k) 23 x)) L R Q := wp_putI rfl (by decide) h1 h2
theorem i151_61 {w1 w2 w3 w4 w5 : Value} {x : Nat} : WP V 151 61 [.ref x, w1, w2, w3, w4, w5] st t I L R Q = WP V 151 62 [.ref x, w1, w2, w3, w4, w5] (.ref x :: st) t I L R Q := wp_go rfl
theorem i151_62 {w0 w2 w3 w4 w5 : Value} {x : Int32} : WP V 151 62 [w0, .int x, w2, w3, w4, w5] st t I L R Q = WP V 151 63 [w0, .int x, w2, w3, w4, w5] (.int x :: st) t I L R Q := wp_go rfl
theorem i151_63 {w0 w1 w3 w4 w5 : Value} {x : Int32} : WP V 151 63 [w0, w1, .int x, w3, w4, w5] st t I L R Q = WP V 151 64 [w0, w1, .int x, w3, w4, w5] (.int x :: st) t I L R Q := wp_go rfl
theorem i151_64 {x0 : Int32} {x1 : Int32} {x2 : Nat}  (h1 : x2 < t) (h2 : m_ob x2 8 = true) : WP V 151 64 ls [.int x0, .int x1, .ref x2] t I L R Q = WPC V 150 [.ref x2, .int x1, .int x0] 151 65 ls [] t I L R Q := wp_cls (wp_icv rfl rfl h1 h2) (by decide) (Nat.le_of_ble_eq_true rfl) rfl rfl (Nat.le_of_ble_eq_true rfl) (Nat.le_of_ble_eq_true rfl)
theorem i151_65  : WP V 151 65 ls st t I L R Q = WP V 151 66 ls (.int (nI 0) :: st) t I L R Q := wp_go rfl
theorem i151_66 {x : Int32} : WP V 151 66 ls [.int x] t I L R Q = Q (some (.int x)) t I L R := wp_rti rfl rfl
theorem i151_67 {p : Int32} {w0 w1 w2 w3 : Value} {x : Int32} : WP V 151 67 [w0, w1, w2, w3, .int p, .int x] st t I L R Q = WP V 151 68 [w0, w1, w2, w3, .int p, .int (x + (nI 1))] st t I L R Q := wp_go rfl
theorem i151_68  : WP V 151 68 ls st t I L R Q = WP V 151 8 ls st t I L R Q := wp_go rfl
theorem i151_69 {w1 w2 w3 w4 w5 : Value} {x : Nat} : WP V 151 69 [.ref x, w1, w2, w3, w4, w5] st t I L R Q = WP V 151 70 [.ref x, w1, w2, w3, w4, w5] (.ref x :: st) t I L R Q := wp_go rfl
theorem i151_70 {w0 w2 w3 w4 w5 : Value} {x : Int32} : WP V 151 70 [w0, .int x, w2, w3, w4, w5] st t I L R Q = WP V 151 71 [w0, .int x, w2, w3, w4, w5] (.int x :: st) t I L R Q := wp_go rfl
theorem i151_71 {x0 : Int32} {x1 : Nat}  (h1 : x1 < t) (h2 : m_ob x1 8 = true) : WP V 151 71 ls [.int x0, .ref x1] t I L R Q = WPC V 142 [.ref x1, .int x0] 151 72 ls [] t I L R Q := wp_cls (wp_icv rfl rfl h1 h2) (by decide) (Nat.le_of_ble_eq_true rfl) rfl rfl (Nat.le_of_ble_eq_true rfl) (Nat.le_of_ble_eq_true rfl)
theorem i151_72  : WP V 151 72 ls st t I L R Q = WP V 151 73 ls (.int (nI 2) :: st) t I L R Q := wp_go rfl
theorem i151_73 {x : Int32} : WP V 151 73 ls [.int x] t I L R Q = Q (some (.int x)) t I L R := wp_rti rfl rfl
-- TransactionCellsModel.writes(IIII)I
theorem i152_0 {w0 w2 w3 w4 w5 w6 : Value} {x : Int32} : WP V 152 0 [w0, .int x, w2, w3, w4, w5, w6] st t I L R Q = WP V 152 1 [w0, .int x, w2, w3, w4, w5, w6] (.int x :: st) t I L R Q := wp_go rfl
theorem i152_1 {x0 : Int32}  : WP V 152 1 ls [.int x0] t I L R Q = WPC V 113 [.int x0] 152 2 ls [] t I L R Q := wp_cls (wp_ics rfl (by decide)) (by decide) (Nat.le_of_ble_eq_true rfl) rfl rfl (Nat.le_of_ble_eq_true rfl) (Nat.le_of_ble_eq_true rfl)
theorem i152_2 {p : Int32} {w0 w1 w2 w3 w5 w6 : Value} {x : Int32} : WP V 152 2 [w0, w1, w2, w3, .int p, w5, w6] (.int x :: st) t I L R Q = WP V 152 3 [w0, w1, w2, w3, .int p, .int x, w6] st t I L R Q := wp_go rfl
theorem i152_3 {w0 w1 w3 w4 w5 w6 : Value} {x : Int32} : WP V 152 3 [w0, w1, .int x, w3, w4, w5, w6] st t I L R Q = WP V 152 4 [w0, w1, .int x, w3, w4, w5, w6] (.int x :: st) t I L R Q := wp_go rfl
theorem i152_4 {x0 : Int32}  : WP V 152 4 ls [.int x0] t I L R Q = WPC V 112 [.int x0] 152 5 ls [] t I L R Q := wp_cls (wp_ics rfl (by decide)) (by decide) (Nat.le_of_ble_eq_true rfl) rfl rfl (Nat.le_of_ble_eq_true rfl) (Nat.le_of_ble_eq_true rfl)
theorem i152_5 {p : Int32} {w0 w1 w2 w3 w4 w6 : Value} {x : Int32} : WP V 152 5 [w0, w1, w2, w3, w4, .int p, w6] (.int x :: st) t I L R Q = WP V 152 6 [w0, w1, w2, w3, w4, .int p, .int x] st t I L R Q := wp_go rfl
theorem i152_6 {w1 w2 w3 w4 w5 w6 : Value} {x : Nat} : WP V 152 6 [.ref x, w1, w2, w3, w4, w5, w6] st t I L R Q = WP V 152 7 [.ref x, w1, w2, w3, w4, w5, w6] (.ref x :: st) t I L R Q := wp_go rfl
theorem i152_7 {k : Nat} (h1 : k < t) (h2 : m_ob k 8 = true) : WP V 152 7 ls (.ref k :: st) t I L R Q = WP V 152 8 ls (m_rv (R k 0) :: st) t I L R Q := wp_getR rfl (by decide) h1 h2
theorem i152_8 {w0 w1 w2 w3 w4 w6 : Value} {x : Int32} : WP V 152 8 [w0, w1, w2, w3, w4, .int x, w6] st t I L R Q = WP V 152 9 [w0, w1, w2, w3, w4, .int x, w6] (.int x :: st) t I L R Q := wp_go rfl
theorem i152_9  : WP V 152 9 ls st t I L R Q = WP V 152 10 ls (.int (nI 101) :: st) t I L R Q := wp_go rfl
theorem i152_10 {x y : Int32} : WP V 152 10 ls (.int y :: .int x :: st) t I L R Q = WP V 152 11 ls (.int (x + y) :: st) t I L R Q := wp_go rfl
theorem i152_11 {k j : Nat} (h2 : m_ar k 2 612 = true) (h1 : k < t) (h3 : j < 612) : WP V 152 11 ls (.int (nI j) :: .ref k :: st) t I L R Q = WP V 152 12 ls (.int (I k j) :: st) t I L R Q := wp_iaload rfl (by decide) h1 h2 h3
theorem i152_12 {x : Int32} : WP V 152 12 ls (.int x :: st) t I L R Q = if x = nI 0 then WP V 152 13 ls st t I L R Q else WP V 152 56 ls st t I L R Q := wp_brn (c := m_cc .ne x 0) rfl rfl
theorem i152_13 {w1 w2 w3 w4 w5 w6 : Value} {x : Nat} : WP V 152 13 [.ref x, w1, w2, w3, w4, w5, w6] st t I L R Q = WP V 152 14 [.ref x, w1, w2, w3, w4, w5, w6] (.ref x :: st) t I L R Q := wp_go rfl
theorem i152_14 {k : Nat} (h1 : k < t) (h2 : m_ob k 8 = true) : WP V 152 14 ls (.ref k :: st) t I L R Q = WP V 152 15 ls (m_rv (R k 0) :: st) t I L R Q := wp_getR rfl (by decide) h1 h2
theorem i152_15 {w0 w1 w2 w3 w4 w5 : Value} {x : Int32} : WP V 152 15 [w0, w1, w2, w3, w4, w5, .int x] st t I L R Q = WP V 152 16 [w0, w1, w2, w3, w4, w5, .int x] (.int x :: st) t I L R Q := wp_go rfl
theorem i152_16  : WP V 152 16 ls st t I L R Q = WP V 152 17 ls (.int (nI 17) :: st) t I L R Q := wp_go rfl
theorem i152_17 {x y : Int32} : WP V 152 17 ls (.int y :: .int x :: st) t I L R Q = WP V 152 18 ls (.int (x + y) :: st) t I L R Q := wp_go rfl
theorem i152_18 {k j : Nat} (h2 : m_ar k 2 612 = true) (h1 : k < t) (h3 : j < 612) : WP V 152 18 ls (.int (nI j) :: .ref k :: st) t I L R Q = WP V 152 19 ls (.int (I k j) :: st) t I L R Q := wp_iaload rfl (by decide) h1 h2 h3
theorem i152_19  : WP V 152 19 ls st t I L R Q = WP V 152 20 ls (.int (-1) :: st) t I L R Q := wp_go rfl
theorem i152_20 {x y : Int32} : WP V 152 20 ls (.int y :: .int x :: st) t I L R Q = if x = y then WP V 152 21 ls st t I L R Q else WP V 152 33 ls st t I L R Q := wp_brn (c := m_cc .ne x y) rfl rfl
theorem i152_21 {w1 w2 w3 w4 w5 w6 : Value} {x : Nat} : WP V 152 21 [.ref x, w1, w2, w3, w4, w5, w6] st t I L R Q = WP V 152 22 [.ref x, w1, w2, w3, w4, w5, w6] (.ref x :: st) t I L R Q := wp_go rfl
theorem i152_22 {w0 w2 w3 w4 w5 w6 : Value} {x : Int32} : WP V 152 22 [w0, .int x, w2, w3, w4, w5, w6] st t I L R Q = WP V 152 23 [w0, .int x, w2, w3, w4, w5, w6] (.int x :: st) t I L R Q := wp_go rfl
theorem i152_23 {x0 : Int32} {x1 : Nat}  (h1 : x1 < t) (h2 : m_ob x1 8 = true) : WP V 152 23 ls [.int x0, .ref x1] t I L R Q = WPC V 148 [.ref x1, .int x0] 152 24 ls [] t I L R Q := wp_cls (wp_icv rfl rfl h1 h2) (by decide) (Nat.le_of_ble_eq_true rfl) rfl rfl (Nat.le_of_ble_eq_true rfl) (Nat.le_of_ble_eq_true rfl)
theorem i152_24 {x : Int32} : WP V 152 24 ls (.int x :: st) t I L R Q = if x = nI 0 then WP V 152 25 ls st t I L R Q else WP V 152 33 ls st t I L R Q := wp_brn (c := m_cc .ne x 0) rfl rfl
theorem i152_25 {w1 w2 w3 w4 w5 w6 : Value} {x : Nat} : WP V 152 25 [.ref x, w1, w2, w3, w4, w5, w6] st t I L R Q = WP V 152 26 [.ref x, w1, w2, w3, w4, w5, w6] (.ref x :: st) t I L R Q := wp_go rfl
theorem i152_26 {k : Nat} (h1 : k < t) (h2 : m_ob k 8 = true) : WP V 152 26 ls (.ref k :: st) t I L R Q = WP V 152 27 ls (m_rv (R k 0) :: st) t I L R Q := wp_getR rfl (by decide) h1 h2
theorem i152_27 {w0 w1 w2 w3 w4 w5 : Value} {x : Int32} : WP V 152 27 [w0, w1, w2, w3, w4, w5, .int x] st t I L R Q = WP V 152 28 [w0, w1, w2, w3, w4, w5, .int x] (.int x :: st) t I L R Q := wp_go rfl
theorem i152_28  : WP V 152 28 ls st t I L R Q = WP V 152 29 ls (.int (nI 16) :: st) t I L R Q := wp_go rfl
theorem i152_29 {x y : Int32} : WP V 152 29 ls (.int y :: .int x :: st) t I L R Q = WP V 152 30 ls (.int (x + y) :: st) t I L R Q := wp_go rfl
theorem i152_30 {k j : Nat} (h2 : m_ar k 2 612 = true) (h1 : k < t) (h3 : j < 612) : WP V 152 30 ls (.int (nI j) :: .ref k :: st) t I L R Q = WP V 152 31 ls (.int (I k j) :: st) t I L R Q := wp_iaload rfl (by decide) h1 h2 h3
theorem i152_31  : WP V 152 31 ls st t I L R Q = WP V 152 32 ls (.int (-1) :: st) t I L R Q := wp_go rfl
theorem i152_32 {x y : Int32} : WP V 152 32 ls (.int y :: .int x :: st) t I L R Q = if x = y then WP V 152 35 ls st t I L R Q else WP V 152 33 ls st t I L R Q := wp_br (c := m_cc .eq x y) rfl rfl
theorem i152_33  : WP V 152 33 ls st t I L R Q = WP V 152 34 ls (.int (nI 1) :: st) t I L R Q := wp_go rfl
theorem i152_34 {x : Int32} : WP V 152 34 ls [.int x] t I L R Q = Q (some (.int x)) t I L R := wp_rti rfl rfl
theorem i152_35 {w1 w2 w3 w4 w5 w6 : Value} {x : Nat} : WP V 152 35 [.ref x, w1, w2, w3, w4, w5, w6] st t I L R Q = WP V 152 36 [.ref x, w1, w2, w3, w4, w5, w6] (.ref x :: st) t I L R Q := wp_go rfl
theorem i152_36 {k : Nat} (h1 : k < t) (h2 : m_ob k 8 = true) : WP V 152 36 ls (.ref k :: st) t I L R Q = WP V 152 37 ls (m_rv (R k 0) :: st) t I L R Q := wp_getR rfl (by decide) h1 h2
theorem i152_37  : WP V 152 37 ls st t I L R Q = WP V 152 38 ls (.int (nI 144) :: st) t I L R Q := wp_go rfl
theorem i152_38 {v0 : Int32} {v1 : Nat} : WP V 152 38 ls (.int v0 :: .ref v1 :: st) t I L R Q = WP V 152 39 ls (.int v0 :: .ref v1 :: .int v0 :: .ref v1 :: st) t I L R Q := wp_go rfl
theorem i152_39 {k j : Nat} (h2 : m_ar k 2 612 = true) (h1 : k < t) (h3 : j < 612) : WP V 152 39 ls (.int (nI j) :: .ref k :: st) t I L R Q = WP V 152 40 ls (.int (I k j) :: st) t I L R Q := wp_iaload rfl (by decide) h1 h2 h3
theorem i152_40  : WP V 152 40 ls st t I L R Q = WP V 152 41 ls (.int (nI 1) :: st) t I L R Q := wp_go rfl
theorem i152_41 {x y : Int32} : WP V 152 41 ls (.int y :: .int x :: st) t I L R Q = WP V 152 42 ls (.int (x + y) :: st) t I L R Q := wp_go rfl
theorem i152_42 {k j : Nat} {x : Int32} (h2 : m_ar k 2 612 = true) (h1 : k < t) (h3 : j < 612) : WP V 152 42 ls (.int x :: .int (nI j) :: .ref k :: st) t I L R Q = WP V 152 43 ls st t (m_sc I k (m_sc (I k) j x)) L R Q := wp_iastore rfl (by decide) h1 h2 h3
theorem i152_43 {w1 w2 w3 w4 w5 w6 : Value} {x : Nat} : WP V 152 43 [.ref x, w1, w2, w3, w4, w5, w6] st t I L R Q = WP V 152 44 [.ref x, w1, w2, w3, w4, w5, w6] (.ref x :: st) t I L R Q := wp_go rfl
theorem i152_44 {w0 w1 w3 w4 w5 w6 : Value} {x : Int32} : WP V 152 44 [w0, w1, .int x, w3, w4, w5, w6] st t I L R Q = WP V 152 45 [w0, w1, .int x, w3, w4, w5, w6] (.int x :: st) t I L R Q := wp_go rfl
theorem i152_45 {w0 w1 w2 w4 w5 w6 : Value} {x : Int32} : WP V 152 45 [w0, w1, w2, .int x, w4, w5, w6] st t I L R Q = WP V 152 46 [w0, w1, w2, .int x, w4, w5, w6] (.int x :: st) t I L R Q := wp_go rfl
theorem i152_46 {w0 w1 w2 w3 w5 w6 : Value} {x : Int32} : WP V 152 46 [w0, w1, w2, w3, .int x, w5, w6] st t I L R Q = WP V 152 47 [w0, w1, w2, w3, .int x, w5, w6] (.int x :: st) t I L R Q := wp_go rfl
theorem i152_47 {x0 : Int32} {x1 : Int32} {x2 : Int32} {x3 : Nat}  (h1 : x3 < t) (h2 : m_ob x3 8 = true) : WP V 152 47 ls [.int x0, .int x1, .int x2, .ref x3] t I L R Q = WPC V 137 [.ref x3, .int x2, .int x1, .int x0] 152 48 ls [] t I L R Q := wp_cls (wp_icv rfl rfl h1 h2) (by decide) (Nat.le_of_ble_eq_true rfl) rfl rfl (Nat.le_of_ble_eq_true rfl) (Nat.le_of_ble_eq_true rfl)
theorem i152_48 {w1 w2 w3 w4 w5 w6 : Value} {x : Nat} : WP V 152 48 [.ref x, w1, w2, w3, w4, w5, w6] st t I L R Q = WP V 152 49 [.ref x, w1, w2, w3, w4, w5, w6] (.ref x :: st) t I L R Q := wp_go rfl
theorem i152_49 {w0 w2 w3 w4 w5 w6 : Value} {x : Int32} : WP V 152 49 [w0, .int x, w2, w3, w4, w5, w6] st t I L R Q = WP V 152 50 [w0, .int x, w2, w3, w4, w5, w6] (.int x :: st) t I L R Q := wp_go rfl
theorem i152_50 {w0 w1 w3 w4 w5 w6 : Value} {x : Int32} : WP V 152 50 [w0, w1, .int x, w3, w4, w5, w6] st t I L R Q = WP V 152 51 [w0, w1, .int x, w3, w4, w5, w6] (.int x :: st) t I L R Q := wp_go rfl
theorem i152_51 {w0 w1 w2 w4 w5 w6 : Value} {x : Int32} : WP V 152 51 [w0, w1, w2, .int x, w4, w5, w6] st t I L R Q = WP V 152 52 [w0, w1, w2, .int x, w4, w5, w6] (.int x :: st) t I L R Q := wp_go rfl
theorem i152_52 {w0 w1 w2 w3 w5 w6 : Value} {x : Int32} : WP V 152 52 [w0, w1, w2, w3, .int x, w5, w6] st t I L R Q = WP V 152 53 [w0, w1, w2, w3, .int x, w5, w6] (.int x :: st) t I L R Q := wp_go rfl
theorem i152_53 {x0 : Int32} {x1 : Int32} {x2 : Int32} {x3 : Int32} {x4 : Nat}  (h1 : x4 < t) (h2 : m_ob x4 8 = true) : WP V 152 53 ls [.int x0, .int x1, .int x2, .int x3, .ref x4] t I L R Q = WPC V 153 [.ref x4, .int x3, .int x2, .int x1, .int x0] 152 54 ls [] t I L R Q := wp_cls (wp_icv rfl rfl h1 h2) (by decide) (Nat.le_of_ble_eq_true rfl) rfl rfl (Nat.le_of_ble_eq_true rfl) (Nat.le_of_ble_eq_true rfl)
theorem i152_54  : WP V 152 54 ls st t I L R Q = WP V 152 55 ls (.int (nI 0) :: st) t I L R Q := wp_go rfl
theorem i152_55 {x : Int32} : WP V 152 55 ls [.int x] t I L R Q = Q (some (.int x)) t I L R := wp_rti rfl rfl
theorem i152_56 {w1 w2 w3 w4 w5 w6 : Value} {x : Nat} : WP V 152 56 [.ref x, w1, w2, w3, w4, w5, w6] st t I L R Q = WP V 152 57 [.ref x, w1, w2, w3, w4, w5, w6] (.ref x :: st) t I L R Q := wp_go rfl
theorem i152_57 {k : Nat} (h1 : k < t) (h2 : m_ob k 8 = true) : WP V 152 57 ls (.ref k :: st) t I L R Q = WP V 152 58 ls (.int (I k 1) :: st) t I L R Q := wp_getI rfl (by decide) h1 h2
theorem i152_58  : WP V 152 58 ls st t I L R Q = WP V 152 59 ls (.int (nI 3) :: st) t I L R Q := wp_go rfl
theorem i152_59 {x y : Int32} : WP V 152 59 ls (.int y :: .int x :: st) t I L R Q = if x = y then WP V 152 98 ls st t I L R Q else WP V 152 60 ls st t I L R Q := wp_br (c := m_cc .eq x y) rfl rfl
theorem i152_60 {w1 w2 w3 w4 w5 w6 : Value} {x : Nat} : WP V 152 60 [.ref x, w1, w2, w3, w4, w5, w6] st t I L R Q = WP V 152 61 [.ref x, w1, w2, w3, w4, w5, w6] (.ref x :: st) t I L R Q := wp_go rfl
theorem i152_61 {w0 w2 w3 w4 w5 w6 : Value} {x : Int32} : WP V 152 61 [w0, .int x, w2, w3, w4, w5, w6] st t I L R Q = WP V 152 62 [w0, .int x, w2, w3, w4, w5, w6] (.int x :: st) t I L R Q := wp_go rfl
theorem i152_62 {w0 w1 w3 w4 w5 w6 : Value} {x : Int32} : WP V 152 62 [w0, w1, .int x, w3, w4, w5, w6] st t I L R Q = WP V 152 63 [w0, w1, .int x, w3, w4, w5, w6] (.int x :: st) t I L R Q := wp_go rfl
theorem i152_63 {x0 : Int32} {x1 : Int32} {x2 : Nat}  (h1 : x2 < t) (h2 : m_ob x2 8 = true) : WP V 152 63 ls [.int x0, .int x1, .ref x2] t I L R Q = WPC V 147 [.ref x2, .int x1, .int x0] 152 64 ls [] t I L R Q := wp_cls (wp_icv rfl rfl h1 h2) (by decide) (Nat.le_of_ble_eq_true rfl) rfl rfl (Nat.le_of_ble_eq_true rfl) (Nat.le_of_ble_eq_true rfl)
theorem i152_64 {x : Int32} : WP V 152 64 ls (.int x :: st) t I L R Q = if x = nI 0 then WP V 152 65 ls st t I L R Q else WP V 152 70 ls st t I L R Q := wp_brn (c := m_cc .ne x 0) rfl rfl
theorem i152_65 {w1 w2 w3 w4 w5 w6 : Value} {x : Nat} : WP V 152 65 [.ref x, w1, w2, w3, w4, w5, w6] st t I L R Q = WP V 152 66 [.ref x, w1, w2, w3, w4, w5, w6] (.ref x :: st) t I L R Q := wp_go rfl
theorem i152_66 {w0 w2 w3 w4 w5 w6 : Value} {x : Int32} : WP V 152 66 [w0, .int x, w2, w3, w4, w5, w6] st t I L R Q = WP V 152 67 [w0, .int x, w2, w3, w4, w5, w6] (.int x :: st) t I L R Q := wp_go rfl
theorem i152_67 {w0 w1 w3 w4 w5 w6 : Value} {x : Int32} : WP V 152 67 [w0, w1, .int x, w3, w4, w5, w6] st t I L R Q = WP V 152 68 [w0, w1, .int x, w3, w4, w5, w6] (.int x :: st) t I L R Q := wp_go rfl
theorem i152_68 {x0 : Int32} {x1 : Int32} {x2 : Nat}  (h1 : x2 < t) (h2 : m_ob x2 8 = true) : WP V 152 68 ls [.int x0, .int x1, .ref x2] t I L R Q = WPC V 146 [.ref x2, .int x1, .int x0] 152 69 ls [] t I L R Q := wp_cls (wp_icv rfl rfl h1 h2) (by decide) (Nat.le_of_ble_eq_true rfl) rfl rfl (Nat.le_of_ble_eq_true rfl) (Nat.le_of_ble_eq_true rfl)
theorem i152_69 {x : Int32} : WP V 152 69 ls (.int x :: st) t I L R Q = if x = nI 0 then WP V 152 72 ls st t I L R Q else WP V 152 70 ls st t I L R Q := wp_br (c := m_cc .eq x 0) rfl rfl
theorem i152_70  : WP V 152 70 ls st t I L R Q = WP V 152 71 ls (.int (nI 1) :: st) t I L R Q := wp_go rfl
theorem i152_71 {x : Int32} : WP V 152 71 ls [.int x] t I L R Q = Q (some (.int x)) t I L R := wp_rti rfl rfl
theorem i152_72 {w1 w2 w3 w4 w5 w6 : Value} {x : Nat} : WP V 152 72 [.ref x, w1, w2, w3, w4, w5, w6] st t I L R Q = WP V 152 73 [.ref x, w1, w2, w3, w4, w5, w6] (.ref x :: st) t I L R Q := wp_go rfl
theorem i152_73 {k : Nat} (h1 : k < t) (h2 : m_ob k 8 = true) : WP V 152 73 ls (.ref k :: st) t I L R Q = WP V 152 74 ls (.int (I k 1) :: st) t I L R Q := wp_getI rfl (by decide) h1 h2
theorem i152_74  : WP V 152 74 ls st t I L R Q = WP V 152 75 ls (.int (nI 1) :: st) t I L R Q := wp_go rfl
theorem i152_75 {x y : Int32} : WP V 152 75 ls (.int y :: .int x :: st) t I L R Q = if x = y then WP V 152 76 ls st t I L R Q else WP V 152 83 ls st t I L R Q := wp_brn (c := m_cc .ne x y) rfl rfl
theorem i152_76 {w1 w2 w3 w4 w5 w6 : Value} {x : Nat} : WP V 152 76 [.ref x, w1, w2, w3, w4, w5, w6] st t I L R Q = WP V 152 77 [.ref x, w1, w2, w3, w4, w5, w6] (.ref x :: st) t I L R Q := wp_go rfl
theorem i152_77 {k : Nat} (h1 : k < t) (h2 : m_ob k 8 = true) : WP V 152 77 ls (.ref k :: st) t I L R Q = WP V 152 78 ls (m_rv (R k 0) :: st) t I L R Q := wp_getR rfl (by decide) h1 h2
theorem i152_78 {w0 w1 w2 w3 w4 w5 : Value} {x : Int32} : WP V 152 78 [w0, w1, w2, w3, w4, w5, .int x] st t I L R Q = WP V 152 79 [w0, w1, w2, w3, w4, w5, .int x] (.int x :: st) t I L R Q := wp_go rfl
theorem i152_79  : WP V 152 79 ls st t I L R Q = WP V 152 80 ls (.int (nI 16) :: st) t I L R Q := wp_go rfl
theorem i152_80 {x y : Int32} : WP V 152 80 ls (.int y :: .int x :: st) t I L R Q = WP V 152 81 ls (.int (x + y) :: st) t I L R Q := wp_go rfl
theorem i152_81 {w0 w2 w3 w4 w5 w6 : Value} {x : Int32} : WP V 152 81 [w0, .int x, w2, w3, w4, w5, w6] st t I L R Q = WP V 152 82 [w0, .int x, w2, w3, w4, w5, w6] (.int x :: st) t I L R Q := wp_go rfl
theorem i152_82 {k j : Nat} {x : Int32} (h2 : m_ar k 2 612 = true) (h1 : k < t) (h3 : j < 612) : WP V 152 82 ls (.int x :: .int (nI j) :: .ref k :: st) t I L R Q = WP V 152 83 ls st t (m_sc I k (m_sc (I k) j x)) L R Q := wp_iastore rfl (by decide) h1 h2 h3
theorem i152_83 {w1 w2 w3 w4 w5 w6 : Value} {x : Nat} : WP V 152 83 [.ref x, w1, w2, w3, w4, w5, w6] st t I L R Q = WP V 152 84 [.ref x, w1, w2, w3, w4, w5, w6] (.ref x :: st) t I L R Q := wp_go rfl
theorem i152_84 {k : Nat} (h1 : k < t) (h2 : m_ob k 8 = true) : WP V 152 84 ls (.ref k :: st) t I L R Q = WP V 152 85 ls (m_rv (R k 0) :: st) t I L R Q := wp_getR rfl (by decide) h1 h2
theorem i152_85 {w0 w1 w2 w3 w4 w6 : Value} {x : Int32} : WP V 152 85 [w0, w1, w2, w3, w4, .int x, w6] st t I L R Q = WP V 152 86 [w0, w1, w2, w3, w4, .int x, w6] (.int x :: st) t I L R Q := wp_go rfl
theorem i152_86  : WP V 152 86 ls st t I L R Q = WP V 152 87 ls (.int (nI 102) :: st) t I L R Q := wp_go rfl
theorem i152_87 {x y : Int32} : WP V 152 87 ls (.int y :: .int x :: st) t I L R Q = WP V 152 88 ls (.int (x + y) :: st) t I L R Q := wp_go rfl
theorem i152_88 {k j : Nat} (h2 : m_ar k 2 612 = true) (h1 : k < t) (h3 : j < 612) : WP V 152 88 ls (.int (nI j) :: .ref k :: st) t I L R Q = WP V 152 89 ls (.int (I k j) :: st) t I L R Q := wp_iaload rfl (by decide) h1 h2 h3
theorem i152_89  : WP V 152 89 ls st t I L R Q = WP V 152 90 ls (.int (nI 3) :: st) t I L R Q := wp_go rfl
theorem i152_90 {x y : Int32} : WP V 152 90 ls (.int y :: .int x :: st) t I L R Q = if x = y then WP V 152 91 ls st t I L R Q else WP V 152 98 ls st t I L R Q := wp_brn (c := m_cc .ne x y) rfl rfl
theorem i152_91 {w1 w2 w3 w4 w5 w6 : Value} {x : Nat} : WP V 152 91 [.ref x, w1, w2, w3, w4, w5, w6] st t I L R Q = WP V 152 92 [.ref x, w1, w2, w3, w4, w5, w6] (.ref x :: st) t I L R Q := wp_go rfl
theorem i152_92 {k : Nat} (h1 : k < t) (h2 : m_ob k 8 = true) : WP V 152 92 ls (.ref k :: st) t I L R Q = WP V 152 93 ls (m_rv (R k 0) :: st) t I L R Q := wp_getR rfl (by decide) h1 h2
theorem i152_93 {w0 w1 w2 w3 w4 w5 : Value} {x : Int32} : WP V 152 93 [w0, w1, w2, w3, w4, w5, .int x] st t I L R Q = WP V 152 94 [w0, w1, w2, w3, w4, w5, .int x] (.int x :: st) t I L R Q := wp_go rfl
theorem i152_94  : WP V 152 94 ls st t I L R Q = WP V 152 95 ls (.int (nI 17) :: st) t I L R Q := wp_go rfl
theorem i152_95 {x y : Int32} : WP V 152 95 ls (.int y :: .int x :: st) t I L R Q = WP V 152 96 ls (.int (x + y) :: st) t I L R Q := wp_go rfl
theorem i152_96 {w0 w2 w3 w4 w5 w6 : Value} {x : Int32} : WP V 152 96 [w0, .int x, w2, w3, w4, w5, w6] st t I L R Q = WP V 152 97 [w0, .int x, w2, w3, w4, w5, w6] (.int x :: st) t I L R Q := wp_go rfl
theorem i152_97 {k j : Nat} {x : Int32} (h2 : m_ar k 2 612 = true) (h1 : k < t) (h3 : j < 612) : WP V 152 97 ls (.int x :: .int (nI j) :: .ref k :: st) t I L R Q = WP V 152 98 ls st t (m_sc I k (m_sc (I k) j x)) L R Q := wp_iastore rfl (by decide) h1 h2 h3
theorem i152_98 {w1 w2 w3 w4 w5 w6 : Value} {x : Nat} : WP V 152 98 [.ref x, w1, w2, w3, w4, w5, w6] st t I L R Q = WP V 152 99 [.ref x, w1, w2, w3, w4, w5, w6] (.ref x :: st) t I L R Q := wp_go rfl
theorem i152_99 {k : Nat} (h1 : k < t) (h2 : m_ob k 8 = true) : WP V 152 99 ls (.ref k :: st) t I L R Q = WP V 152 100 ls (m_rv (R k 0) :: st) t I L R Q := wp_getR rfl (by decide) h1 h2
theorem i152_100 {w0 w1 w2 w3 w4 w6 : Value} {x : Int32} : WP V 152 100 [w0, w1, w2, w3, w4, .int x, w6] st t I L R Q = WP V 152 101 [w0, w1, w2, w3, w4, .int x, w6] (.int x :: st) t I L R Q := wp_go rfl
theorem i152_101  : WP V 152 101 ls st t I L R Q = WP V 152 102 ls (.int (nI 135) :: st) t I L R Q := wp_go rfl
theorem i152_102 {x y : Int32} : WP V 152 102 ls (.int y :: .int x :: st) t I L R Q = WP V 152 103 ls (.int (x + y) :: st) t I L R Q := wp_go rfl
theorem i152_103  : WP V 152 103 ls st t I L R Q = WP V 152 104 ls (.int (nI 2) :: st) t I L R Q := wp_go rfl
theorem i152_104 {w0 w1 w3 w4 w5 w6 : Value} {x : Int32} : WP V 152 104 [w0, w1, .int x, w3, w4, w5, w6] st t I L R Q = WP V 152 105 [w0, w1, .int x, w3, w4, w5, w6] (.int x :: st) t I L R Q := wp_go rfl
theorem i152_105 {x y : Int32} : WP V 152 105 ls (.int y :: .int x :: st) t I L R Q = WP V 152 106 ls (.int (x * y) :: st) t I L R Q := wp_go rfl
theorem i152_106 {x y : Int32} : WP V 152 106 ls (.int y :: .int x :: st) t I L R Q = WP V 152 107 ls (.int (x + y) :: st) t I L R Q := wp_go rfl
theorem i152_107 {w0 w1 w2 w4 w5 w6 : Value} {x : Int32} : WP V 152 107 [w0, w1, w2, .int x, w4, w5, w6] st t I L R Q = WP V 152 108 [w0, w1, w2, .int x, w4, w5, w6] (.int x :: st) t I L R Q := wp_go rfl
theorem i152_108 {k j : Nat} {x : Int32} (h2 : m_ar k 2 612 = true) (h1 : k < t) (h3 : j < 612) : WP V 152 108 ls (.int x :: .int (nI j) :: .ref k :: st) t I L R Q = WP V 152 109 ls st t (m_sc I k (m_sc (I k) j x)) L R Q := wp_iastore rfl (by decide) h1 h2 h3
theorem i152_109 {w1 w2 w3 w4 w5 w6 : Value} {x : Nat} : WP V 152 109 [.ref x, w1, w2, w3, w4, w5, w6] st t I L R Q = WP V 152 110 [.ref x, w1, w2, w3, w4, w5, w6] (.ref x :: st) t I L R Q := wp_go rfl
theorem i152_110 {k : Nat} (h1 : k < t) (h2 : m_ob k 8 = true) : WP V 152 110 ls (.ref k :: st) t I L R Q = WP V 152 111 ls (m_rv (R k 0) :: st) t I L R Q := wp_getR rfl (by decide) h1 h2
theorem i152_111 {w0 w1 w2 w3 w4 w6 : Value} {x : Int32} : WP V 152 111 [w0, w1, w2, w3, w4, .int x, w6] st t I L R Q = WP V 152 112 [w0, w1, w2, w3, w4, .int x, w6] (.int x :: st) t I L R Q := wp_go rfl
theorem i152_112  : WP V 152 112 ls st t I L R Q = WP V 152 113 ls (.int (nI 135) :: st) t I L R Q := wp_go rfl
theorem i152_113 {x y : Int32} : WP V 152 113 ls (.int y :: .int x :: st) t I L R Q = WP V 152 114 ls (.int (x + y) :: st) t I L R Q := wp_go rfl
theorem i152_114  : WP V 152 114 ls st t I L R Q = WP V 152 115 ls (.int (nI 2) :: st) t I L R Q := wp_go rfl
theorem i152_115 {w0 w1 w3 w4 w5 w6 : Value} {x : Int32} : WP V 152 115 [w0, w1, .int x, w3, w4, w5, w6] st t I L R Q = WP V 152 116 [w0, w1, .int x, w3, w4, w5, w6] (.int x :: st) t I L R Q := wp_go rfl
theorem i152_116 {x y : Int32} : WP V 152 116 ls (.int y :: .int x :: st) t I L R Q = WP V 152 117 ls (.int (x * y) :: st) t I L R Q := wp_go rfl
theorem i152_117 {x y : Int32} : WP V 152 117 ls (.int y :: .int x :: st) t I L R Q = WP V 152 118 ls (.int (x + y) :: st) t I L R Q := wp_go rfl
theorem i152_118  : WP V 152 118 ls st t I L R Q = WP V 152 119 ls (.int (nI 1) :: st) t I L R Q := wp_go rfl
theorem i152_119 {x y : Int32} : WP V 152 119 ls (.int y :: .int x :: st) t I L R Q = WP V 152 120 ls (.int (x + y) :: st) t I L R Q := wp_go rfl
theorem i152_120 {w0 w1 w2 w3 w5 w6 : Value} {x : Int32} : WP V 152 120 [w0, w1, w2, w3, .int x, w5, w6] st t I L R Q = WP V 152 121 [w0, w1, w2, w3, .int x, w5, w6] (.int x :: st) t I L R Q := wp_go rfl
theorem i152_121 {k j : Nat} {x : Int32} (h2 : m_ar k 2 612 = true) (h1 : k < t) (h3 : j < 612) : WP V 152 121 ls (.int x :: .int (nI j) :: .ref k :: st) t I L R Q = WP V 152 122 ls st t (m_sc I k (m_sc (I k) j x)) L R Q := wp_iastore rfl (by decide) h1 h2 h3
theorem i152_122  : WP V 152 122 ls st t I L R Q = WP V 152 123 ls (.int (nI 0) :: st) t I L R Q := wp_go rfl
theorem i152_123 {x : Int32} : WP V 152 123 ls [.int x] t I L R Q = Q (some (.int x)) t I L R := wp_rti rfl rfl
-- TransactionCellsModel.alone(IIII)V
theorem i153_0 {w1 w2 w3 w4 w5 : Value} {x : Nat} : WP V 153 0 [.ref x, w1, w2, w3, w4, w5] st t I L R Q = WP V 153 1 [.ref x, w1, w2, w3, w4, w5] (.ref x :: st) t I L R Q := wp_go rfl
theorem i153_1 {k : Nat} (h1 : k < t) (h2 : m_ob k 8 = true) : WP V 153 1 ls (.ref k :: st) t I L R Q = WP V 153 2 ls (.int (I k 5) :: st) t I L R Q := wp_getI rfl (by decide) h1 h2
theorem i153_2 {x : Int32} : WP V 153 2 ls (.int x :: st) t I L R Q = if x = nI 0 then WP V 153 4 ls st t I L R Q else WP V 153 3 ls st t I L R Q := wp_br (c := m_cc .eq x 0) rfl rfl
theorem i153_3  : WP V 153 3 ls [] t I L R Q = Q none t I L R := wp_rtv rfl rfl
theorem i153_4  : WP V 153 4 ls st t I L R Q = WP V 153 5 ls (.int (nI 0) :: st) t I L R Q := wp_go rfl
theorem i153_5 {p : Int32} {w0 w1 w2 w3 w5 : Value} {x : Int32} : WP V 153 5 [w0, w1, w2, w3, .int p, w5] (.int x :: st) t I L R Q = WP V 153 6 [w0, w1, w2, w3, .int p, .int x] st t I L R Q := wp_go rfl
theorem i153_6 {w0 w1 w2 w3 w4 : Value} {x : Int32} : WP V 153 6 [w0, w1, w2, w3, w4, .int x] st t I L R Q = WP V 153 7 [w0, w1, w2, w3, w4, .int x] (.int x :: st) t I L R Q := wp_go rfl
theorem i153_7  : WP V 153 7 ls st t I L R Q = WP V 153 8 ls (.int (nI 16) :: st) t I L R Q := wp_go rfl
theorem i153_8 {x y : Int32} : WP V 153 8 ls (.int y :: .int x :: st) t I L R Q = if y ≤ x then WP V 153 27 ls st t I L R Q else WP V 153 9 ls st t I L R Q := wp_br (c := m_cc .ge x y) rfl rfl
theorem i153_9 {w1 w2 w3 w4 w5 : Value} {x : Nat} : WP V 153 9 [.ref x, w1, w2, w3, w4, w5] st t I L R Q = WP V 153 10 [.ref x, w1, w2, w3, w4, w5] (.ref x :: st) t I L R Q := wp_go rfl
theorem i153_10 {k : Nat} (h1 : k < t) (h2 : m_ob k 8 = true) : WP V 153 10 ls (.ref k :: st) t I L R Q = WP V 153 11 ls (m_rv (R k 24) :: st) t I L R Q := wp_getR rfl (by decide) h1 h2
theorem i153_11  : WP V 153 11 ls st t I L R Q = WP V 153 12 ls (.int (nI 2) :: st) t I L R Q := wp_go rfl
theorem i153_12 {w0 w1 w2 w3 w4 : Value} {x : Int32} : WP V 153 12 [w0, w1, w2, w3, w4, .int x] st t I L R Q = WP V 153 13 [w0, w1, w2, w3, w4, .int x] (.int x :: st) t I L R Q := wp_go rfl
theorem i153_13 {x y : Int32} : WP V 153 13 ls (.int y :: .int x :: st) t I L R Q = WP V 153 14 ls (.int (x * y) :: st) t I L R Q := wp_go rfl
theorem i153_14  : WP V 153 14 ls st t I L R Q = WP V 153 15 ls (.int (-1) :: st) t I L R Q := wp_go rfl
theorem i153_15 {k j : Nat} {x : Int32} (h2 : m_ar k 2 32 = true) (h1 : k < t) (h3 : j < 32) : WP V 153 15 ls (.int x :: .int (nI j) :: .ref k :: st) t I L R Q = WP V 153 16 ls st t (m_sc I k (m_sc (I k) j x)) L R Q := wp_iastore rfl (by decide) h1 h2 h3
theorem i153_16 {w1 w2 w3 w4 w5 : Value} {x : Nat} : WP V 153 16 [.ref x, w1, w2, w3, w4, w5] st t I L R Q = WP V 153 17 [.ref x, w1, w2, w3, w4, w5] (.ref x :: st) t I L R Q := wp_go rfl
theorem i153_17 {k : Nat} (h1 : k < t) (h2 : m_ob k 8 = true) : WP V 153 17 ls (.ref k :: st) t I L R Q = WP V 153 18 ls (m_rv (R k 24) :: st) t I L R Q := wp_getR rfl (by decide) h1 h2
theorem i153_18  : WP V 153 18 ls st t I L R Q = WP V 153 19 ls (.int (nI 2) :: st) t I L R Q := wp_go rfl
theorem i153_19 {w0 w1 w2 w3 w4 : Value} {x : Int32} : WP V 153 19 [w0, w1, w2, w3, w4, .int x] st t I L R Q = WP V 153 20 [w0, w1, w2, w3, w4, .int x] (.int x :: st) t I L R Q := wp_go rfl
theorem i153_20 {x y : Int32} : WP V 153 20 ls (.int y :: .int x :: st) t I L R Q = WP V 153 21 ls (.int (x * y) :: st) t I L R Q := wp_go rfl
theorem i153_21  : WP V 153 21 ls st t I L R Q = WP V 153 22 ls (.int (nI 1) :: st) t I L R Q := wp_go rfl
theorem i153_22 {x y : Int32} : WP V 153 22 ls (.int y :: .int x :: st) t I L R Q = WP V 153 23 ls (.int (x + y) :: st) t I L R Q := wp_go rfl
theorem i153_23  : WP V 153 23 ls st t I L R Q = WP V 153 24 ls (.int (nI 0) :: st) t I L R Q := wp_go rfl
theorem i153_24 {k j : Nat} {x : Int32} (h2 : m_ar k 2 32 = true) (h1 : k < t) (h3 : j < 32) : WP V 153 24 ls (.int x :: .int (nI j) :: .ref k :: st) t I L R Q = WP V 153 25 ls st t (m_sc I k (m_sc (I k) j x)) L R Q := wp_iastore rfl (by decide) h1 h2 h3
theorem i153_25 {p : Int32} {w0 w1 w2 w3 : Value} {x : Int32} : WP V 153 25 [w0, w1, w2, w3, .int p, .int x] st t I L R Q = WP V 153 26 [w0, w1, w2, w3, .int p, .int (x + (nI 1))] st t I L R Q := wp_go rfl
theorem i153_26  : WP V 153 26 ls st t I L R Q = WP V 153 6 ls st t I L R Q := wp_go rfl
theorem i153_27 {w1 w2 w3 w4 w5 : Value} {x : Nat} : WP V 153 27 [.ref x, w1, w2, w3, w4, w5] st t I L R Q = WP V 153 28 [.ref x, w1, w2, w3, w4, w5] (.ref x :: st) t I L R Q := wp_go rfl
theorem i153_28 {k : Nat} (h1 : k < t) (h2 : m_ob k 8 = true) : WP V 153 28 ls (.ref k :: st) t I L R Q = WP V 153 29 ls (m_rv (R k 24) :: st) t I L R Q := wp_getR rfl (by decide) h1 h2
theorem i153_29  : WP V 153 29 ls st t I L R Q = WP V 153 30 ls (.int (nI 16) :: st) t I L R Q := wp_go rfl
theorem i153_30  : WP V 153 30 ls st t I L R Q = WP V 153 31 ls (.int (nI 2) :: st) t I L R Q := wp_go rfl
theorem i153_31 {w0 w1 w3 w4 w5 : Value} {x : Int32} : WP V 153 31 [w0, w1, .int x, w3, w4, w5] st t I L R Q = WP V 153 32 [w0, w1, .int x, w3, w4, w5] (.int x :: st) t I L R Q := wp_go rfl
theorem i153_32 {x y : Int32} : WP V 153 32 ls (.int y :: .int x :: st) t I L R Q = WP V 153 33 ls (.int (x * y) :: st) t I L R Q := wp_go rfl
theorem i153_33 {x y : Int32} : WP V 153 33 ls (.int y :: .int x :: st) t I L R Q = WP V 153 34 ls (.int (x + y) :: st) t I L R Q := wp_go rfl
theorem i153_34 {w0 w1 w2 w4 w5 : Value} {x : Int32} : WP V 153 34 [w0, w1, w2, .int x, w4, w5] st t I L R Q = WP V 153 35 [w0, w1, w2, .int x, w4, w5] (.int x :: st) t I L R Q := wp_go rfl
theorem i153_35 {k j : Nat} {x : Int32} (h2 : m_ar k 2 32 = true) (h1 : k < t) (h3 : j < 32) : WP V 153 35 ls (.int x :: .int (nI j) :: .ref k :: st) t I L R Q = WP V 153 36 ls st t (m_sc I k (m_sc (I k) j x)) L R Q := wp_iastore rfl (by decide) h1 h2 h3
theorem i153_36 {w1 w2 w3 w4 w5 : Value} {x : Nat} : WP V 153 36 [.ref x, w1, w2, w3, w4, w5] st t I L R Q = WP V 153 37 [.ref x, w1, w2, w3, w4, w5] (.ref x :: st) t I L R Q := wp_go rfl
theorem i153_37 {k : Nat} (h1 : k < t) (h2 : m_ob k 8 = true) : WP V 153 37 ls (.ref k :: st) t I L R Q = WP V 153 38 ls (m_rv (R k 24) :: st) t I L R Q := wp_getR rfl (by decide) h1 h2
theorem i153_38  : WP V 153 38 ls st t I L R Q = WP V 153 39 ls (.int (nI 16) :: st) t I L R Q := wp_go rfl
theorem i153_39  : WP V 153 39 ls st t I L R Q = WP V 153 40 ls (.int (nI 2) :: st) t I L R Q := wp_go rfl
theorem i153_40 {w0 w1 w3 w4 w5 : Value} {x : Int32} : WP V 153 40 [w0, w1, .int x, w3, w4, w5] st t I L R Q = WP V 153 41 [w0, w1, .int x, w3, w4, w5] (.int x :: st) t I L R Q := wp_go rfl
theorem i153_41 {x y : Int32} : WP V 153 41 ls (.int y :: .int x :: st) t I L R Q = WP V 153 42 ls (.int (x * y) :: st) t I L R Q := wp_go rfl
theorem i153_42 {x y : Int32} : WP V 153 42 ls (.int y :: .int x :: st) t I L R Q = WP V 153 43 ls (.int (x + y) :: st) t I L R Q := wp_go rfl
theorem i153_43  : WP V 153 43 ls st t I L R Q = WP V 153 44 ls (.int (nI 1) :: st) t I L R Q := wp_go rfl
theorem i153_44 {x y : Int32} : WP V 153 44 ls (.int y :: .int x :: st) t I L R Q = WP V 153 45 ls (.int (x + y) :: st) t I L R Q := wp_go rfl
theorem i153_45 {w0 w1 w2 w3 w5 : Value} {x : Int32} : WP V 153 45 [w0, w1, w2, w3, .int x, w5] st t I L R Q = WP V 153 46 [w0, w1, w2, w3, .int x, w5] (.int x :: st) t I L R Q := wp_go rfl
theorem i153_46 {k j : Nat} {x : Int32} (h2 : m_ar k 2 32 = true) (h1 : k < t) (h3 : j < 32) : WP V 153 46 ls (.int x :: .int (nI j) :: .ref k :: st) t I L R Q = WP V 153 47 ls st t (m_sc I k (m_sc (I k) j x)) L R Q := wp_iastore rfl (by decide) h1 h2 h3
theorem i153_47 {w1 w2 w3 w4 w5 : Value} {x : Nat} : WP V 153 47 [.ref x, w1, w2, w3, w4, w5] st t I L R Q = WP V 153 48 [.ref x, w1, w2, w3, w4, w5] (.ref x :: st) t I L R Q := wp_go rfl
theorem i153_48 {v0 : Nat} : WP V 153 48 ls (.ref v0 :: st) t I L R Q = WP V 153 49 ls (.ref v0 :: .ref v0 :: st) t I L R Q := wp_go rfl
theorem i153_49 {k : Nat} (h1 : k < t) (h2 : m_ob k 8 = true) : WP V 153 49 ls (.ref k :: st) t I L R Q = WP V 153 50 ls (.int (I k 2) :: st) t I L R Q := wp_getI rfl (by decide) h1 h2
theorem i153_50  : WP V 153 50 ls st t I L R Q = WP V 153 51 ls (.int (nI 1) :: st) t I L R Q := wp_go rfl
theorem i153_51 {x y : Int32} : WP V 153 51 ls (.int y :: .int x :: st) t I L R Q = WP V 153 52 ls (.int (x + y) :: st) t I L R Q := wp_go rfl
theorem i153_52 {k : Nat} {x : Int32} (h1 : k < t) (h2 : m_ob k 8 = true) : WP V 153 52 ls (.int x :: .ref k :: st) t I L R Q = WP V 153 53 ls st t (m_sc I k (m_sc (I k) 2 x)) L R Q := wp_putI rfl (by decide) h1 h2
theorem i153_53 {w1 w2 w3 w4 w5 : Value} {x : Nat} : WP V 153 53 [.ref x, w1, w2, w3, w4, w5] st t I L R Q = WP V 153 54 [.ref x, w1, w2, w3, w4, w5] (.ref x :: st) t I L R Q := wp_go rfl
theorem i153_54 {w0 w2 w3 w4 w5 : Value} {x : Int32} : WP V 153 54 [w0, .int x, w2, w3, w4, w5] st t I L R Q = WP V 153 55 [w0, .int x, w2, w3, w4, w5] (.int x :: st) t I L R Q := wp_go rfl
theorem i153_55  : WP V 153 55 ls st t I L R Q = WP V 153 56 ls (.int (nI 0) :: st) t I L R Q := wp_go rfl
theorem i153_56 {w1 w2 w3 w4 w5 : Value} {x : Nat} : WP V 153 56 [.ref x, w1, w2, w3, w4, w5] st t I L R Q = WP V 153 57 [.ref x, w1, w2, w3, w4, w5] (.ref x :: st) t I L R Q := wp_go rfl
theorem i153_57 {k : Nat} (h1 : k < t) (h2 : m_ob k 8 = true) : WP V 153 57 ls (.ref k :: st) t I L R Q = WP V 153 58 ls (m_rv (R k 0) :: st) t I L R Q := wp_getR rfl (by decide) h1 h2
theorem i153_58  : WP V 153 58 ls st t I L R Q = WP V 153 59 ls (.int (nI 144) :: st) t I L R Q := wp_go rfl
theorem i153_59 {k j : Nat} (h2 : m_ar k 2 612 = true) (h1 : k < t) (h3 : j < 612) : WP V 153 59 ls (.int (nI j) :: .ref k :: st) t I L R Q = WP V 153 60 ls (.int (I k j) :: st) t I L R Q := wp_iaload rfl (by decide) h1 h2 h3
theorem i153_60 {w1 w2 w3 w4 w5 : Value} {x : Nat} : WP V 153 60 [.ref x, w1, w2, w3, w4, w5] st t I L R Q = WP V 153 61 [.ref x, w1, w2, w3, w4, w5] (.ref x :: st) t I L R Q := wp_go rfl
theorem i153_61 {k : Nat} (h1 : k < t) (h2 : m_ob k 8 = true) : WP V 153 61 ls (.ref k :: st) t I L R Q = WP V 153 62 ls (m_rv (R k 24) :: st) t I L R Q := wp_getR rfl (by decide) h1 h2
theorem i153_62  : WP V 153 62 ls st t I L R Q = WP V 153 63 ls (.int (nI 0) :: st) t I L R Q := wp_go rfl
theorem i153_63  : WP V 153 63 ls st t I L R Q = WP V 153 64 ls (.int (nI 16) :: st) t I L R Q := wp_go rfl
theorem i153_64 {x0 : Int32} {x1 : Int32} {x2 : Nat} {x3 : Int32} {x4 : Int32} {x5 : Int32} {x6 : Nat}  (h1 : x6 < t) (h2 : m_ob x6 8 = true) : WP V 153 64 ls [.int x0, .int x1, .ref x2, .int x3, .int x4, .int x5, .ref x6] t I L R Q = WPC V 136 [.ref x6, .int x5, .int x4, .int x3, .ref x2, .int x1, .int x0] 153 65 ls [] t I L R Q := wp_cls (wp_icv rfl rfl h1 h2) (by decide) (Nat.le_of_ble_eq_true rfl) rfl rfl (Nat.le_of_ble_eq_true rfl) (Nat.le_of_ble_eq_true rfl)
theorem i153_65  : WP V 153 65 ls [] t I L R Q = Q none t I L R := wp_rtv rfl rfl
-- TransactionCellsModel.load(II)V
theorem i154_0 {w0 w2 w3 w4 w5 : Value} {x : Int32} : WP V 154 0 [w0, .int x, w2, w3, w4, w5] st t I L R Q = WP V 154 1 [w0, .int x, w2, w3, w4, w5] (.int x :: st) t I L R Q := wp_go rfl
theorem i154_1 {x0 : Int32}  : WP V 154 1 ls [.int x0] t I L R Q = WPC V 113 [.int x0] 154 2 ls [] t I L R Q := wp_cls (wp_ics rfl (by decide)) (by decide) (Nat.le_of_ble_eq_true rfl) rfl rfl (Nat.le_of_ble_eq_true rfl) (Nat.le_of_ble_eq_true rfl)
theorem i154_2 {p : Int32} {w0 w1 w3 w4 w5 : Value} {x : Int32} : WP V 154 2 [w0, w1, .int p, w3, w4, w5] (.int x :: st) t I L R Q = WP V 154 3 [w0, w1, .int p, .int x, w4, w5] st t I L R Q := wp_go rfl
theorem i154_3 {w0 w1 w2 w4 w5 : Value} {x : Int32} : WP V 154 3 [w0, w1, w2, .int x, w4, w5] st t I L R Q = WP V 154 4 [w0, w1, w2, .int x, w4, w5] (.int x :: st) t I L R Q := wp_go rfl
theorem i154_4  : WP V 154 4 ls st t I L R Q = WP V 154 5 ls (.int (nI 9) :: st) t I L R Q := wp_go rfl
theorem i154_5 {x y : Int32} : WP V 154 5 ls (.int y :: .int x :: st) t I L R Q = WP V 154 6 ls (.int (x + y) :: st) t I L R Q := wp_go rfl
theorem i154_6  : WP V 154 6 ls st t I L R Q = WP V 154 7 ls (.int (nI 23) :: st) t I L R Q := wp_go rfl
theorem i154_7 {w0 w1 w3 w4 w5 : Value} {x : Int32} : WP V 154 7 [w0, w1, .int x, w3, w4, w5] st t I L R Q = WP V 154 8 [w0, w1, .int x, w3, w4, w5] (.int x :: st) t I L R Q := wp_go rfl
theorem i154_8 {x y : Int32} : WP V 154 8 ls (.int y :: .int x :: st) t I L R Q = WP V 154 9 ls (.int (x * y) :: st) t I L R Q := wp_go rfl
theorem i154_9 {x y : Int32} : WP V 154 9 ls (.int y :: .int x :: st) t I L R Q = WP V 154 10 ls (.int (x + y) :: st) t I L R Q := wp_go rfl
theorem i154_10 {p : Int32} {w0 w1 w2 w4 w5 : Value} {x : Int32} : WP V 154 10 [w0, w1, w2, .int p, w4, w5] (.int x :: st) t I L R Q = WP V 154 11 [w0, w1, w2, .int p, .int x, w5] st t I L R Q := wp_go rfl
theorem i154_11  : WP V 154 11 ls st t I L R Q = WP V 154 12 ls (.int (nI 0) :: st) t I L R Q := wp_go rfl
theorem i154_12 {p : Int32} {w0 w1 w2 w3 w5 : Value} {x : Int32} : WP V 154 12 [w0, w1, w2, w3, .int p, w5] (.int x :: st) t I L R Q = WP V 154 13 [w0, w1, w2, w3, .int p, .int x] st t I L R Q := wp_go rfl
theorem i154_13 {w0 w1 w2 w3 w4 : Value} {x : Int32} : WP V 154 13 [w0, w1, w2, w3, w4, .int x] st t I L R Q = WP V 154 14 [w0, w1, w2, w3, w4, .int x] (.int x :: st) t I L R Q := wp_go rfl
theorem i154_14  : WP V 154 14 ls st t I L R Q = WP V 154 15 ls (.int (nI 4) :: st) t I L R Q := wp_go rfl
theorem i154_15 {x y : Int32} : WP V 154 15 ls (.int y :: .int x :: st) t I L R Q = if y ≤ x then WP V 154 34 ls st t I L R Q else WP V 154 16 ls st t I L R Q := wp_br (c := m_cc .ge x y) rfl rfl
theorem i154_16 {w1 w2 w3 w4 w5 : Value} {x : Nat} : WP V 154 16 [.ref x, w1, w2, w3, w4, w5] st t I L R Q = WP V 154 17 [.ref x, w1, w2, w3, w4, w5] (.ref x :: st) t I L R Q := wp_go rfl
theorem i154_17 {k : Nat} (h1 : k < t) (h2 : m_ob k 8 = true) : WP V 154 17 ls (.ref k :: st) t I L R Q = WP V 154 18 ls (m_rv (R k 0) :: st) t I L R Q := wp_getR rfl (by decide) h1 h2
theorem i154_18 {w0 w1 w2 w4 w5 : Value} {x : Int32} : WP V 154 18 [w0, w1, w2, .int x, w4, w5] st t I L R Q = WP V 154 19 [w0, w1, w2, .int x, w4, w5] (.int x :: st) t I L R Q := wp_go rfl
theorem i154_19  : WP V 154 19 ls st t I L R Q = WP V 154 20 ls (.int (nI 3) :: st) t I L R Q := wp_go rfl
theorem i154_20 {x y : Int32} : WP V 154 20 ls (.int y :: .int x :: st) t I L R Q = WP V 154 21 ls (.int (x + y) :: st) t I L R Q := wp_go rfl
theorem i154_21 {w0 w1 w2 w3 w4 : Value} {x : Int32} : WP V 154 21 [w0, w1, w2, w3, w4, .int x] st t I L R Q = WP V 154 22 [w0, w1, w2, w3, w4, .int x] (.int x :: st) t I L R Q := wp_go rfl
theorem i154_22 {x y : Int32} : WP V 154 22 ls (.int y :: .int x :: st) t I L R Q = WP V 154 23 ls (.int (x + y) :: st) t I L R Q := wp_go rfl
theorem i154_23 {w1 w2 w3 w4 w5 : Value} {x : Nat} : WP V 154 23 [.ref x, w1, w2, w3, w4, w5] st t I L R Q = WP V 154 24 [.ref x, w1, w2, w3, w4, w5] (.ref x :: st) t I L R Q := wp_go rfl
theorem i154_24 {k : Nat} (h1 : k < t) (h2 : m_ob k 8 = true) : WP V 154 24 ls (.ref k :: st) t I L R Q = WP V 154 25 ls (m_rv (R k 0) :: st) t I L R Q := wp_getR rfl (by decide) h1 h2
theorem i154_25 {w0 w1 w2 w3 w5 : Value} {x : Int32} : WP V 154 25 [w0, w1, w2, w3, .int x, w5] st t I L R Q = WP V 154 26 [w0, w1, w2, w3, .int x, w5] (.int x :: st) t I L R Q := wp_go rfl
theorem i154_26  : WP V 154 26 ls st t I L R Q = WP V 154 27 ls (.int (nI 3) :: st) t I L R Q := wp_go rfl
theorem i154_27 {x y : Int32} : WP V 154 27 ls (.int y :: .int x :: st) t I L R Q = WP V 154 28 ls (.int (x + y) :: st) t I L R Q := wp_go rfl
theorem i154_28 {w0 w1 w2 w3 w4 : Value} {x : Int32} : WP V 154 28 [w0, w1, w2, w3, w4, .int x] st t I L R Q = WP V 154 29 [w0, w1, w2, w3, w4, .int x] (.int x :: st) t I L R Q := wp_go rfl
theorem i154_29 {x y : Int32} : WP V 154 29 ls (.int y :: .int x :: st) t I L R Q = WP V 154 30 ls (.int (x + y) :: st) t I L R Q := wp_go rfl
theorem i154_30 {k j : Nat} (h2 : m_ar k 2 612 = true) (h1 : k < t) (h3 : j < 612) : WP V 154 30 ls (.int (nI j) :: .ref k :: st) t I L R Q = WP V 154 31 ls (.int (I k j) :: st) t I L R Q := wp_iaload rfl (by decide) h1 h2 h3
theorem i154_31 {k j : Nat} {x : Int32} (h2 : m_ar k 2 612 = true) (h1 : k < t) (h3 : j < 612) : WP V 154 31 ls (.int x :: .int (nI j) :: .ref k :: st) t I L R Q = WP V 154 32 ls st t (m_sc I k (m_sc (I k) j x)) L R Q := wp_iastore rfl (by decide) h1 h2 h3
theorem i154_32 {p : Int32} {w0 w1 w2 w3 : Value} {x : Int32} : WP V 154 32 [w0, w1, w2, w3, .int p, .int x] st t I L R Q = WP V 154 33 [w0, w1, w2, w3, .int p, .int (x + (nI 1))] st t I L R Q := wp_go rfl
theorem i154_33  : WP V 154 33 ls st t I L R Q = WP V 154 13 ls st t I L R Q := wp_go rfl
theorem i154_34  : WP V 154 34 ls st t I L R Q = WP V 154 35 ls (.int (nI 0) :: st) t I L R Q := wp_go rfl
theorem i154_35 {p : Int32} {w0 w1 w2 w3 w5 : Value} {x : Int32} : WP V 154 35 [w0, w1, w2, w3, .int p, w5] (.int x :: st) t I L R Q = WP V 154 36 [w0, w1, w2, w3, .int p, .int x] st t I L R Q := wp_go rfl
theorem i154_36 {w0 w1 w2 w3 w4 : Value} {x : Int32} : WP V 154 36 [w0, w1, w2, w3, w4, .int x] st t I L R Q = WP V 154 37 [w0, w1, w2, w3, w4, .int x] (.int x :: st) t I L R Q := wp_go rfl
theorem i154_37  : WP V 154 37 ls st t I L R Q = WP V 154 38 ls (.int (nI 16) :: st) t I L R Q := wp_go rfl
theorem i154_38 {x y : Int32} : WP V 154 38 ls (.int y :: .int x :: st) t I L R Q = if y ≤ x then WP V 154 57 ls st t I L R Q else WP V 154 39 ls st t I L R Q := wp_br (c := m_cc .ge x y) rfl rfl
theorem i154_39 {w1 w2 w3 w4 w5 : Value} {x : Nat} : WP V 154 39 [.ref x, w1, w2, w3, w4, w5] st t I L R Q = WP V 154 40 [.ref x, w1, w2, w3, w4, w5] (.ref x :: st) t I L R Q := wp_go rfl
theorem i154_40 {k : Nat} (h1 : k < t) (h2 : m_ob k 8 = true) : WP V 154 40 ls (.ref k :: st) t I L R Q = WP V 154 41 ls (m_rv (R k 0) :: st) t I L R Q := wp_getR rfl (by decide) h1 h2
theorem i154_41 {w0 w1 w2 w4 w5 : Value} {x : Int32} : WP V 154 41 [w0, w1, w2, .int x, w4, w5] st t I L R Q = WP V 154 42 [w0, w1, w2, .int x, w4, w5] (.int x :: st) t I L R Q := wp_go rfl
theorem i154_42  : WP V 154 42 ls st t I L R Q = WP V 154 43 ls (.int (nI 135) :: st) t I L R Q := wp_go rfl
theorem i154_43 {x y : Int32} : WP V 154 43 ls (.int y :: .int x :: st) t I L R Q = WP V 154 44 ls (.int (x + y) :: st) t I L R Q := wp_go rfl
theorem i154_44 {w0 w1 w2 w3 w4 : Value} {x : Int32} : WP V 154 44 [w0, w1, w2, w3, w4, .int x] st t I L R Q = WP V 154 45 [w0, w1, w2, w3, w4, .int x] (.int x :: st) t I L R Q := wp_go rfl
theorem i154_45 {x y : Int32} : WP V 154 45 ls (.int y :: .int x :: st) t I L R Q = WP V 154 46 ls (.int (x + y) :: st) t I L R Q := wp_go rfl
theorem i154_46 {w1 w2 w3 w4 w5 : Value} {x : Nat} : WP V 154 46 [.ref x, w1, w2, w3, w4, w5] st t I L R Q = WP V 154 47 [.ref x, w1, w2, w3, w4, w5] (.ref x :: st) t I L R Q := wp_go rfl
theorem i154_47 {k : Nat} (h1 : k < t) (h2 : m_ob k 8 = true) : WP V 154 47 ls (.ref k :: st) t I L R Q = WP V 154 48 ls (m_rv (R k 0) :: st) t I L R Q := wp_getR rfl (by decide) h1 h2
theorem i154_48 {w0 w1 w2 w3 w5 : Value} {x : Int32} : WP V 154 48 [w0, w1, w2, w3, .int x, w5] st t I L R Q = WP V 154 49 [w0, w1, w2, w3, .int x, w5] (.int x :: st) t I L R Q := wp_go rfl
theorem i154_49  : WP V 154 49 ls st t I L R Q = WP V 154 50 ls (.int (nI 7) :: st) t I L R Q := wp_go rfl
theorem i154_50 {x y : Int32} : WP V 154 50 ls (.int y :: .int x :: st) t I L R Q = WP V 154 51 ls (.int (x + y) :: st) t I L R Q := wp_go rfl
theorem i154_51 {w0 w1 w2 w3 w4 : Value} {x : Int32} : WP V 154 51 [w0, w1, w2, w3, w4, .int x] st t I L R Q = WP V 154 52 [w0, w1, w2, w3, w4, .int x] (.int x :: st) t I L R Q := wp_go rfl
theorem i154_52 {x y : Int32} : WP V 154 52 ls (.int y :: .int x :: st) t I L R Q = WP V 154 53 ls (.int (x + y) :: st) t I L R Q := wp_go rfl
theorem i154_53 {k j : Nat} (h2 : m_ar k 2 612 = true) (h1 : k < t) (h3 : j < 612) : WP V 154 53 ls (.int (nI j) :: .ref k :: st) t I L R Q = WP V 154 54 ls (.int (I k j) :: st) t I L R Q := wp_iaload rfl (by decide) h1 h2 h3
theorem i154_54 {k j : Nat} {x : Int32} (h2 : m_ar k 2 612 = true) (h1 : k < t) (h3 : j < 612) : WP V 154 54 ls (.int x :: .int (nI j) :: .ref k :: st) t I L R Q = WP V 154 55 ls st t (m_sc I k (m_sc (I k) j x)) L R Q := wp_iastore rfl (by decide) h1 h2 h3
theorem i154_55 {p : Int32} {w0 w1 w2 w3 : Value} {x : Int32} : WP V 154 55 [w0, w1, w2, w3, .int p, .int x] st t I L R Q = WP V 154 56 [w0, w1, w2, w3, .int p, .int (x + (nI 1))] st t I L R Q := wp_go rfl
theorem i154_56  : WP V 154 56 ls st t I L R Q = WP V 154 36 ls st t I L R Q := wp_go rfl
theorem i154_57  : WP V 154 57 ls [] t I L R Q = Q none t I L R := wp_rtv rfl rfl
end
