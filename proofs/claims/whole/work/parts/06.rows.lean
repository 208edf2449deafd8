/-! one row of the small machine, by its kind -/
def m_ob (k c : Nat) : Bool := decide (m_ty k = 1 ∧ m_ln 0 k = c)
def m_ar (k ty N : Nat) : Bool := decide (k < 1000 ∧ m_ty k = ty ∧ m_ln 0 k = N)
def m_01 (v : Int32) : Bool := decide (v = 0 ∨ v = 1)
def m_bl (c : Bool) : Int32 := if c then nI 1 else nI 0
theorem m_01_bl (c : Bool) : m_01 (m_bl c) = true := by cases c <;> rfl
theorem m_01_0 : m_01 (nI 0) = true := rfl
theorem m_01_1 : m_01 (nI 1) = true := rfl
section MRW
variable {V : m_V} {m n : Nat} {ls st : List Value} {t : Nat} {I : m_I} {L : m_L} {R : m_R} {Q : Option Value → Nat → m_I → m_L → m_R → Prop} {pc len len' a b : Nat} {l : List Nat}
theorem wp_iaload {k j N : Nat} (hf : (m_tb m)[n]? = some (pc, .iaload, len, a, b, l)) (hN : N < 2 ^ 31) (h1 : k < t) (h2 : m_ar k 2 N = true) (h3 : j < N) :
    WP V m n ls (.int (nI j) :: .ref k :: st) t I L R Q = WP V m (n + 1) ls (.int (I k j) :: st) t I L R Q := by
  simp only [m_ar, decide_eq_true_eq] at h2
  obtain ⟨h5, h6, h7⟩ := h2
  have hln : m_ln V.1 k = N := by rw [← h7]; simp [m_ln, h5]
  have hc : (nI j).toNatClampNeg = j := nI_clamp (by omega)
  have hin := nI_in h3 hN
  refine wp_go ?_
  simp only [m_nx, hf, m_alu, m_lcl, m_br, m_mem, hln, h6, hc, m_lv, h5, if_true]
  rw [hc] at hin
  rw [if_pos ⟨Or.inl h1, trivial, hin⟩]
  rfl
theorem wp_iastore {k j N : Nat} {x : Int32} (hf : (m_tb m)[n]? = some (pc, .iastore, len, a, b, l)) (hN : N < 2 ^ 31) (h1 : k < t) (h2 : m_ar k 2 N = true) (h3 : j < N) :
    WP V m n ls (.int x :: .int (nI j) :: .ref k :: st) t I L R Q = WP V m (n + 1) ls st t (m_sc I k (m_sc (I k) j x)) L R Q := by
  simp only [m_ar, decide_eq_true_eq] at h2
  obtain ⟨h5, h6, h7⟩ := h2
  have hc : (nI j).toNatClampNeg = j := nI_clamp (by omega)
  have hin := nI_in h3 hN
  refine wp_go ?_
  simp only [m_nx, hf, m_alu, m_lcl, m_br, m_mem, h7, h6, hc]
  rw [hc] at hin
  rw [if_pos ⟨h1, trivial, hin⟩]
  rfl
theorem wp_bastore {k j N : Nat} {x : Int32} (hf : (m_tb m)[n]? = some (pc, .bastore, len, a, b, l)) (hN : N < 2 ^ 31) (h1 : k < t) (h2 : m_ar k 3 N = true) (h3 : j < N) :
    WP V m n ls (.int x :: .int (nI j) :: .ref k :: st) t I L R Q = WP V m (n + 1) ls st t (m_sc I k (m_sc (I k) j (x &&& 1))) L R Q := by
  simp only [m_ar, decide_eq_true_eq] at h2
  obtain ⟨h5, h6, h7⟩ := h2
  have hc : (nI j).toNatClampNeg = j := nI_clamp (by omega)
  have hin := nI_in h3 hN
  refine wp_go ?_
  simp only [m_nx, hf, m_alu, m_lcl, m_br, m_mem, h7, h6, hc]
  rw [hc] at hin
  rw [if_pos ⟨h1, trivial, hin⟩]
  rfl
theorem wp_baload {k j N : Nat} (hf : (m_tb m)[n]? = some (pc, .baload, len, a, b, l)) (hN : N < 2 ^ 31) (h1 : k < t) (h2 : m_ar k 3 N = true) (h3 : j < N) :
    WP V m n ls (.int (nI j) :: .ref k :: st) t I L R Q = WP V m (n + 1) ls (.int (I k j) :: st) t I L R Q := by
  simp only [m_ar, decide_eq_true_eq] at h2
  obtain ⟨h5, h6, h7⟩ := h2
  have hc : (nI j).toNatClampNeg = j := nI_clamp (by omega)
  have hin := nI_in h3 hN
  refine wp_go ?_
  simp only [m_nx, hf, m_alu, m_lcl, m_br, m_mem, h7, h6, hc]
  rw [hc] at hin
  rw [if_pos ⟨h1, trivial, hin⟩]
  rfl
theorem wp_laload {k j N : Nat} (hf : (m_tb m)[n]? = some (pc, .laload, len, a, b, l)) (hN : N < 2 ^ 31) (h1 : k < t) (h2 : m_ar k 4 N = true) (h3 : j < N) :
    WP V m n ls (.int (nI j) :: .ref k :: st) t I L R Q = WP V m (n + 1) ls (.long (L k j) :: st) t I L R Q := by
  simp only [m_ar, decide_eq_true_eq] at h2
  obtain ⟨h5, h6, h7⟩ := h2
  have hc : (nI j).toNatClampNeg = j := nI_clamp (by omega)
  have hin := nI_in h3 hN
  refine wp_go ?_
  simp only [m_nx, hf, m_alu, m_lcl, m_br, m_mem, h7, h6, hc]
  rw [hc] at hin
  rw [if_pos ⟨h1, trivial, hin⟩]
  rfl
theorem wp_lastore {k j N : Nat} {x : Int64} (hf : (m_tb m)[n]? = some (pc, .lastore, len, a, b, l)) (hN : N < 2 ^ 31) (h1 : k < t) (h2 : m_ar k 4 N = true) (h3 : j < N) :
    WP V m n ls (.long x :: .int (nI j) :: .ref k :: st) t I L R Q = WP V m (n + 1) ls st t I (m_sc L k (m_sc (L k) j x)) R Q := by
  simp only [m_ar, decide_eq_true_eq] at h2
  obtain ⟨h5, h6, h7⟩ := h2
  have hc : (nI j).toNatClampNeg = j := nI_clamp (by omega)
  have hin := nI_in h3 hN
  refine wp_go ?_
  simp only [m_nx, hf, m_alu, m_lcl, m_br, m_mem, h7, h6, hc]
  rw [hc] at hin
  rw [if_pos ⟨h1, trivial, hin⟩]
  rfl
/-- the script, and the tables that nobody writes -/
theorem wp_sload {k j : Nat} (hf : (m_tb m)[n]? = some (pc, .iaload, len, a, b, l)) (h1 : 1000 ≤ k) (h2 : m_ty k = 2) (h3 : j < m_ln V.1 k) (hN : m_ln V.1 k < 2 ^ 31) :
    WP V m n ls (.int (nI j) :: .ref k :: st) t I L R Q = WP V m (n + 1) ls (.int (V.2 k j) :: st) t I L R Q := by
  have hc : (nI j).toNatClampNeg = j := nI_clamp (by omega)
  have hin := nI_in h3 hN
  refine wp_go ?_
  simp only [m_nx, hf, m_alu, m_lcl, m_br, m_mem, h2, hc, m_lv]
  rw [hc] at hin
  rw [if_pos ⟨Or.inr h1, trivial, hin⟩, if_neg (Nat.not_lt.mpr h1)]
  rfl
theorem wp_alen {k N ty : Nat} (hf : (m_tb m)[n]? = some (pc, .arraylength, len, a, b, l)) (h1 : k < t) (h2 : m_ar k ty N = true) (h3 : 2 ≤ ty) :
    WP V m n ls (.ref k :: st) t I L R Q = WP V m (n + 1) ls (.int (nI N) :: st) t I L R Q := by
  simp only [m_ar, decide_eq_true_eq] at h2
  obtain ⟨h5, h6, h7⟩ := h2
  have hln : m_ln V.1 k = N := by rw [← h7]; simp [m_ln, h5]
  refine wp_go ?_
  simp only [m_nx, hf, m_alu, m_lcl, m_br, m_mem, hln, h6]
  rw [if_pos ⟨Or.inl h1, h3⟩]
  rfl
theorem wp_getI {k : Nat} (hf : (m_tb m)[n]? = some (pc, .getfield len, len', a, b, l)) (hk : m_fkd a b ≠ 2) (h1 : k < t) (h2 : m_ob k a = true) :
    WP V m n ls (.ref k :: st) t I L R Q = WP V m (n + 1) ls (.int (I k b) :: st) t I L R Q := by
  simp only [m_ob, decide_eq_true_eq] at h2
  refine wp_go ?_
  simp only [m_nx, hf, m_alu, m_lcl, m_br, m_mem]
  rw [if_pos ⟨h1, h2⟩, if_neg hk]
  rfl
theorem wp_getR {k : Nat} (hf : (m_tb m)[n]? = some (pc, .getfield len, len', a, b, l)) (hk : m_fkd a b = 2) (h1 : k < t) (h2 : m_ob k a = true) :
    WP V m n ls (.ref k :: st) t I L R Q = WP V m (n + 1) ls (m_rv (R k b) :: st) t I L R Q := by
  simp only [m_ob, decide_eq_true_eq] at h2
  refine wp_go ?_
  simp only [m_nx, hf, m_alu, m_lcl, m_br, m_mem]
  rw [if_pos ⟨h1, h2⟩, if_pos hk]
  rfl
theorem wp_putI {k : Nat} {x : Int32} (hf : (m_tb m)[n]? = some (pc, .putfield len, len', a, b, l)) (hk : m_fkd a b = 0) (h1 : k < t) (h2 : m_ob k a = true) :
    WP V m n ls (.int x :: .ref k :: st) t I L R Q = WP V m (n + 1) ls st t (m_sc I k (m_sc (I k) b x)) L R Q := by
  simp only [m_ob, decide_eq_true_eq] at h2
  refine wp_go ?_
  simp only [m_nx, hf, m_alu, m_lcl, m_br, m_mem]
  rw [if_pos ⟨h1, h2.1, h2.2, Or.inl hk⟩]
  rfl
theorem wp_putZ {k : Nat} {x : Int32} (hf : (m_tb m)[n]? = some (pc, .putfield len, len', a, b, l)) (hk : m_fkd a b = 1) (h1 : k < t) (h2 : m_ob k a = true) (h3 : m_01 x = true) :
    WP V m n ls (.int x :: .ref k :: st) t I L R Q = WP V m (n + 1) ls st t (m_sc I k (m_sc (I k) b x)) L R Q := by
  simp only [m_ob, decide_eq_true_eq] at h2
  simp only [m_01, decide_eq_true_eq] at h3
  refine wp_go ?_
  simp only [m_nx, hf, m_alu, m_lcl, m_br, m_mem]
  rw [if_pos ⟨h1, h2.1, h2.2, Or.inr ⟨hk, h3⟩⟩]
  rfl
theorem wp_putR {k : Nat} {x : Nat} (hf : (m_tb m)[n]? = some (pc, .putfield len, len', a, b, l)) (hk : m_fkd a b = 2) (h1 : k < t) (h2 : m_ob k a = true) :
    WP V m n ls (.ref x :: .ref k :: st) t I L R Q = WP V m (n + 1) ls st t I L (m_sc R k (m_sc (R k) b (some x))) Q := by
  simp only [m_ob, decide_eq_true_eq] at h2
  refine wp_go ?_
  simp only [m_nx, hf, m_alu, m_lcl, m_br, m_mem]
  rw [if_pos ⟨h1, h2.1, h2.2, hk⟩]
  rfl
theorem wp_putN {k : Nat} (hf : (m_tb m)[n]? = some (pc, .putfield len, len', a, b, l)) (hk : m_fkd a b = 2) (h1 : k < t) (h2 : m_ob k a = true) :
    WP V m n ls (.null :: .ref k :: st) t I L R Q = WP V m (n + 1) ls st t I L (m_sc R k (m_sc (R k) b none)) Q := by
  simp only [m_ob, decide_eq_true_eq] at h2
  refine wp_go ?_
  simp only [m_nx, hf, m_alu, m_lcl, m_br, m_mem]
  rw [if_pos ⟨h1, h2.1, h2.2, hk⟩]
  rfl
theorem wp_br {c : Bool} {st' : List Value} {cnd : Prop} [Decidable cnd] {n' : Nat} (ht : m_nx V (m, n, ls, st, t, I, L, R) = some (.inr (.inl (m, if c then n' else n + 1, ls, st', t, I, L, R)))) (hc : c = decide cnd) :
    WP V m n ls st t I L R Q = if cnd then WP V m n' ls st' t I L R Q else WP V m (n + 1) ls st' t I L R Q := by
  rw [wp_go ht, hc]
  by_cases h : cnd
  · simp [h]
  · simp [h]
theorem wp_brn {c : Bool} {st' : List Value} {cnd : Prop} [Decidable cnd] {n' : Nat} (ht : m_nx V (m, n, ls, st, t, I, L, R) = some (.inr (.inl (m, if c then n' else n + 1, ls, st', t, I, L, R)))) (hc : c = decide (¬ cnd)) :
    WP V m n ls st t I L R Q = if cnd then WP V m (n + 1) ls st' t I L R Q else WP V m n' ls st' t I L R Q := by
  rw [wp_go ht, hc]
  by_cases h : cnd
  · simp [h]
  · simp [h]
theorem wp_idiv {x y : Int32} (hf : (m_tb m)[n]? = some (pc, .idiv, len, a, b, l)) (h : ¬ y = 0) : WP V m n ls (.int y :: .int x :: st) t I L R Q = WP V m (n + 1) ls (.int (x / y) :: st) t I L R Q := by
  refine wp_go ?_
  simp only [m_nx, hf, m_alu]
  rw [if_neg h]
  rfl
theorem wp_irem {x y : Int32} (hf : (m_tb m)[n]? = some (pc, .irem, len, a, b, l)) (h : ¬ y = 0) : WP V m n ls (.int y :: .int x :: st) t I L R Q = WP V m (n + 1) ls (.int (x - x / y * y) :: st) t I L R Q := by
  refine wp_go ?_
  simp only [m_nx, hf, m_alu]
  rw [if_neg h]
  rfl
theorem wp_tload {k j : Nat} (hf : (m_tb m)[n]? = some (pc, .iaload, len, a, b, l)) (h1 : 1000 ≤ k) (h2 : k < 1003) (h3 : j < 22) :
    WP V m n ls (.int (nI j) :: .ref k :: st) t I L R Q = WP V m (n + 1) ls (.int (V.2 k j) :: st) t I L R Q := by
  have e : m_ln V.1 k = 22 := by simp [m_ln, Nat.not_lt.mpr h1, h2]
  exact wp_sload hf h1 (by simp [m_ty, Nat.not_lt.mpr h1, show k < 1004 by omega]) (by rw [e]; exact h3) (by rw [e]; decide)
theorem wp_slen (hf : (m_tb m)[n]? = some (pc, .arraylength, len, a, b, l)) : WP V m n ls (.ref 1003 :: st) t I L R Q = WP V m (n + 1) ls (.int (nI V.1) :: st) t I L R Q := by
  refine wp_go ?_
  simp only [m_nx, hf, m_alu, m_lcl, m_br, m_mem]
  rw [if_pos ⟨Or.inr (by decide), by decide⟩]
  rfl
/-- a call's row -/
theorem wp_cls {As st' : List Value} (hf : m_nx V (m, n, ls, st, t, I, L, R) = m_cls m ls (t, I, L, R) a b st n) (ha : a < 199) (hb : b ≤ st.length) (hA : (st.take b).reverse = As) (hr : st.drop b = st') (hs : (st'.map fun v => v.category).sum ≤ 8) (hl : (m_lay As).length ≤ m_ml a) :
    WP V m n ls st t I L R Q = WPC V a As m (n + 1) ls st' t I L R Q := by
  subst hA
  subst hr
  refine wp_call (hf.trans ?_)
  unfold m_cls
  dsimp only
  rw [if_pos ⟨ha, hb, hs, hl⟩]
theorem wp_icv {k : Nat} (hf : (m_tb m)[n]? = some (pc, .invokevirtual len, len', a, b, l)) (hb : st[b]? = some (.ref k)) (h1 : k < t) (h2 : m_ob k (m_ow a) = true) : m_nx V (m, n, ls, st, t, I, L, R) = m_cls m ls (t, I, L, R) a (b + 1) st n := by
  simp only [m_ob, decide_eq_true_eq] at h2
  simp only [m_nx, hf, hb]
  rw [if_pos ⟨h1, h2⟩]
theorem wp_icp {k : Nat} (hf : (m_tb m)[n]? = some (pc, .invokespecial len, len', a, b, l)) (ha : a ≠ 1001) (hb : st[b]? = some (.ref k)) (h1 : k < t) : m_nx V (m, n, ls, st, t, I, L, R) = m_cls m ls (t, I, L, R) a (b + 1) st n := by
  simp only [m_nx, hf, hb]
  rw [if_neg ha, if_pos h1]
theorem wp_ics (hf : (m_tb m)[n]? = some (pc, .invokestatic len, len', a, b, l)) (ha : a ≠ 1000 ∧ a ≠ 1002) : m_nx V (m, n, ls, st, t, I, L, R) = m_cls m ls (t, I, L, R) a b st n := by
  simp only [m_nx, hf]
  rw [if_neg ha.1, if_neg ha.2]
theorem wp_rti {x : Int32} (hf : (m_tb m)[n]? = some (pc, .ireturn, len, a, b, l)) (hr : m_rt m = some .int) : WP V m n ls [.int x] t I L R Q = Q (some (.int x)) t I L R :=
  wp_ret (by simp only [m_nx, hf, m_ret, m_rto, hr, if_true])
theorem wp_rtz {x : Int32} (hf : (m_tb m)[n]? = some (pc, .ireturn, len, a, b, l)) (hr : m_rt m = some .boolean) (h : m_01 x = true) : WP V m n ls [.int x] t I L R Q = Q (some (.int x)) t I L R :=
  wp_ret (by
    have h2 : decide (x = 0 ∨ x = 1) = true := h
    simp only [m_nx, hf, m_ret, m_rto, hr, h2, if_true])
theorem wp_rtl {x : Int64} (hf : (m_tb m)[n]? = some (pc, .lreturn, len, a, b, l)) (hr : m_rt m = some .long) : WP V m n ls [.long x] t I L R Q = Q (some (.long x)) t I L R :=
  wp_ret (by simp only [m_nx, hf, m_ret, m_rto, hr, if_true])
theorem wp_rtv (hf : (m_tb m)[n]? = some (pc, .return_, len, a, b, l)) (hr : m_rt m = none) : WP V m n ls [] t I L R Q = Q none t I L R :=
  wp_ret (by simp only [m_nx, hf, m_ret, m_rto, hr, if_true])
theorem wp_copyi {s d Ns Nd sp dp cnt : Nat} (hf : (m_tb m)[n]? = some (pc, .invokestatic len, len', 1000, b, l)) (hN : Ns < 2 ^ 31) (hM : Nd < 2 ^ 31) (h1 : s < t) (h2 : d < t) (h3 : m_ar s 2 Ns = true) (h4 : m_ar d 2 Nd = true) (h5 : sp + cnt ≤ Ns) (h6 : dp + cnt ≤ Nd) (hs : (st.map fun v => v.category).sum ≤ 8) :
    WP V m n ls (.int (nI cnt) :: .int (nI dp) :: .ref d :: .int (nI sp) :: .ref s :: st) t I L R Q = WP V m (n + 1) ls st t (m_sc I d (va_cpy (I s) (I d) sp dp cnt)) L R Q := by
  simp only [m_ar, decide_eq_true_eq] at h3 h4
  have e1 : (nI sp).toNatClampNeg = sp := nI_clamp (by omega)
  have e2 : (nI dp).toNatClampNeg = dp := nI_clamp (by omega)
  have e3 : (nI cnt).toNatClampNeg = cnt := nI_clamp (by omega)
  have g1 := nI_pos (n := sp) (by omega)
  have g2 := nI_pos (n := dp) (by omega)
  have g3 := nI_pos (n := cnt) (by omega)
  refine wp_go ?_
  simp only [m_nx, hf, m_cp, if_true, e1, e2, e3, h3.2.2, h4.2.2]
  rw [if_pos ⟨h1, h2, g1, g2, g3, h5, h6, hs⟩, if_pos ⟨h3.2.1, h4.2.1⟩]
  rfl
theorem wp_copyl {s d Ns Nd sp dp cnt : Nat} (hf : (m_tb m)[n]? = some (pc, .invokestatic len, len', 1000, b, l)) (hN : Ns < 2 ^ 31) (hM : Nd < 2 ^ 31) (h1 : s < t) (h2 : d < t) (h3 : m_ar s 4 Ns = true) (h4 : m_ar d 4 Nd = true) (h5 : sp + cnt ≤ Ns) (h6 : dp + cnt ≤ Nd) (hs : (st.map fun v => v.category).sum ≤ 8) :
    WP V m n ls (.int (nI cnt) :: .int (nI dp) :: .ref d :: .int (nI sp) :: .ref s :: st) t I L R Q = WP V m (n + 1) ls st t I (m_sc L d (va_cpy (L s) (L d) sp dp cnt)) R Q := by
  simp only [m_ar, decide_eq_true_eq] at h3 h4
  have e1 : (nI sp).toNatClampNeg = sp := nI_clamp (by omega)
  have e2 : (nI dp).toNatClampNeg = dp := nI_clamp (by omega)
  have e3 : (nI cnt).toNatClampNeg = cnt := nI_clamp (by omega)
  have g1 := nI_pos (n := sp) (by omega)
  have g2 := nI_pos (n := dp) (by omega)
  have g3 := nI_pos (n := cnt) (by omega)
  refine wp_go ?_
  simp only [m_nx, hf, m_cp, if_true, e1, e2, e3, h3.2.2, h4.2.2]
  rw [if_pos ⟨h1, h2, g1, g2, g3, h5, h6, hs⟩, if_neg (fun z => absurd (h3.2.1.symm.trans z.1) (by decide)), if_pos ⟨h3.2.1, h4.2.1⟩]
  rfl
theorem wp_objI {k : Nat} (hf : (m_tb m)[n]? = some (pc, .invokespecial len, len', 1001, b, l)) (hs : (st.map fun v => v.category).sum ≤ 8) :
    WP V m n ls (.ref k :: st) t I L R Q = WP V m (n + 1) ls st t I L R Q := by
  refine wp_go ?_
  simp only [m_nx, hf, if_true]
  rw [if_pos hs]
  rfl
theorem wp_sw {d lo hi : Int} {os : Array Int} {x : Nat} {j : Nat} (hf : (m_tb m)[n]? = some (pc, .tableswitch d lo hi os, len, a, b, l)) (hx : x < 2 ^ 31) (h1 : lo ≤ (x : Int)) (h2 : (x : Int) ≤ hi) (hj : l[((x : Int) - lo).toNat]? = some j) :
    WP V m n ls (.int (nI x) :: st) t I L R Q = WP V m j ls st t I L R Q := by
  have e := nI_toInt hx
  refine wp_go ?_
  simp only [m_nx, hf, e]
  rw [if_neg (by omega), hj]
  rfl
theorem wp_swd {d lo hi : Int} {os : Array Int} {x : Int32} (hf : (m_tb m)[n]? = some (pc, .tableswitch d lo hi os, len, a, b, l)) (h : x.toInt < lo ∨ hi < x.toInt) :
    WP V m n ls (.int x :: st) t I L R Q = WP V m a ls st t I L R Q := by
  refine wp_go ?_
  simp only [m_nx, hf]
  rw [if_pos h]
  rfl
theorem wp_new (hf : (m_tb m)[n]? = some (pc, .new len, len', a, b, l)) (h : m_ob t a = true) :
    WP V m n ls st t I L R Q = WP V m (n + 1) ls (.ref t :: st) (t + 1) (m_sc I t (fun _ => 0)) L (m_sc R t (fun _ => none)) Q := by
  simp only [m_ob, decide_eq_true_eq] at h
  refine wp_go ?_
  simp only [m_nx, hf, m_alu, m_lcl, m_br, m_mem]
  rw [if_pos h]
  rfl
theorem wp_newi {N : Nat} (hf : (m_tb m)[n]? = some (pc, .newarray .int, len, a, b, l)) (h : m_ar t 2 N = true) :
    WP V m n ls (.int (nI N) :: st) t I L R Q = WP V m (n + 1) ls (.ref t :: st) (t + 1) (m_sc I t (fun _ => 0)) (m_sc L t (fun _ => 0)) R Q := by
  simp only [m_ar, decide_eq_true_eq] at h
  refine wp_go ?_
  simp only [m_nx, hf, m_alu, m_lcl, m_br, m_mem]
  rw [if_pos ⟨Or.inl ⟨h.2.1, trivial⟩, by rw [h.2.2]; rfl⟩]
  rfl
theorem wp_newz {N : Nat} (hf : (m_tb m)[n]? = some (pc, .newarray .boolean, len, a, b, l)) (h : m_ar t 3 N = true) :
    WP V m n ls (.int (nI N) :: st) t I L R Q = WP V m (n + 1) ls (.ref t :: st) (t + 1) (m_sc I t (fun _ => 0)) (m_sc L t (fun _ => 0)) R Q := by
  simp only [m_ar, decide_eq_true_eq] at h
  refine wp_go ?_
  simp only [m_nx, hf, m_alu, m_lcl, m_br, m_mem]
  rw [if_pos ⟨Or.inr (Or.inl ⟨h.2.1, trivial⟩), by rw [h.2.2]; rfl⟩]
  rfl
theorem wp_newl {N : Nat} (hf : (m_tb m)[n]? = some (pc, .newarray .long, len, a, b, l)) (h : m_ar t 4 N = true) :
    WP V m n ls (.int (nI N) :: st) t I L R Q = WP V m (n + 1) ls (.ref t :: st) (t + 1) (m_sc I t (fun _ => 0)) (m_sc L t (fun _ => 0)) R Q := by
  simp only [m_ar, decide_eq_true_eq] at h
  refine wp_go ?_
  simp only [m_nx, hf, m_alu, m_lcl, m_br, m_mem]
  rw [if_pos ⟨Or.inr (Or.inr ⟨h.2.1, trivial⟩), by rw [h.2.2]; rfl⟩]
  rfl
end MRW
