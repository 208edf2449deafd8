/-! A SMALL MACHINE: the methods' rows run over plain functions. A cell is a number (m_sh tells what it is); from 1000 on stand the tables and the script, which nobody writes. -/
abbrev m_I : Type := Nat → Nat → Int32
abbrev m_L : Type := Nat → Nat → Int64
abbrev m_R : Type := Nat → Nat → Option Nat
/-- how many cells there are; ints and booleans, longs, references of cells by their places -/
abbrev m_X : Type := Nat × m_I × m_L × m_R
/-- method, place, locals, stack (top first), memory -/
abbrev m_S : Type := Nat × Nat × List Value × List Value × m_X
/-- the script's length, and what the cells from 1000 on hold -/
abbrev m_V : Type := Nat × m_I
abbrev m_u : Value := .retAddr 0
def m_q (m : Nat) : m_Q := m_all.getD m (⟨"", "", ""⟩, .empty, 0, none, 0, 0, 0, [])
def m_y (m : Nat) : MethodName := (m_q m).1
def m_b (m : Nat) : ByteArray := (m_q m).2.1
def m_ml (m : Nat) : Nat := (m_q m).2.2.1
def m_rt (m : Nat) : Option FieldType := (m_q m).2.2.2.1
def m_fr (m : Nat) : Nat := (m_q m).2.2.2.2.1
def m_lo (m : Nat) : Nat := (m_q m).2.2.2.2.2.1
def m_ow (m : Nat) : Nat := (m_q m).2.2.2.2.2.2.1
def m_tb (m : Nat) : List m_E := (m_q m).2.2.2.2.2.2.2
def m_e0 : m_E := (0, .nop, 0, 0, 0, [])
def m_pc (m n : Nat) : Nat := ((m_tb m).getD n m_e0).1
def m_ty (k : Nat) : Nat := if k < 1000 then (m_sh.getD k (0, 0)).1 else if k < 1004 then 2 else 0
def m_ln (L k : Nat) : Nat := if k < 1000 then (m_sh.getD k (0, 0)).2 else if k < 1003 then 22 else L
def m_fkd (c j : Nat) : Nat := (m_fk.getD c []).getD j 3
def m_CR (c : Nat) : String := (m_cl.getD c ("", fun _ => ("", "", "", false), 0)).1
def m_CT (c : Nat) : u_T := (m_cl.getD c ("", fun _ => ("", "", "", false), 0)).2.1
def m_CN (c : Nat) : Nat := (m_cl.getD c ("", fun _ => ("", "", "", false), 0)).2.2
def m_rv (r : Option Nat) : Value := match r with
  | none => .null
  | some k => .ref k
def m_sc {α : Type} (f : Nat → α) (k : Nat) (x : α) : Nat → α := fun a => if a = k then x else f a
/-- a condition of a branch -/
def m_cc (c : ClassFile.Cond) (x y : Int32) : Bool := match c with
  | .eq => decide (x = y)
  | .ne => decide (¬ x = y)
  | .lt => decide (x < y)
  | .ge => decide (y ≤ x)
  | .gt => decide (y < x)
  | .le => decide (x ≤ y)
/-- what only the stack sees -/
def m_alu (ins : ClassFile.Instr) (a : Nat) (st : List Value) : Option (List Value) := match ins with
  | .iconst i => some (.int (Int32.ofInt i) :: st)
  | .bipush i => some (.int (Int8.ofInt i).toInt32 :: st)
  | .sipush i => some (.int (Int16.ofInt i).toInt32 :: st)
  | .lconst l => some (.long (Int64.ofNat (l : Nat)) :: st)
  | .ldc _ => if a < 2147483648 then some (.int (Int32.ofNat a) :: st) else none
  | .ldc2_w _ => some (.long (Int64.ofNat a) :: st)
  | .aconst_null => some (.null :: st)
  | .iadd => match st with
    | .int y :: .int x :: r => some (.int (x + y) :: r)
    | _ => none
  | .isub => match st with
    | .int y :: .int x :: r => some (.int (x - y) :: r)
    | _ => none
  | .imul => match st with
    | .int y :: .int x :: r => some (.int (x * y) :: r)
    | _ => none
  | .iand => match st with
    | .int y :: .int x :: r => some (.int (x &&& y) :: r)
    | _ => none
  | .ior => match st with
    | .int y :: .int x :: r => some (.int (x ||| y) :: r)
    | _ => none
  | .ixor => match st with
    | .int y :: .int x :: r => some (.int (x ^^^ y) :: r)
    | _ => none
  | .idiv => match st with
    | .int y :: .int x :: r => if y = 0 then none else some (.int (x / y) :: r)
    | _ => none
  | .irem => match st with
    | .int y :: .int x :: r => if y = 0 then none else some (.int (x - x / y * y) :: r)
    | _ => none
  | .ishl => match st with
    | .int y :: .int x :: r => some (.int (x <<< (y &&& 31)) :: r)
    | _ => none
  | .ishr => match st with
    | .int y :: .int x :: r => some (.int (x >>> (y &&& 31)) :: r)
    | _ => none
  | .iushr => match st with
    | .int y :: .int x :: r => some (.int ((x.toUInt32 >>> (y.toUInt32 &&& Int32.toUInt32 31)).toInt32) :: r)
    | _ => none
  | .ladd => match st with
    | .long y :: .long x :: r => some (.long (x + y) :: r)
    | _ => none
  | .lmul => match st with
    | .long y :: .long x :: r => some (.long (x * y) :: r)
    | _ => none
  | .land => match st with
    | .long y :: .long x :: r => some (.long (x &&& y) :: r)
    | _ => none
  | .lor => match st with
    | .long y :: .long x :: r => some (.long (x ||| y) :: r)
    | _ => none
  | .lshl => match st with
    | .int y :: .long x :: r => some (.long (x <<< (y.toInt64 &&& 63)) :: r)
    | _ => none
  | .lcmp => match st with
    | .long y :: .long x :: r => some (.int (lg_cmp x y) :: r)
    | _ => none
  | .i2l => match st with
    | .int x :: r => some (.long x.toInt64 :: r)
    | _ => none
  | .l2i => match st with
    | .long x :: r => some (.int x.toInt32 :: r)
    | _ => none
  | .i2b => match st with
    | .int x :: r => some (.int x.toInt8.toInt32 :: r)
    | _ => none
  | .i2s => match st with
    | .int x :: r => some (.int x.toInt16.toInt32 :: r)
    | _ => none
  | .dup => match st with
    | v :: r => if v.category = 1 then some (v :: v :: r) else none
    | _ => none
  | .dup_x1 => match st with
    | v :: w :: r => if v.category = 1 ∧ w.category = 1 then some (v :: w :: v :: r) else none
    | _ => none
  | .dup_x2 => match st with
    | v :: w :: z :: r => if v.category = 1 ∧ w.category = 1 ∧ z.category = 1 then some (v :: w :: z :: v :: r) else none
    | _ => none
  | .dup2 => match st with
    | v :: w :: r => if v.category = 1 ∧ w.category = 1 then some (v :: w :: v :: w :: r) else none
    | _ => none
  | _ => none
/-- a place of the locals is written; a long that stood half there is not told of -/
def m_st1 (ls : List Value) (i : Nat) (v : Value) : Option (List Value) := if i < ls.length ∧ (i = 0 ∨ (ls.getD (i - 1) m_u).category = 1) then some (ls.set i v) else none
def m_st2 (ls : List Value) (i : Nat) (v : Value) : Option (List Value) := if i + 1 < ls.length ∧ (i = 0 ∨ (ls.getD (i - 1) m_u).category = 1) then some ((ls.set i v).set (i + 1) m_u) else none
def m_ldi (x : Option Value) (r : List Value) : Option (List Value) := match x with
  | some (.int x) => some (.int x :: r)
  | _ => none
def m_ldl (x : Option Value) (r : List Value) : Option (List Value) := match x with
  | some (.long x) => some (.long x :: r)
  | _ => none
def m_ldr (x : Option Value) (r : List Value) : Option (List Value) := match x with
  | some (.ref x) => some (.ref x :: r)
  | _ => none
def m_sti (ls : List Value) (i : Nat) (st : List Value) : Option (List Value × List Value) := match st with
  | .int x :: r => (m_st1 ls i (.int x)).map fun l => (l, r)
  | _ => none
def m_stl (ls : List Value) (i : Nat) (st : List Value) : Option (List Value × List Value) := match st with
  | .long x :: r => (m_st2 ls i (.long x)).map fun l => (l, r)
  | _ => none
def m_str (ls : List Value) (i : Nat) (st : List Value) : Option (List Value × List Value) := match st with
  | .ref x :: r => (m_st1 ls i (.ref x)).map fun l => (l, r)
  | _ => none
/-- what only locals and stack see -/
def m_lcl (ins : ClassFile.Instr) (ls st : List Value) : Option (List Value × List Value) := match ins with
  | .iload i => (m_ldi ls[i]? st).map fun r => (ls, r)
  | .iload_n i => (m_ldi ls[(i : Nat)]? st).map fun r => (ls, r)
  | .lload i => (m_ldl ls[i]? st).map fun r => (ls, r)
  | .lload_n i => (m_ldl ls[(i : Nat)]? st).map fun r => (ls, r)
  | .aload i => (m_ldr ls[i]? st).map fun r => (ls, r)
  | .aload_n i => (m_ldr ls[(i : Nat)]? st).map fun r => (ls, r)
  | .istore i => m_sti ls i st
  | .istore_n i => m_sti ls i st
  | .lstore i => m_stl ls i st
  | .lstore_n i => m_stl ls i st
  | .astore i => m_str ls i st
  | .astore_n i => m_str ls i st
  | .iinc i k => match ls[i]? with
    | some (.int x) => (m_st1 ls i (.int (x + Int32.ofInt k))).map fun l => (l, st)
    | _ => none
  | _ => none
/-- a branch: whether it goes, and the stack behind it -/
def m_br (ins : ClassFile.Instr) (st : List Value) : Option (Bool × List Value) := match ins with
  | .ifCond c _ => match st with
    | .int x :: r => some (m_cc c x 0, r)
    | _ => none
  | .if_icmp c _ => match st with
    | .int y :: .int x :: r => some (m_cc c x y, r)
    | _ => none
  | .goto _ => some (true, st)
  | .ifnull _ => match st with
    | .null :: r => some (true, r)
    | .ref _ :: r => some (false, r)
    | _ => none
  | .ifnonnull _ => match st with
    | .null :: r => some (false, r)
    | .ref _ :: r => some (true, r)
    | _ => none
  | _ => none
def m_lv (V : m_V) (I : m_I) (k : Nat) : Nat → Int32 := if k < 1000 then I k else V.2 k
/-- what reads and writes cells -/
def m_mem (V : m_V) (ins : ClassFile.Instr) (a b : Nat) (st : List Value) (t : Nat) (I : m_I) (L : m_L) (R : m_R) : Option (List Value × m_X) := match ins with
  | .getfield _ => match st with
    | .ref k :: r => if k < t ∧ m_ty k = 1 ∧ m_ln 0 k = a then (if m_fkd a b = 2 then some (m_rv (R k b) :: r, t, I, L, R) else some (.int (I k b) :: r, t, I, L, R)) else none
    | _ => none
  | .putfield _ => match st with
    | .int v :: .ref k :: r => if k < t ∧ m_ty k = 1 ∧ m_ln 0 k = a ∧ (m_fkd a b = 0 ∨ (m_fkd a b = 1 ∧ (v = 0 ∨ v = 1))) then some (r, t, m_sc I k (m_sc (I k) b v), L, R) else none
    | .ref v :: .ref k :: r => if k < t ∧ m_ty k = 1 ∧ m_ln 0 k = a ∧ m_fkd a b = 2 then some (r, t, I, L, m_sc R k (m_sc (R k) b (some v))) else none
    | .null :: .ref k :: r => if k < t ∧ m_ty k = 1 ∧ m_ln 0 k = a ∧ m_fkd a b = 2 then some (r, t, I, L, m_sc R k (m_sc (R k) b none)) else none
    | _ => none
  | .getstatic _ => some (.ref a :: st, t, I, L, R)
  | .iaload => match st with
    | .int i :: .ref k :: r => if (k < t ∨ 1000 ≤ k) ∧ m_ty k = 2 ∧ ¬ (i < 0 ∨ m_ln V.1 k ≤ i.toNatClampNeg) then some (.int (m_lv V I k i.toNatClampNeg) :: r, t, I, L, R) else none
    | _ => none
  | .baload => match st with
    | .int i :: .ref k :: r => if k < t ∧ m_ty k = 3 ∧ ¬ (i < 0 ∨ m_ln 0 k ≤ i.toNatClampNeg) then some (.int (I k i.toNatClampNeg) :: r, t, I, L, R) else none
    | _ => none
  | .laload => match st with
    | .int i :: .ref k :: r => if k < t ∧ m_ty k = 4 ∧ ¬ (i < 0 ∨ m_ln 0 k ≤ i.toNatClampNeg) then some (.long (L k i.toNatClampNeg) :: r, t, I, L, R) else none
    | _ => none
  | .iastore => match st with
    | .int v :: .int i :: .ref k :: r => if k < t ∧ m_ty k = 2 ∧ ¬ (i < 0 ∨ m_ln 0 k ≤ i.toNatClampNeg) then some (r, t, m_sc I k (m_sc (I k) i.toNatClampNeg v), L, R) else none
    | _ => none
  | .bastore => match st with
    | .int v :: .int i :: .ref k :: r => if k < t ∧ m_ty k = 3 ∧ ¬ (i < 0 ∨ m_ln 0 k ≤ i.toNatClampNeg) then some (r, t, m_sc I k (m_sc (I k) i.toNatClampNeg (v &&& 1)), L, R) else none
    | _ => none
  | .lastore => match st with
    | .long v :: .int i :: .ref k :: r => if k < t ∧ m_ty k = 4 ∧ ¬ (i < 0 ∨ m_ln 0 k ≤ i.toNatClampNeg) then some (r, t, I, m_sc L k (m_sc (L k) i.toNatClampNeg v), R) else none
    | _ => none
  | .arraylength => match st with
    | .ref k :: r => if (k < t ∨ 1000 ≤ k) ∧ 2 ≤ m_ty k then some (.int (Int32.ofNat (m_ln V.1 k)) :: r, t, I, L, R) else none
    | _ => none
  | .new _ => if m_ty t = 1 ∧ m_ln 0 t = a then some (.ref t :: st, t + 1, m_sc I t (fun _ => 0), L, m_sc R t (fun _ => none)) else none
  | .newarray ty => match st with
    | .int n :: r => if (m_ty t = 2 ∧ ty = .int ∨ m_ty t = 3 ∧ ty = .boolean ∨ m_ty t = 4 ∧ ty = .long) ∧ n = Int32.ofNat (m_ln 0 t) then some (.ref t :: r, t + 1, m_sc I t (fun _ => 0), m_sc L t (fun _ => 0), R) else none
    | _ => none
  | _ => none
/-- System.arraycopy -/
def m_cp (t : Nat) (I : m_I) (L : m_L) (st : List Value) : Option (List Value × m_I × m_L) := match st with
  | .int n :: .int dp :: .ref d :: .int sp :: .ref s :: r =>
    if s < t ∧ d < t ∧ ¬ sp < 0 ∧ ¬ dp < 0 ∧ ¬ n < 0 ∧ sp.toNatClampNeg + n.toNatClampNeg ≤ m_ln 0 s ∧ dp.toNatClampNeg + n.toNatClampNeg ≤ m_ln 0 d ∧ (r.map fun v => v.category).sum ≤ 8 then
      (if m_ty s = 2 ∧ m_ty d = 2 then some (r, m_sc I d (va_cpy (I s) (I d) sp.toNatClampNeg dp.toNatClampNeg n.toNatClampNeg), L)
       else if m_ty s = 4 ∧ m_ty d = 4 then some (r, I, m_sc L d (va_cpy (L s) (L d) sp.toNatClampNeg dp.toNatClampNeg n.toNatClampNeg)) else none)
    else none
  | _ => none
/-- the locals that a method begins with: its arguments, a long on two places -/
def m_lay (vs : List Value) : List Value := vs.flatMap fun v => if v.category = 2 then [v, m_u] else [v]
def m_loc (m : Nat) (vs : List Value) : List Value := m_lay vs ++ List.replicate (m_ml m - (m_lay vs).length) m_u
/-- an answer that fits the method -/
def m_rto (m : Nat) (v : Option Value) : Bool := match m_rt m, v with
  | none, none => true
  | some .int, some (.int _) => true
  | some .boolean, some (.int x) => decide (x = 0 ∨ x = 1)
  | some .long, some (.long _) => true
  | _, _ => false
abbrev m_N : Type := Option ((Option Value × m_X) ⊕ (m_S ⊕ (m_S × m_S)))
def m_ret (m : Nat) (v : Option Value) (X : m_X) : m_N := if m_rto m v = true then some (.inl (v, X)) else none
def m_go (S : m_S) : m_N := some (.inr (.inl S))
def m_cls (m : Nat) (ls : List Value) (X : m_X) (a b : Nat) (st : List Value) (n : Nat) : m_N :=
  let As := (st.take b).reverse
  let r := st.drop b
  if a < 199 ∧ b ≤ st.length ∧ (r.map fun v => v.category).sum ≤ 8 ∧ (m_lay As).length ≤ m_ml a then some (.inr (.inr ((a, 0, m_loc a As, [], X), (m, n + 1, ls, r, X)))) else none
/-- one row -/
def m_nx (V : m_V) (S : m_S) : m_N := match S with
  | (m, n, ls, st, t, I, L, R) => match (m_tb m)[n]? with
    | none => none
    | some (_, ins, _, a, b, l) => match ins with
      | .return_ => match st with
        | [] => m_ret m none (t, I, L, R)
        | _ => none
      | .ireturn => match st with
        | [.int v] => m_ret m (some (.int v)) (t, I, L, R)
        | _ => none
      | .lreturn => match st with
        | [.long v] => m_ret m (some (.long v)) (t, I, L, R)
        | _ => none
      | .invokestatic _ => if a = 1000 then (match m_cp t I L st with
          | some (r, I', L') => m_go (m, n + 1, ls, r, t, I', L', R)
          | none => none) else if a = 1002 then (match st with
          | .int y :: .int x :: r => if (r.map fun v => v.category).sum ≤ 8 then m_go (m, n + 1, ls, .int (if y < x then y else x) :: r, t, I, L, R) else none
          | _ => none) else m_cls m ls (t, I, L, R) a b st n
      | .invokevirtual _ => match st[b]? with
        | some (.ref k) => if k < t ∧ m_ty k = 1 ∧ m_ln 0 k = m_ow a then m_cls m ls (t, I, L, R) a (b + 1) st n else none
        | _ => none
      | .invokespecial _ => if a = 1001 then (match st with
          | .ref _ :: r => if (r.map fun v => v.category).sum ≤ 8 then m_go (m, n + 1, ls, r, t, I, L, R) else none
          | _ => none) else match st[b]? with
          | some (.ref k) => if k < t then m_cls m ls (t, I, L, R) a (b + 1) st n else none
          | _ => none
      | .tableswitch _ lo hi _ => match st with
        | .int x :: r => if x.toInt < lo ∨ hi < x.toInt then m_go (m, a, ls, r, t, I, L, R) else (match l[(x.toInt - lo).toNat]? with
          | some j => m_go (m, j, ls, r, t, I, L, R)
          | none => none)
        | _ => none
      | _ => match m_alu ins a st with
        | some r => m_go (m, n + 1, ls, r, t, I, L, R)
        | none => match m_lcl ins ls st with
          | some (l2, r) => m_go (m, n + 1, l2, r, t, I, L, R)
          | none => match m_br ins st with
            | some (c, r) => m_go (m, if c then a else n + 1, ls, r, t, I, L, R)
            | none => match m_mem V ins a b st t I L R with
              | some (r, X) => m_go (m, n + 1, ls, r, X)
              | none => none
/-- rows, at most f deep: the answer and the memory behind it -/
def m_ex (V : m_V) : Nat → m_S → Option (Option Value × m_X)
  | 0, _ => none
  | f + 1, S => match m_nx V S with
    | none => none
    | some (.inl r) => some r
    | some (.inr (.inl S2)) => m_ex V f S2
    | some (.inr (.inr (S0, K))) => match m_ex V f S0 with
      | none => none
      | some (v, X) => m_ex V f (K.1, K.2.1, K.2.2.1, v.toList ++ K.2.2.2.1, X)
theorem m_ex_mono {V : m_V} : ∀ (f : Nat) (S : m_S) (r : Option Value × m_X), m_ex V f S = some r → m_ex V (f + 1) S = some r := by
  intro f
  induction f with
  | zero => intro S r h; simp [m_ex] at h
  | succ f ih =>
    intro S r h
    rw [m_ex] at h ⊢
    cases hn : m_nx V S with
    | none => rw [hn] at h; simp at h
    | some o =>
      rw [hn] at h
      match o, h with
      | .inl q, h => exact h
      | .inr (.inl S2), h => exact ih S2 r h
      | .inr (.inr (S0, K)), h =>
        dsimp only at h ⊢
        cases h0 : m_ex V f S0 with
        | none => rw [h0] at h; simp at h
        | some q =>
          rw [h0] at h
          rw [ih S0 q h0]
          exact ih _ r h
theorem m_ex_le {V : m_V} {f g : Nat} {S : m_S} {r : Option Value × m_X} (h : m_ex V f S = some r) (hg : f ≤ g) : m_ex V g S = some r := by
  induction hg with
  | refl => exact h
  | step _ ih => exact m_ex_mono _ _ _ ih
/-- it comes to an end at which Q holds -/
def WP (V : m_V) (m n : Nat) (ls st : List Value) (t : Nat) (I : m_I) (L : m_L) (R : m_R) (Q : Option Value → Nat → m_I → m_L → m_R → Prop) : Prop :=
  ∃ (f : Nat) (v : Option Value) (X : m_X), m_ex V f (m, n, ls, st, t, I, L, R) = some (v, X) ∧ Q v X.1 X.2.1 X.2.2.1 X.2.2.2
/-- a call, and what goes on behind it -/
def WPC (V : m_V) (a : Nat) (As : List Value) (m n : Nat) (ls st : List Value) (t : Nat) (I : m_I) (L : m_L) (R : m_R) (Q : Option Value → Nat → m_I → m_L → m_R → Prop) : Prop :=
  WP V a 0 (m_loc a As) [] t I L R (fun v t' I' L' R' => WP V m n ls (v.toList ++ st) t' I' L' R' Q)
section MWP
variable {V : m_V} {m n : Nat} {ls st : List Value} {t : Nat} {I : m_I} {L : m_L} {R : m_R} {Q : Option Value → Nat → m_I → m_L → m_R → Prop}
theorem wp_go {n' : Nat} {ls' st' : List Value} {t' : Nat} {I' : m_I} {L' : m_L} {R' : m_R} (h : m_nx V (m, n, ls, st, t, I, L, R) = some (.inr (.inl (m, n', ls', st', t', I', L', R')))) :
    WP V m n ls st t I L R Q = WP V m n' ls' st' t' I' L' R' Q := by
  apply propext
  constructor
  · rintro ⟨f, v, X, hf, hq⟩
    cases f with
    | zero => simp [m_ex] at hf
    | succ f =>
      rw [m_ex, h] at hf
      exact ⟨f, v, X, hf, hq⟩
  · rintro ⟨f, v, X, hf, hq⟩
    exact ⟨f + 1, v, X, by rw [m_ex, h]; exact hf, hq⟩
theorem wp_ret {v : Option Value} (h : m_nx V (m, n, ls, st, t, I, L, R) = some (.inl (v, t, I, L, R))) : WP V m n ls st t I L R Q = Q v t I L R := by
  apply propext
  constructor
  · rintro ⟨f, w, X, hf, hq⟩
    cases f with
    | zero => simp [m_ex] at hf
    | succ f =>
      rw [m_ex, h] at hf
      obtain ⟨rfl, rfl⟩ := Prod.mk.inj (Option.some.inj hf)
      exact hq
  · intro hq
    exact ⟨1, v, (t, I, L, R), by rw [m_ex, h], hq⟩
theorem wp_call {a : Nat} {As st' : List Value} (h : m_nx V (m, n, ls, st, t, I, L, R) = some (.inr (.inr ((a, 0, m_loc a As, [], t, I, L, R), (m, n + 1, ls, st', t, I, L, R))))) :
    WP V m n ls st t I L R Q = WPC V a As m (n + 1) ls st' t I L R Q := by
  apply propext
  constructor
  · rintro ⟨f, w, X, hf, hq⟩
    cases f with
    | zero => simp [m_ex] at hf
    | succ f =>
      rw [m_ex, h] at hf
      dsimp only at hf
      cases h0 : m_ex V f (a, 0, m_loc a As, [], t, I, L, R) with
      | none => rw [h0] at hf; simp at hf
      | some q =>
        rw [h0] at hf
        exact ⟨f, q.1, q.2, h0, f, w, X, hf, hq⟩
  · rintro ⟨f, v, X1, h0, g, w, X, hf, hq⟩
    refine ⟨max f g + 1, w, X, ?_, hq⟩
    rw [m_ex, h]
    dsimp only
    rw [m_ex_le h0 (Nat.le_max_left f g)]
    exact m_ex_le hf (Nat.le_max_right f g)
theorem wp_mono {Q' : Option Value → Nat → m_I → m_L → m_R → Prop} (h : WP V m n ls st t I L R Q) (hQ : ∀ v t I L R, Q v t I L R → Q' v t I L R) : WP V m n ls st t I L R Q' := by
  obtain ⟨f, v, X, hf, hq⟩ := h
  exact ⟨f, v, X, hf, hQ _ _ _ _ _ hq⟩
/-- a method that is known, at a call -/
theorem wpc_of {a : Nat} {As : List Value} {v : Option Value} {t' : Nat} {I' : m_I} {L' : m_L} {R' : m_R} (h : ∀ Q, WP V a 0 (m_loc a As) [] t I L R Q = Q v t' I' L' R') : WPC V a As m n ls st t I L R Q = WP V m n ls (v.toList ++ st) t' I' L' R' Q := h _
end MWP
