/-! calls, and the small machine's soundness -/
theorem g_lay_cons (v : Value) (r : List Value) : m_lay (v :: r) = (if v.category = 2 then [v, m_u] else [v]) ++ m_lay r := by simp [m_lay]
theorem g_sl_cons (v : Value) (r : List Value) : lg_sl (v :: r) = (if v.category = 2 then [Slot.val v, .second] else [.val v]) ++ lg_sl r := by simp [lg_sl]
theorem g_lay_len (G : g_G) : ∀ vs : List Value, (lg_sl (vs.map (g_v G))).length = (m_lay vs).length
  | [] => rfl
  | v :: r => by
    rw [List.map_cons, g_sl_cons, g_lay_cons, g_v_cat, List.length_append, List.length_append, g_lay_len G r]
    split <;> rfl
theorem g_lay_at (G : g_G) : ∀ (vs : List Value) (i : Nat) (v : Value), (m_lay vs)[i]? = some v → v ≠ m_u → (lg_sl (vs.map (g_v G)))[i]? = some (.val (g_v G v))
  | [], i, v, h, _ => by simp [m_lay] at h
  | w :: r, i, v, h, hv => by
    rw [g_lay_cons] at h
    rw [List.map_cons, g_sl_cons, g_v_cat]
    by_cases hc : w.category = 2
    · rw [if_pos hc] at h ⊢
      match i, h with
      | 0, h => simp only [List.cons_append, List.getElem?_cons_zero] at h ⊢; cases h; rfl
      | 1, h => simp only [List.cons_append, List.getElem?_cons_succ, List.getElem?_cons_zero] at h; cases h; exact absurd rfl hv
      | i + 2, h =>
        simp only [List.cons_append, List.nil_append, List.getElem?_cons_succ] at h ⊢
        exact g_lay_at G r i v h hv
    · rw [if_neg hc] at h ⊢
      match i, h with
      | 0, h => simp only [List.cons_append, List.getElem?_cons_zero] at h ⊢; cases h; rfl
      | i + 1, h =>
        simp only [List.cons_append, List.nil_append, List.getElem?_cons_succ] at h ⊢
        exact g_lay_at G r i v h hv
theorem m_loc_len {a : Nat} {vs : List Value} (h : (m_lay vs).length ≤ m_ml a) : (m_loc a vs).length = m_ml a := by
  simp [m_loc]; omega
theorem g_LV_entry {G : g_G} {a : Nat} {vs : List Value} (h : (m_lay vs).length ≤ m_ml a) : g_LV G ((lg_sl (vs.map (g_v G)) ++ List.replicate (m_ml a - (lg_sl (vs.map (g_v G))).length) Slot.unset).toArray) (m_loc a vs) := by
  have he := lv_entry (vs.map (g_v G)) (n := m_ml a) (by rw [g_lay_len]; exact h)
  refine ⟨he.1.trans (m_loc_len h).symm, he.2.1, fun i v hi hv => ?_⟩
  rw [m_loc] at hi
  rw [List.getElem?_toArray]
  rcases Nat.lt_or_ge i (m_lay vs).length with z | z
  · rw [List.getElem?_append_left z] at hi
    rw [List.getElem?_append_left (by rw [g_lay_len]; exact z)]
    exact g_lay_at G vs i v hi hv
  · rw [List.getElem?_append_right z] at hi
    have := List.mem_of_getElem? hi
    exact absurd (List.eq_of_mem_replicate this) hv
theorem g_O.moved {G : g_G} {V : m_V} {u U : State} {H : Heap} (hvm : u.vm.Alike U.vm) (h : g_O G V u H) : g_O G V U H := ⟨⟨⟨h.1.1.1.moved hvm, h.1.1.2⟩, fun k h1 h2 => (h.1.2 k h1 h2).moved hvm⟩, fun k h1 h2 => (h.2 k h1 h2).moved hvm⟩
theorem g_O.kept {G : g_G} {V : m_V} {U : State} {H H1 : Heap} (h : g_O G V U H) (hq : ∀ q : Nat, q < H.size → ¬ g_A G q → H1[q]? = H[q]?) : g_O G V U H1 := by
  obtain ⟨⟨⟨hX, hlt⟩, hT⟩, hZ⟩ := h
  have hb0 : g_ad G 1003 < H.size := by
    obtain ⟨scr, g1, -⟩ := hX
    exact (Array.getElem?_eq_some_iff.mp g1).1
  exact ⟨⟨⟨hX.kept (hq _ hb0 (Nat.not_le.mpr hlt)), hlt⟩, fun k h1 h2 => (hT k h1 h2).kept hq⟩, fun k h1 h2 => (hZ k h1 h2).kept hq⟩
theorem m_nests_all {P : Cond → Prop} (h : ∀ (a : String) (i : Nat) (x : MethodName) (b : String), Jvm.Cond.methodLinkNest a i x b ∈ m_nests → P (.methodLinkNest a i x b)) : ∀ w ∈ m_nests, P w := by
  intro w hw
  have hw2 := hw
  simp only [m_nests, List.mem_cons, List.not_mem_nil, or_false] at hw2
  rcases hw2 with rfl | rfl | rfl | rfl <;> exact h _ _ _ _ hw
theorem g_K.moved {G : g_G} {s U : State} (hW : s.WarmedH U.vm) (h : g_K G s) : g_K G U := ⟨va_K.moved hW.alike h.1, m_nests_all fun a i x b hm => va_Nw.warmM hW (h.2 _ hm)⟩
theorem g_K.calling {G : g_G} {U U2 : State} (hv : U.vm = U2.vm) (h : g_K G U) : g_K G U2 := ⟨va_K.moved (by rw [hv]; exact Vm.Alike.refl _) h.1, m_nests_all fun a i x b hm => va_Nw.same rfl hv (h.2 _ hm)⟩
def g_P0 (G : g_G) (V : m_V) (X : m_X) (U : State) : Prop := g_Wd G X U.heap ∧ g_K G U ∧ g_O G V U U.heap
def g_Pc (G : g_G) (V : m_V) (As : List Value) (X : m_X) : Array Value → State → Prop := va_Pc (As.map (g_v G)) (g_P0 G V X)
def g_Qc (G : g_G) (X1 : m_X) (v : Option Value) : Array Value → State → Outcome → State → Prop := fun _ st oc u => oc = .returned (v.map (g_v G)) ∧ g_Wd G X1 u.heap ∧ va_F (g_A G) st u
theorem g_blind {G : g_G} {V : m_V} {As : List Value} {X : m_X} : FrameBlind (g_Pc G V As X) := fun a U g mk q => ⟨q.1, q.2.1, g_K.calling (U := U) (U2 := U.calling g mk a) rfl q.2.2.1, g_O.moved (u := U) (U := U.calling g mk a) (Vm.Alike.refl U.vm) q.2.2.2⟩
def g_rm (a : Nat) (X X1 : m_X) : Room := { frames := m_fr a, cells := X1.1 - X.1, slots := m_sl X1.1 - m_sl X.1, locals := m_lo a }
def g_wm (a : Nat) : List Cond := .code (m_y a) (m_b a) (m_ml a) (m_rt a) :: m_g
/-- what the tables' checks say of a method -/
def m_okm (a : Nat) : Prop := m_ckt a (m_tb a) (m_tb a) = true ∧ m_ok (m_b a) (m_tb a) ∧ m_pc a 0 = 0
def m_okc (a : Nat) : Prop := m_okm a ∧ m_ckm a = true ∧ Jvm.Cond.code (m_y a) (m_b a) (m_ml a) (m_rt a) ∈ m_g
section GCL
variable {p : Program} {l : Launch} {e : Env} {R : Room} {s : State} {m : MethodId} {args : Array Value} {below : List Frame} {meth : Method} {c : Code} {H : Heap} {locs : List Loc} {cells slots : Nat} {Q : State → Prop}
variable {LS : Array Slot} {G : g_G} {V : m_V} {mm : Nat}
theorem g_callW {mc ms pc : Nat} {st rest : List Value} {v0 : Option Value} {X1 : m_X} {aa : Array Value} (hr : va_Run p l e R s m args below meth c H locs cells slots mc ms (F0 m pc LS st) rest (g_Qc G X1 v0 aa) (g_A G)) (hS : va_S (g_A G) s.heap H locs)
    (kk : ∀ (H1 : Heap) (locs1 : List Loc), g_Wd G X1 H1 → va_S (g_A G) s.heap H1 locs1 → W p l e R s m args below meth c H1 locs1 (cells + mc) (slots + ms) Q (F0 m (pc + 3) LS (v0.toList.map (g_v G) ++ rest))) :
    W p l e R s m args below meth c H locs cells slots Q (F0 m pc LS st) := by
  intro T hT X
  obtain ⟨v, st₀, t, T', L, h0, X', hL, e1, e2, ⟨hv, hW1, hz, hk⟩, hst⟩ := hr T hT X
  have hv2 : v = v0.map (g_v G) := Outcome.returned.inj hv
  subst hv2
  rw [h0] at hz hk
  obtain ⟨t2, a1, b1⟩ := kk T'.heap (locs ++ L) (by rw [e1]; exact hW1) ⟨Nat.le_trans hS.1 (by rw [e1]; exact hz), fun q h1 h2 => by rw [e1, hk q (Nat.lt_of_lt_of_le h1 hS.1) h2]; exact hS.2.1 q h1 h2, fun q hq => by
    rcases List.mem_append.mp hq with h | h
    · exact hS.2.2 q h
    · exact hL q h⟩ T' rfl X'
  refine ⟨t2, hst t2 ?_, b1⟩
  cases v0 <;> exact a1
/-- what is known at the end of a frame's rows -/
def g_end (v : Option Value) (ins : ClassFile.Instr) : Prop := match v with
  | none => ins = .return_
  | some (.int _) => ins = .ireturn
  | some (.long _) => ins = .lreturn
  | _ => False
def g_Snd (l : Launch) (G : g_G) (V : m_V) (f : Nat) : Prop := ∀ (mm n : Nat) (ls st : List Value) (X : m_X) (v : Option Value) (X1 : m_X), m_ex V f (mm, n, ls, st, X) = some (v, X1) → m_okm mm →
  ∀ (p : Program) (e : Env) (R : Room) (s : State) (m : MethodId) (args : Array Value) (below : List Frame) (meth : Method) (c : Code), g_Fr p R s m args meth c G V mm →
  ∀ (H : Heap) (locs : List Loc) (cells slots : Nat) (Q : State → Prop) (LS : Array Slot), g_Wd G X H → va_S (g_A G) s.heap H locs → g_LV G LS ls → ls.length = m_ml mm → cells + (X1.1 - X.1) ≤ R.cells → slots + (m_sl X1.1 - m_sl X.1) ≤ R.slots →
  (∀ (H1 : Heap) (locs1 : List Loc) (n' : Nat) (e' : m_E) (LS1 : Array Slot), g_Wd G X1 H1 → va_S (g_A G) s.heap H1 locs1 → (m_tb mm)[n']? = some e' → decode (m_b mm) e'.1 = .ok (e'.2.1, 1) → g_end v e'.2.1 → m_rto mm v = true → W p l e R s m args below meth c H1 locs1 (cells + (X1.1 - X.1)) (slots + (m_sl X1.1 - m_sl X.1)) Q (F0 m e'.1 LS1 (v.toList.map (g_v G)))) →
  W p l e R s m args below meth c H locs cells slots Q (F0 m (m_pc mm n) LS (st.map (g_v G)))
theorem g_met {f a : Nat} {As : List Value} {X X1 : m_X} {v : Option Value} (hE : g_Snd l G V f) (hck : m_okc a) (hA : (m_lay As).length ≤ m_ml a) (h : m_ex V f (a, 0, m_loc a As, [], X) = some (v, X1)) :
    Met l (m_y a) (g_wm a) (g_rm a X X1) (g_Pc G V As X) (g_Qc G X1 v) (X1.1 - X.1) (m_sl X1.1 - m_sl X.1) (g_A G) := by
  obtain ⟨hok, hm, hcode⟩ := hck
  simp only [m_ckm, Bool.and_eq_true, decide_eq_true_eq] at hm
  obtain ⟨⟨⟨⟨⟨⟨hw1, hw2⟩, hw3⟩, hne⟩, hpl⟩, hinit⟩, hown0⟩ := hm
  refine Met.ofW (cc := m_b a) (maxL := m_ml a) (ret := m_rt a) hpl rfl ?_
  intro p e s m args below meth c s₁ B hml hv
  obtain ⟨rfl, hW, hK, hO⟩ := hv
  have hx := B.exec
  have hb := B.bytes
  have hr := B.returns
  have hlocks := B.notSynchronized
  have hts0 := atoms_spec (ws := g_wm a) B.pre
  have hts : ∀ w ∈ m_g, w.before ((As.map (g_v G)).toArray) s = true := fun w hw => hts0 w (List.mem_cons_of_mem _ hw)
  have hown : s.vm.findClass (m_own a) = some m.cls := by rw [hown0]; exact findClass_of_methodNamed B.named
  have hin : meth.name = (m_y a).name := (name_of_methodNamed B.named B.method).1
  rw [lg_entry_eq]
  have hl := g_LV_entry (G := G) hA
  generalize (lg_sl (As.map (g_v G)) ++ List.replicate (m_ml a - (lg_sl (As.map (g_v G))).length) Slot.unset).toArray = LS at hl ⊢
  have hFr : g_Fr p (headSpec (g_wm a) (g_rm a X X1)).room s m ((As.map (g_v G)).toArray) meth c G V a := ⟨hx, hb, hml, hr, hown, hts, fun z => by rw [hin]; exact (hinit.resolve_left (fun q => q z)).1, Nat.le_refl _, Nat.le_refl _, hK, hO⟩
  have go := hE a 0 (m_loc a As) [] X v X1 h hok p e (headSpec (g_wm a) (g_rm a X X1)).room s m ((As.map (g_v G)).toArray) below meth c hFr s.heap [] 0 0 (MQ below (g_Qc G X1 v) ((As.map (g_v G)).toArray) s (X1.1 - X.1) (m_sl X1.1 - m_sl X.1) (g_A G)) LS hW va_S.rf hl (m_loc_len hA) (by rw [Nat.zero_add]; exact Nat.le_refl _) (by rw [Nat.zero_add]; exact Nat.le_refl _)
  rw [hok.2.2] at go
  refine go fun H1 locs1 n' e' LS1 hW1 hS1 he' hd' hend hto => ?_
  rw [Nat.zero_add, Nat.zero_add]
  have hq : ∀ (t : State) (w : Option Value), t.heap = H1 → w = v.map (g_v G) → g_Qc G X1 v ((As.map (g_v G)).toArray) s (.returned w) t := fun t w ht hw => ⟨by rw [hw], by rw [ht]; exact hW1, hS1.F ht⟩
  match v, hend, hto with
  | none, hend, hto =>
    have hrt : m_rt a = none := by
      unfold m_rto at hto
      split at hto <;> simp_all
    have hend : e'.2.1 = .return_ := hend
    rw [hend] at hd'
    exact W.vret hx hb (by rw [hr, hrt]) (fun t ht _ => hq t none ht rfl) hS1.2.2 hd'
  | some (.int x), hend, hto =>
    have hend : e'.2.1 = .ireturn := hend
    rw [hend] at hd'
    unfold m_rto at hto
    split at hto
    · rename_i hq1 hq2; cases hq2
    · rename_i z hq1 hq2
      exact W.iret hx hb (by rw [hr, hq1]) (fun t ht _ => hq t _ ht rfl) hS1.2.2 hd'
    · rename_i z hq1 hq2
      cases hq2
      have hn : narrow .boolean (.int x) = .int x := by
        have hto := of_decide_eq_true hto
        rcases hto with rfl | rfl <;> rfl
      exact W.zret (ty := .boolean) hx hb (by rw [hr, hq1]) hn (fun t ht _ => hq t _ ht rfl) hS1.2.2 hd'
    · rename_i z hq1 hq2; cases hq2
    · cases hto
  | some (.long x), hend, hto =>
    have hend : e'.2.1 = .lreturn := hend
    rw [hend] at hd'
    have hrt : m_rt a = some .long := by
      unfold m_rto at hto
      split at hto <;> simp_all
    exact W.lret hx hb (by rw [hr, hrt]) (fun t ht _ => hq t _ ht rfl) hS1.2.2 hd'
theorem m_cn_at : ∀ a, a < 9 → m_cn.getD a "" = m_CR a := lt_s (lt_s (lt_s (lt_s (lt_s (lt_s (lt_s (lt_s (lt_s lt_0 rfl) rfl) rfl) rfl) rfl) rfl) rfl) rfl) rfl
/-- a call of a method of ours, whatever the instruction -/
theorem s_call {f a b n pc len : Nat} {ins : ClassFile.Instr} {lk : List Nat} {st : List Value} {X X1 : m_X} {v : Option Value} {ls : List Value} {k0 : Nat} (hE : g_Snd l G V f) (hck : m_okc a) (hF : g_Fr p R s m args meth c G V mm) (hsz : LS.size = m_ml mm)
    (hi : (∃ i, ins = .invokevirtual i) ∧ k0 = b + 1 ∨ (∃ i, ins = .invokestatic i) ∧ b = k0 ∨ (∃ i, ins = .invokespecial i) ∧ k0 = b + 1) (ha0 : a ≠ 1000 ∧ a ≠ 1001 ∧ a ≠ 1002 ∧ a ≠ 500) (hd : decode (m_b mm) pc = .ok (ins, 3)) (hckl : m_ckl mm (m_tb mm) (pc, ins, len, a, b, lk) = true)
    (hW : g_Wd G X H) (hS : va_S (g_A G) s.heap H locs) (hb0 : k0 ≤ st.length) (hrecv : k0 = b + 1 → ∃ k, st[b]? = some (.ref k) ∧ k < X.1 ∧ ((∃ i, ins = .invokevirtual i) → m_ty k = 1 ∧ m_ln 0 k = m_ow a)) (hsum : ((st.drop k0).map fun v => v.category).sum ≤ 8) (hA : (m_lay (st.take k0).reverse).length ≤ m_ml a)
    (h : m_ex V f (a, 0, m_loc a (st.take k0).reverse, [], X) = some (v, X1)) (hc : cells + (X1.1 - X.1) ≤ R.cells) (hs : slots + (m_sl X1.1 - m_sl X.1) ≤ R.slots)
    (kk : ∀ (H1 : Heap) (locs1 : List Loc), g_Wd G X1 H1 → va_S (g_A G) s.heap H1 locs1 → W p l e R s m args below meth c H1 locs1 (cells + (X1.1 - X.1)) (slots + (m_sl X1.1 - m_sl X.1)) Q (F0 m (pc + 3) LS ((v.toList ++ st.drop k0).map (g_v G)))) :
    W p l e R s m args below meth c H locs cells slots Q (F0 m pc LS (st.map (g_v G))) := by
  have hM := g_met hE hck hA h
  obtain ⟨hx, hb, hml, hr, hown, hts, hin, hfr, hlo, hK, hO⟩ := hF
  obtain ⟨hok, hm, hcode⟩ := hck
  simp only [m_ckm, Bool.and_eq_true, Bool.or_eq_true, decide_eq_true_eq] at hm
  obtain ⟨⟨⟨⟨⟨⟨hw1, hw2⟩, hw3⟩, hne⟩, hpl⟩, hinit⟩, hown0⟩ := hm
  have hwm : ∀ w ∈ g_wm a, w ∈ m_g := fun w hw => by
    rcases List.mem_cons.mp hw with rfl | hw
    · exact hcode
    · exact hw
  have hini : Jvm.Cond.initialized (m_y a).cls ∈ m_g := m_wd_in hw3
  have hFix : CallFix p m c (m_b mm) (m_ml mm) s args m_g (m_own mm) := ⟨hx, hb, hml, hown, hts⟩
  have hpre : ∀ U : State, U.heap = H → s.WarmedH U.vm → g_Pc G V (st.take k0).reverse X ((st.take k0).reverse.map (g_v G)).toArray U := fun U hU hWm => ⟨rfl, by rw [hU]; exact hW, hK.moved hWm, by rw [hU]; exact (hO.moved hWm.alike).kept hS.2.1⟩
  have hsum2 : 2 * (F0 m pc LS (st.map (g_v G))).monitorRoom + (((st.drop k0).map (g_v G)).map fun v => v.category).sum ≤ 8 := by
    rw [g_v_sum]
    show 2 * 0 + _ ≤ 8
    omega
  have kk2 : ∀ (H1 : Heap) (locs1 : List Loc), g_Wd G X1 H1 → va_S (g_A G) s.heap H1 locs1 → W p l e R s m args below meth c H1 locs1 (cells + (X1.1 - X.1)) (slots + (m_sl X1.1 - m_sl X.1)) Q (F0 m (pc + 3) LS (v.toList.map (g_v G) ++ (st.drop k0).map (g_v G))) := fun H1 locs1 g1 g2 => by
    rw [← List.map_append]
    exact kk H1 locs1 g1 g2
  have hsplit : st.map (g_v G) = (((st.take k0).reverse).map (g_v G)).reverse ++ (st.drop k0).map (g_v G) := by
    rw [← List.map_reverse, List.reverse_reverse, ← List.map_append, List.take_append_drop]
  rcases hi with ⟨⟨i, rfl⟩, rfl⟩ | ⟨⟨i, rfl⟩, rfl⟩ | ⟨⟨i, rfl⟩, rfl⟩
  · -- virtual
    simp only [m_ckl, m_ckr, Bool.and_eq_true, Bool.or_eq_true, decide_eq_true_eq] at hckl
    obtain ⟨⟨⟨h198, hmin, hfr2, hlo2, hpar⟩, hkd⟩, hlink⟩ := hckl.resolve_left ha0.2.2.2
    obtain ⟨k, hk, hkt, hcls⟩ := hrecv rfl
    obtain ⟨hty, hln⟩ := hcls ⟨i, rfl⟩
    have hrev : (st.take (b + 1)).reverse = .ref k :: (st.take b).reverse := by
      rw [List.take_add_one, hk]; simp
    have he := g_ws_at (G := G) (X := X) hkt
    rw [g_e1 hty] at he
    have h9 : m_ow a < 9 := by rw [← hln]; exact m_ln_lt (Nat.lt_of_lt_of_le hkt hW.2.1) hty
    have hCR : m_CR (m_ow a) = (m_y a).cls := by rw [← m_cn_at _ h9]; exact hown0
    have hw1' : Jvm.Cond.instanceMethod (m_y a) ∈ m_g := by have := m_wd_in hw1; rwa [if_neg (by rw [hkd]; decide)] at this
    have hw2' : Jvm.Cond.selects (m_y a).cls (m_y a) (m_y a) ∈ m_g := m_wd_in (by
      rcases hw2 with z | z
      · exact absurd hkd z
      · exact z)
    refine g_callW (va_runV (C := (m_y a).cls) (n := b) (As := ((st.take b).reverse).map (g_v G)) (b := g_ad G k) hFix hM (cwV b hts (m_g_good (fun w hw => ?_)) rfl rfl rfl ⟨rfl, hne.1, hne.2, hpar⟩ ⟨Nat.le_trans hfr2 hfr, Nat.le_trans hlo2 hlo⟩) ⟨g_blind, ?_, fun U hU hWm => ?_⟩ rfl ?_ hsz (rest := (st.drop (b + 1)).map (g_v G)) ?_ hsum2 hd ⟨hc, hs⟩) hS kk2
    · rcases List.mem_append.mp hw with hw | hw
      · simp only [List.mem_cons, List.not_mem_nil, or_false] at hw
        rcases hw with rfl | rfl | rfl | rfl
        · exact m_wd_in hlink
        · exact hw1'
        · exact hw2'
        · exact hini
      · exact hwm w hw
    · have := va_recv hK.1 hW.2.2 (m_cl_at _ h9) (q0 := k) (by rw [hln] at he; exact he)
      dsimp only at this
      rw [hCR] at this
      exact this
    · have := hpre U hU hWm
      rw [hrev] at this ⊢
      exact this
    · simp; omega
    · show st.map (g_v G) = _
      rw [hsplit, hrev]
      simp [g_v]
  · -- static
    by_cases hc0 : a = 1000
    · exact absurd hc0 ha0.1
    simp only [m_ckl] at hckl
    rw [if_neg hc0, if_neg ha0.2.2.1] at hckl
    simp only [m_ckr, Bool.and_eq_true, decide_eq_true_eq] at hckl
    obtain ⟨⟨⟨h198, hmin, hfr2, hlo2, hpar⟩, hkd⟩, hlink⟩ := hckl
    have hw1' : Jvm.Cond.static (m_y a) ∈ m_g := by have := m_wd_in hw1; rwa [if_pos hkd] at this
    have hlen : (((st.take b).reverse).map (g_v G)).length = b := by simp; omega
    by_cases hnest : lk.getD 1 0 = 0
    · rw [if_pos hnest] at hlink
      refine g_callW (va_runS (n := b) (As := ((st.take b).reverse).map (g_v G)) hFix hM (va_cwS b hts (m_g_good (fun w hw => ?_)) rfl rfl rfl ⟨hne.1, hne.2, hpar⟩ ⟨Nat.le_trans hfr2 hfr, Nat.le_trans hlo2 hlo⟩) ⟨g_blind, fun U hU hWm => hpre U hU hWm⟩ rfl hlen hsz (rest := (st.drop b).map (g_v G)) hsplit hsum2 hd ⟨hc, hs⟩) hS kk2
      rcases List.mem_append.mp hw with hw | hw
      · simp only [List.mem_cons, List.not_mem_nil, or_false] at hw
        rcases hw with rfl | rfl | rfl
        · exact m_wd_in hlink
        · exact hw1'
        · exact hini
      · exact hwm w hw
    · rw [if_neg hnest] at hlink
      exact g_callW (va_runSN (n := b) (As := ((st.take b).reverse).map (g_v G)) hFix hM ⟨va_cnB b hts (m_g_good hwm) rfl rfl rfl (hK.2 _ (of_decide_eq_true hlink)) (hts _ hini) ⟨hne.1, hne.2, hpar⟩ ⟨Nat.le_trans hfr2 hfr, Nat.le_trans hlo2 hlo⟩, hts _ hw1', trivial⟩ ⟨g_blind, fun U hU hWm => hpre U hU hWm⟩ rfl hlen hsz (rest := (st.drop b).map (g_v G)) hsplit hsum2 hd ⟨hc, hs⟩) hS kk2
  · -- a constructor
    simp only [m_ckl] at hckl
    rw [if_neg ha0.2.1] at hckl
    simp only [m_ckr, Bool.and_eq_true, Bool.or_eq_true, decide_eq_true_eq] at hckl
    obtain ⟨⟨⟨h198, hmin, hfr2, hlo2, hpar⟩, hkd⟩, hlink⟩ := hckl.resolve_left ha0.2.2.2
    obtain ⟨k, hk, hkt, -⟩ := hrecv rfl
    have hrev : (st.take (b + 1)).reverse = .ref k :: (st.take b).reverse := by
      rw [List.take_add_one, hk]; simp
    have hw1' : Jvm.Cond.instanceMethod (m_y a) ∈ m_g := by have := m_wd_in hw1; rwa [if_neg (by rw [hkd]; decide)] at this
    obtain ⟨hnm, hrt⟩ := hinit.resolve_left (fun q => q hkd)
    have hlen : (((st.take b).reverse).map (g_v G)).length = b := by simp; omega
    have hstk : (F0 m pc LS (st.map (g_v G))).stack = (((st.take b).reverse).map (g_v G)).reverse ++ .ref (g_ad G k) :: (st.drop (b + 1)).map (g_v G) := by
      show st.map (g_v G) = _
      rw [hsplit, hrev]
      simp [g_v]
    have hpre2 : ∀ U : State, U.heap = H → s.WarmedH U.vm → g_Pc G V (st.take (b + 1)).reverse X (Value.ref (g_ad G k) :: ((st.take b).reverse).map (g_v G)).toArray U := fun U hU hWm => by
      have := hpre U hU hWm
      rw [hrev] at this ⊢
      exact this
    have hwme : g_wm a = Jvm.Cond.code (m_y a) (m_b a) (m_ml a) none :: m_g := by rw [g_wm, hrt]
    by_cases hnest : lk.getD 1 0 = 0
    · rw [if_pos hnest] at hlink
      exact g_callW (va_runI (n := b) (As := ((st.take b).reverse).map (g_v G)) (b := g_ad G k) hFix hM (cwI b hts (m_g_good hwm) hwme rfl rfl (hts _ hini) (hts _ (m_wd_in hlink)) (hts _ hw1') hnm ⟨hne.1, hne.2, hpar⟩ ⟨Nat.le_trans hfr2 hfr, Nat.le_trans hlo2 hlo⟩) ⟨g_blind, hpre2⟩ rfl hlen hsz (rest := (st.drop (b + 1)).map (g_v G)) hstk hsum2 hd ⟨hc, hs⟩) hS kk2
    · rw [if_neg hnest] at hlink
      exact g_callW (va_runIN (n := b) (As := ((st.take b).reverse).map (g_v G)) (b := g_ad G k) hFix hM ⟨va_cnB b hts (m_g_good hwm) hwme rfl rfl (hK.2 _ (of_decide_eq_true hlink)) (hts _ hini) ⟨hne.1, hne.2, hpar⟩ ⟨Nat.le_trans hfr2 hfr, Nat.le_trans hlo2 hlo⟩, hnm, hts _ hw1'⟩ ⟨g_blind, hpre2⟩ rfl hlen hsz (rest := (st.drop (b + 1)).map (g_v G)) hstk hsum2 hd ⟨hc, hs⟩) hS kk2
end GCL
