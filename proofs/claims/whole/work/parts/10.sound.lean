/-! THE SMALL MACHINE IS SOUND: each of its rows is a row of the kit -/
/-- where the cells stand: the first one's address; the addresses of the cells from 1000 on; the classes; the arrays' classes by kind -/
abbrev g_G : Type := Nat × (Nat → Nat) × va_G × (Nat → ClassId)
def g_ad (G : g_G) (k : Nat) : Nat := if k < 1000 then G.1 + k else G.2.1 k
def g_v (G : g_G) (v : Value) : Value := match v with
  | .ref k => .ref (g_ad G k)
  | v => v
theorem g_v_cat (G : g_G) (v : Value) : (g_v G v).category = v.category := by cases v <;> rfl
theorem g_v_sum (G : g_G) (st : List Value) : ((st.map (g_v G)).map fun v => v.category).sum = (st.map fun v => v.category).sum := by
  rw [List.map_map]
  congr 1
  exact List.map_congr_left fun v _ => g_v_cat G v
def m_off (ins : ClassFile.Instr) : Int := match ins with
  | .ifCond _ o => o
  | .if_icmp _ o => o
  | .goto o => o
  | .ifnull o => o
  | .ifnonnull o => o
  | _ => 0
def g_LV (G : g_G) (LS : Array Slot) (ls : List Value) : Prop := LS.size = ls.length ∧ lv_wf LS ∧ ∀ (i : Nat) (v : Value), ls[i]? = some v → v ≠ m_u → LS[i]? = some (.val (g_v G v))
def g_prs (G : g_G) (ls : List Value) : List (Nat × Value) := (List.range ls.length).filterMap fun i => if ls.getD i m_u = m_u then none else some (i, g_v G (ls.getD i m_u))
theorem g_prs_mem {G : g_G} {ls : List Value} {i : Nat} {v : Value} (h : ls[i]? = some v) (hv : v ≠ m_u) : (i, g_v G v) ∈ g_prs G ls := by
  obtain ⟨hl, he⟩ := List.getElem?_eq_some_iff.mp h
  have hg : ls.getD i m_u = v := by rw [List.getD_eq_getElem?_getD, h]; rfl
  exact List.mem_filterMap.mpr ⟨i, List.mem_range.mpr hl, by rw [hg, if_neg hv]⟩
theorem g_prs_of {G : g_G} {ls : List Value} {q : Nat × Value} (h : q ∈ g_prs G ls) : ∃ v, ls[q.1]? = some v ∧ v ≠ m_u ∧ q.2 = g_v G v := by
  obtain ⟨i, hi, he⟩ := List.mem_filterMap.mp h
  have hl := List.mem_range.mp hi
  split at he
  · cases he
  · rename_i hv
    cases he
    refine ⟨ls.getD i m_u, ?_, hv, rfl⟩
    rw [List.getD_eq_getElem?_getD, List.getElem?_eq_getElem hl]
    rfl
theorem g_LV.has {G : g_G} {LS : Array Slot} {ls : List Value} (h : g_LV G LS ls) : lv_has LS ls.length (g_prs G ls) := by
  refine ⟨h.1, h.2.1, fun q hq => ?_⟩
  obtain ⟨v, h1, h2, h3⟩ := g_prs_of hq
  rw [h3]
  exact h.2.2 _ _ h1 h2
theorem g_LV.of1 {G : g_G} {LS : Array Slot} {ls : List Value} {i : Nat} {v : Value} (h : lv_has LS ls.length ((i, g_v G v) :: (g_prs G ls).filter (fun q => !(q.1 == i) && !(q.1 + 1 == i && q.2.category == 2)))) (hc : i = 0 ∨ (ls.getD (i - 1) m_u).category = 1) : g_LV G LS (ls.set i v) := by
  refine ⟨by rw [List.length_set]; exact h.1, h.2.1, fun j w hj hw => ?_⟩
  by_cases hji : j = i
  · subst hji
    have hl : j < ls.length := by
      have := (List.getElem?_eq_some_iff.mp hj).1
      rwa [List.length_set] at this
    rw [List.getElem?_set_self hl] at hj
    cases hj
    exact h.2.2 (j, g_v G v) List.mem_cons_self
  · rw [List.getElem?_set_ne (Ne.symm hji)] at hj
    refine h.2.2 (j, g_v G w) (List.mem_cons_of_mem _ (List.mem_filter.mpr ⟨g_prs_mem hj hw, ?_⟩))
    have : ¬ (j + 1 = i ∧ (g_v G w).category = 2) := by
      rintro ⟨e, e2⟩
      rcases hc with hc | hc
      · omega
      · have hg : ls.getD (i - 1) m_u = w := by rw [show i - 1 = j by omega, List.getD_eq_getElem?_getD, hj]; rfl
        rw [hg] at hc
        rw [g_v_cat, hc] at e2
        omega
    simp only [Bool.and_eq_true, Bool.not_eq_true', beq_eq_false_iff_ne, ne_eq, Bool.and_eq_false_iff]
    exact ⟨hji, by
      by_cases z : j + 1 = i
      · exact Or.inr (fun y => this ⟨z, y⟩)
      · exact Or.inl z⟩
theorem g_LV.of2 {G : g_G} {LS : Array Slot} {ls : List Value} {i : Nat} {v : Value} (h : lv_has LS ls.length ((i, g_v G v) :: (g_prs G ls).filter (fun q => !(q.1 == i) && (!(q.1 == i + 1) && !(q.1 + 1 == i && q.2.category == 2))))) (hc : i = 0 ∨ (ls.getD (i - 1) m_u).category = 1) : g_LV G LS ((ls.set i v).set (i + 1) m_u) := by
  refine ⟨by rw [List.length_set, List.length_set]; exact h.1, h.2.1, fun j w hj hw => ?_⟩
  by_cases hji1 : j = i + 1
  · subst hji1
    have hl : i + 1 < (ls.set i v).length := by
      have := (List.getElem?_eq_some_iff.mp hj).1
      rwa [List.length_set] at this
    rw [List.getElem?_set_self hl] at hj
    cases hj
    exact absurd rfl hw
  rw [List.getElem?_set_ne (Ne.symm hji1)] at hj
  by_cases hji : j = i
  · subst hji
    have hl : j < ls.length := by
      have := (List.getElem?_eq_some_iff.mp hj).1
      rwa [List.length_set] at this
    rw [List.getElem?_set_self hl] at hj
    cases hj
    exact h.2.2 (j, g_v G v) List.mem_cons_self
  · rw [List.getElem?_set_ne (Ne.symm hji)] at hj
    refine h.2.2 (j, g_v G w) (List.mem_cons_of_mem _ (List.mem_filter.mpr ⟨g_prs_mem hj hw, ?_⟩))
    have : ¬ (j + 1 = i ∧ (g_v G w).category = 2) := by
      rintro ⟨e, e2⟩
      rcases hc with hc | hc
      · omega
      · have hg : ls.getD (i - 1) m_u = w := by rw [show i - 1 = j by omega, List.getD_eq_getElem?_getD, hj]; rfl
        rw [hg] at hc
        rw [g_v_cat, hc] at e2
        omega
    simp only [Bool.and_eq_true, Bool.not_eq_true', beq_eq_false_iff_ne, ne_eq, Bool.and_eq_false_iff]
    exact ⟨hji, hji1, by
      by_cases z : j + 1 = i
      · exact Or.inr (fun y => this ⟨z, y⟩)
      · exact Or.inl z⟩
section SND
variable {p : Program} {l : Launch} {e : Env} {R : Room} {s : State} {m : MethodId} {args : Array Value} {below : List Frame} {meth : Method} {c : Code} {H : Heap} {locs : List Loc} {cells slots : Nat} {Q : State → Prop}
variable {cc : ByteArray} {pc : Nat} {ls : Array Slot} {G : g_G} {ins : ClassFile.Instr} {a : Nat} {st st' lv lv' : List Value}
theorem s_alu (hx : p.tables.exec = Jvm.exec) (hb : c.code = cc) (hd : decode cc pc = .ok (ins, m_len ins)) {own : String} (hown : s.vm.findClass own = some m.cls)
    (h4 : ∀ i, ins = .ldc i → a < 2147483648 → (Jvm.Cond.constant own i (Int32.ofNat a)).before args s = true) (h5 : ∀ i, ins = .ldc2_w i → (Jvm.Cond.constantLong own i (Int64.ofNat a)).before args s = true)
    (h : m_alu ins a st = some st') (k : W p l e R s m args below meth c H locs cells slots Q (F0 m (pc + m_len ins) ls (st'.map (g_v G)))) :
    W p l e R s m args below meth c H locs cells slots Q (F0 m pc ls (st.map (g_v G))) := by
  unfold m_alu at h
  split at h
  · cases h; exact lv_iconst hx hb hd rfl k
  · cases h; exact lv_bipush hx hb hd rfl k
  · cases h; exact lv_sipush hx hb hd rfl k
  · cases h; exact lv_lconst hx hb hd rfl k
  · split at h
    · rename_i i ha
      cases h; exact lv_ldc hx hb hown (h4 i rfl ha) hd k
    · cases h
  · rename_i i
    cases h; exact lv_ldc2 hx hb hown (h5 i rfl) hd k
  · cases h; exact lv_null hx hb hd k
  · split at h
    · cases h; exact lv_iadd hx hb hd k
    · cases h
  · split at h
    · cases h; exact lv_isub hx hb hd k
    · cases h
  · split at h
    · cases h; exact lv_imul hx hb hd k
    · cases h
  · split at h
    · cases h; exact lv_iand hx hb hd k
    · cases h
  · split at h
    · cases h; exact lv_ior hx hb hd k
    · cases h
  · split at h
    · cases h; exact lv_ixor hx hb hd k
    · cases h
  · split at h
    · split at h
      · cases h
      · rename_i hne
        cases h; exact lv_idiv hx hb hd hne k
    · cases h
  · split at h
    · split at h
      · cases h
      · rename_i hne
        cases h; exact lv_irem hx hb hd hne k
    · cases h
  · split at h
    · cases h; exact lv_ishl hx hb hd k
    · cases h
  · split at h
    · cases h; exact lv_ishr hx hb hd k
    · cases h
  · split at h
    · cases h; exact lv_iushr hx hb hd rfl k
    · cases h
  · split at h
    · cases h; exact lv_ladd hx hb hd k
    · cases h
  · split at h
    · cases h; exact lv_lmul hx hb hd k
    · cases h
  · split at h
    · cases h; exact lv_land hx hb hd k
    · cases h
  · split at h
    · cases h; exact lv_lor hx hb hd k
    · cases h
  · split at h
    · cases h; exact lv_lshl hx hb hd rfl k
    · cases h
  · split at h
    · cases h; exact W.lcmp hx hb hd k
    · cases h
  · split at h
    · cases h; exact lv_i2l hx hb hd rfl k
    · cases h
  · split at h
    · cases h; exact lv_l2i hx hb hd rfl k
    · cases h
  · split at h
    · cases h; exact lv_i2b hx hb hd rfl k
    · cases h
  · split at h
    · cases h; exact lv_i2s hx hb hd rfl k
    · cases h
  · split at h
    · split at h
      · rename_i h1
        cases h; exact lv_dup hx hb hd (by rw [g_v_cat]; exact h1) k
      · cases h
    · cases h
  · split at h
    · split at h
      · rename_i h1
        cases h; exact lv_dup_x1 hx hb hd (by rw [g_v_cat]; exact h1.1) (by rw [g_v_cat]; exact h1.2) k
      · cases h
    · cases h
  · split at h
    · split at h
      · rename_i h1
        cases h; exact lv_dup_x2 hx hb hd (by rw [g_v_cat]; exact h1.1) (by rw [g_v_cat]; exact h1.2.1) (by rw [g_v_cat]; exact h1.2.2) k
      · cases h
    · cases h
  · split at h
    · split at h
      · rename_i h1
        cases h; exact lv_dup2_11 hx hb hd (by rw [g_v_cat]; exact h1.1) (by rw [g_v_cat]; exact h1.2) k
      · cases h
    · cases h
  · cases h
theorem m_ldi_of {x : Option Value} {r r' : List Value} (h : m_ldi x r = some r') : ∃ z, x = some (.int z) ∧ r' = .int z :: r := by
  unfold m_ldi at h
  split at h
  · cases h; exact ⟨_, rfl, rfl⟩
  · cases h
theorem m_ldl_of {x : Option Value} {r r' : List Value} (h : m_ldl x r = some r') : ∃ z, x = some (.long z) ∧ r' = .long z :: r := by
  unfold m_ldl at h
  split at h
  · cases h; exact ⟨_, rfl, rfl⟩
  · cases h
theorem m_ldr_of {x : Option Value} {r r' : List Value} (h : m_ldr x r = some r') : ∃ z, x = some (.ref z) ∧ r' = .ref z :: r := by
  unfold m_ldr at h
  split at h
  · cases h; exact ⟨_, rfl, rfl⟩
  · cases h
theorem m_st1_of {ls ls' : List Value} {i : Nat} {v : Value} (h : m_st1 ls i v = some ls') : i < ls.length ∧ (i = 0 ∨ (ls.getD (i - 1) m_u).category = 1) ∧ ls' = ls.set i v := by
  unfold m_st1 at h
  split at h
  · rename_i hc
    cases h; exact ⟨hc.1, hc.2, rfl⟩
  · cases h
theorem m_st2_of {ls ls' : List Value} {i : Nat} {v : Value} (h : m_st2 ls i v = some ls') : i + 1 < ls.length ∧ (i = 0 ∨ (ls.getD (i - 1) m_u).category = 1) ∧ ls' = (ls.set i v).set (i + 1) m_u := by
  unfold m_st2 at h
  split at h
  · rename_i hc
    cases h; exact ⟨hc.1, hc.2, rfl⟩
  · cases h
theorem m_sti_of {ls : List Value} {i : Nat} {st : List Value} {q : List Value × List Value} (h : m_sti ls i st = some q) : ∃ x r ls', st = .int x :: r ∧ m_st1 ls i (.int x) = some ls' ∧ q = (ls', r) := by
  unfold m_sti at h
  split at h
  · obtain ⟨l', h1, h2⟩ := Option.map_eq_some_iff.mp h
    exact ⟨_, _, l', rfl, h1, h2.symm⟩
  · cases h
theorem m_stl_of {ls : List Value} {i : Nat} {st : List Value} {q : List Value × List Value} (h : m_stl ls i st = some q) : ∃ x r ls', st = .long x :: r ∧ m_st2 ls i (.long x) = some ls' ∧ q = (ls', r) := by
  unfold m_stl at h
  split at h
  · obtain ⟨l', h1, h2⟩ := Option.map_eq_some_iff.mp h
    exact ⟨_, _, l', rfl, h1, h2.symm⟩
  · cases h
theorem m_str_of {ls : List Value} {i : Nat} {st : List Value} {q : List Value × List Value} (h : m_str ls i st = some q) : ∃ x r ls', st = .ref x :: r ∧ m_st1 ls i (.ref x) = some ls' ∧ q = (ls', r) := by
  unfold m_str at h
  split at h
  · obtain ⟨l', h1, h2⟩ := Option.map_eq_some_iff.mp h
    exact ⟨_, _, l', rfl, h1, h2.symm⟩
  · cases h
theorem s_lcl (hx : p.tables.exec = Jvm.exec) (hb : c.code = cc) (hd : decode cc pc = .ok (ins, m_len ins)) (hl : g_LV G ls lv)
    (h : m_lcl ins lv st = some (lv', st')) (k : ∀ ls', g_LV G ls' lv' → W p l e R s m args below meth c H locs cells slots Q (F0 m (pc + m_len ins) ls' (st'.map (g_v G)))) :
    W p l e R s m args below meth c H locs cells slots Q (F0 m pc ls (st.map (g_v G))) := by
  unfold m_lcl at h
  split at h
  · obtain ⟨r, h1, h2⟩ := Option.map_eq_some_iff.mp h
    obtain ⟨z, h3, rfl⟩ := m_ldi_of h1
    cases h2
    exact lv_iload hx hb hd (hl.2.2 _ _ h3 (fun q => by cases q)) (k ls hl)
  · obtain ⟨r, h1, h2⟩ := Option.map_eq_some_iff.mp h
    obtain ⟨z, h3, rfl⟩ := m_ldi_of h1
    cases h2
    exact lv_iload_n hx hb hd rfl (hl.2.2 _ _ h3 (fun q => by cases q)) (k ls hl)
  · obtain ⟨r, h1, h2⟩ := Option.map_eq_some_iff.mp h
    obtain ⟨z, h3, rfl⟩ := m_ldl_of h1
    cases h2
    exact lv_lload hx hb hd (hl.2.2 _ _ h3 (fun q => by cases q)) (k ls hl)
  · obtain ⟨r, h1, h2⟩ := Option.map_eq_some_iff.mp h
    obtain ⟨z, h3, rfl⟩ := m_ldl_of h1
    cases h2
    exact lv_lload_n hx hb hd rfl (hl.2.2 _ _ h3 (fun q => by cases q)) (k ls hl)
  · obtain ⟨r, h1, h2⟩ := Option.map_eq_some_iff.mp h
    obtain ⟨z, h3, rfl⟩ := m_ldr_of h1
    cases h2
    exact lv_aload hx hb hd (hl.2.2 _ _ h3 (fun q => by cases q)) (k ls hl)
  · obtain ⟨r, h1, h2⟩ := Option.map_eq_some_iff.mp h
    obtain ⟨z, h3, rfl⟩ := m_ldr_of h1
    cases h2
    exact lv_aload_n hx hb hd rfl (hl.2.2 _ _ h3 (fun q => by cases q)) (k ls hl)
  · obtain ⟨x, r, l2, rfl, h1, h2⟩ := m_sti_of h
    obtain ⟨g1, g2, rfl⟩ := m_st1_of h1
    cases h2
    exact lv_istore hx hb hd hl.has g1 rfl (fun ls' h9 => k ls' (g_LV.of1 (v := .int x) h9 g2))
  · obtain ⟨x, r, l2, rfl, h1, h2⟩ := m_sti_of h
    obtain ⟨g1, g2, rfl⟩ := m_st1_of h1
    cases h2
    exact lv_istore_n hx hb hd rfl hl.has g1 rfl (fun ls' h9 => k ls' (g_LV.of1 (v := .int x) h9 g2))
  · obtain ⟨x, r, l2, rfl, h1, h2⟩ := m_stl_of h
    obtain ⟨g1, g2, rfl⟩ := m_st2_of h1
    cases h2
    exact lv_lstore hx hb hd hl.has g1 rfl (fun ls' h9 => k ls' (g_LV.of2 (v := .long x) h9 g2))
  · obtain ⟨x, r, l2, rfl, h1, h2⟩ := m_stl_of h
    obtain ⟨g1, g2, rfl⟩ := m_st2_of h1
    cases h2
    exact lv_lstore_n hx hb hd rfl hl.has g1 rfl (fun ls' h9 => k ls' (g_LV.of2 (v := .long x) h9 g2))
  · obtain ⟨x, r, l2, rfl, h1, h2⟩ := m_str_of h
    obtain ⟨g1, g2, rfl⟩ := m_st1_of h1
    cases h2
    exact lv_astore hx hb hd hl.has g1 rfl (fun ls' h9 => k ls' (g_LV.of1 (v := .ref x) h9 g2))
  · obtain ⟨x, r, l2, rfl, h1, h2⟩ := m_str_of h
    obtain ⟨g1, g2, rfl⟩ := m_st1_of h1
    cases h2
    exact lv_astore_n hx hb hd rfl hl.has g1 rfl (fun ls' h9 => k ls' (g_LV.of1 (v := .ref x) h9 g2))
  · split at h
    · rename_i i n _ x hi
      obtain ⟨l2, h1, h2⟩ := Option.map_eq_some_iff.mp h
      obtain ⟨g1, g2, rfl⟩ := m_st1_of h1
      cases h2
      have hm := g_prs_mem (G := G) hi (fun q => by cases q)
      obtain ⟨q, hq⟩ := List.getElem?_of_mem hm
      exact lv_iinc hx hb hd hl.has hq rfl g1 rfl (fun ls' h9 => k ls' (g_LV.of1 (v := .int (x + Int32.ofInt n)) h9 g2))
    · cases h
  · cases h
theorem s_br {cd : Bool} {tgt : Nat} (hx : p.tables.exec = Jvm.exec) (hb : c.code = cc) (hd : decode cc pc = .ok (ins, m_len ins)) (ht : (pc : Int) + m_off ins = (tgt : Int)) (h : m_br ins st = some (cd, st'))
    (k : W p l e R s m args below meth c H locs cells slots Q (F0 m (if cd then tgt else pc + m_len ins) ls (st'.map (g_v G)))) :
    W p l e R s m args below meth c H locs cells slots Q (F0 m pc ls (st.map (g_v G))) := by
  have i32le : ∀ {x y : Int32}, ¬ x ≤ y → y < x := fun h => Int32.not_le.mp h
  unfold m_br at h
  split at h
  · rename_i cnd o
    split at h
    · cases h
      cases cnd
      · exact lv_if_eq hx hb hd ht (fun z => by simpa [m_cc, m_len, z] using k) (fun z => by simpa [m_cc, m_len, z] using k)
      · exact lv_if_ne hx hb hd ht (fun z => by simpa [m_cc, m_len, z] using k) (fun z => by simpa [m_cc, m_len, z] using k)
      · exact lv_if_lt hx hb hd ht (fun z => by simpa [m_cc, m_len, z] using k) (fun z => by simpa [m_cc, m_len, z] using k)
      · exact lv_if_ge hx hb hd ht (fun z => by simpa [m_cc, m_len, z] using k) (fun z => by simpa [m_cc, m_len, z] using k)
      · exact lv_if_gt hx hb hd ht (fun z => by simpa [m_cc, m_len, z] using k) (fun z => by simpa [m_cc, m_len, z] using k)
      · exact lv_if_le hx hb hd ht (fun z => by simpa [m_cc, m_len, z] using k) (fun z => by simpa [m_cc, m_len, z] using k)
    · cases h
  · rename_i cnd o
    split at h
    · cases h
      cases cnd
      · exact lv_icmp_eq hx hb hd ht (fun z => by simpa [m_cc, m_len, z] using k) (fun z => by simpa [m_cc, m_len, z] using k)
      · exact lv_icmp_ne hx hb hd ht (fun z => by simpa [m_cc, m_len, z] using k) (fun z => by simpa [m_cc, m_len, z] using k)
      · exact lv_icmp_lt hx hb hd ht (fun z => by simpa [m_cc, m_len, z] using k) (fun z => by simpa [m_cc, m_len, z] using k)
      · exact lv_icmp_ge hx hb hd ht (fun z => by simpa [m_cc, m_len, z] using k) (fun z => by simpa [m_cc, m_len, z] using k)
      · exact lv_icmp_gt hx hb hd ht (fun z => by simpa [m_cc, m_len, z] using k) (fun z => by simpa [m_cc, m_len, z] using k)
      · exact lv_icmp_le hx hb hd ht (fun z => by simpa [m_cc, m_len, z] using k) (fun z => by simpa [m_cc, m_len, z] using k)
    · cases h
  · cases h
    exact lv_goto hx hb hd ht (by simpa [m_len] using k)
  · split at h
    · cases h; exact lv_ifnullN hx hb hd ht (by simpa [m_len] using k)
    · cases h; exact lv_ifnull hx hb hd (by simpa [m_len] using k)
    · cases h
  · split at h
    · cases h; exact lv_ifnonnullN hx hb hd (by simpa [m_len] using k)
    · cases h; exact lv_ifnonnull hx hb hd ht (by simpa [m_len] using k)
    · cases h
  · cases h
end SND
