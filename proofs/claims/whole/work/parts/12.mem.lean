/-! the rows of the small machine that read and write arrays, and make cells -/
theorem g_upI (f : Nat → Int32) (i : Nat) (x : Int32) : updV (fun j => Value.int (f j)) i (.int x) = fun j => .int (m_sc f i x j) := by
  funext j
  by_cases h : j = i
  · simp [updV, m_sc, h]
  · simp [updV, m_sc, h]
theorem g_upL (f : Nat → Int64) (i : Nat) (x : Int64) : updV (fun j => Value.long (f j)) i (.long x) = fun j => .long (m_sc f i x j) := by
  funext j
  by_cases h : j = i
  · simp [updV, m_sc, h]
  · simp [updV, m_sc, h]
section WRM
variable {p : Program} {l : Launch} {e : Env} {R : Room} {s : State} {m : MethodId} {args : Array Value} {below : List Frame} {meth : Method} {c : Code} {H : Heap} {locs : List Loc} {cells slots : Nat} {Q : State → Prop}
variable {cc : ByteArray} {pc : Nat} {ls : Array Slot} {G : g_G} {rest : List Value} {V : m_V} {t : Nat} {I : m_I} {L : m_L} {Rf : m_R} {H0 : Heap} {k : Nat} {i : Int32}
theorem s_iald (hx : p.tables.exec = Jvm.exec) (hb : c.code = cc) (hK : g_K G s) (hW : g_Wd G (t, I, L, Rf) H) (hk : k < t) (h1 : m_ty k = 2) (hin : ¬ (i < 0 ∨ m_ln 0 k ≤ i.toNatClampNeg)) (hd : decode cc pc = .ok (.iaload, 1))
    (kk : W p l e R s m args below meth c H locs cells slots Q (F0 m (pc + 1) ls (.int (I k i.toNatClampNeg) :: rest))) :
    W p l e R s m args below meth c H locs cells slots Q (F0 m pc ls (.int i :: .ref (g_ad G k) :: rest)) := by
  have he := g_ws_at (G := G) (X := (t, I, L, Rf)) hk
  rw [g_e2 h1 (by decide) (by decide)] at he
  exact va_iald (D := G.2.2.1) hx hb hK.1 hW.2.2 k 0 he rfl hin hd kk
theorem s_zald (hx : p.tables.exec = Jvm.exec) (hb : c.code = cc) (hK : g_K G s) (hW : g_Wd G (t, I, L, Rf) H) (hk : k < t) (h1 : m_ty k = 3) (hin : ¬ (i < 0 ∨ m_ln 0 k ≤ i.toNatClampNeg)) (hd : decode cc pc = .ok (.baload, 1))
    (kk : W p l e R s m args below meth c H locs cells slots Q (F0 m (pc + 1) ls (.int (I k i.toNatClampNeg) :: rest))) :
    W p l e R s m args below meth c H locs cells slots Q (F0 m pc ls (.int i :: .ref (g_ad G k) :: rest)) := by
  have he := g_ws_at (G := G) (X := (t, I, L, Rf)) hk
  rw [g_e2 h1 (by decide) (by decide)] at he
  exact va_zald (D := G.2.2.1) hx hb hK.1 hW.2.2 k 1 he rfl hin hd kk
theorem s_lald (hx : p.tables.exec = Jvm.exec) (hb : c.code = cc) (hK : g_K G s) (hW : g_Wd G (t, I, L, Rf) H) (hk : k < t) (h1 : m_ty k = 4) (hin : ¬ (i < 0 ∨ m_ln 0 k ≤ i.toNatClampNeg)) (hd : decode cc pc = .ok (.laload, 1))
    (kk : W p l e R s m args below meth c H locs cells slots Q (F0 m (pc + 1) ls (.long (L k i.toNatClampNeg) :: rest))) :
    W p l e R s m args below meth c H locs cells slots Q (F0 m pc ls (.int i :: .ref (g_ad G k) :: rest)) := by
  have he := g_ws_at (G := G) (X := (t, I, L, Rf)) hk
  rw [g_e4 h1] at he
  exact va_lald (D := G.2.2.1) hx hb hK.1 hW.2.2 k 2 he rfl hin hd kk
theorem s_xald (hx : p.tables.exec = Jvm.exec) (hb : c.code = cc) (hO : g_O G V s s.heap) (hS : va_S (g_A G) s.heap H locs) (h1 : 1000 ≤ k) (h2 : k < 1004) (hin : ¬ (i < 0 ∨ m_ln V.1 k ≤ i.toNatClampNeg)) (hd : decode cc pc = .ok (.iaload, 1))
    (kk : W p l e R s m args below meth c H locs cells slots Q (F0 m (pc + 1) ls (.int (V.2 k i.toNatClampNeg) :: rest))) :
    W p l e R s m args below meth c H locs cells slots Q (F0 m pc ls (.int i :: .ref (g_ad G k) :: rest)) := by
  by_cases hk : k < 1003
  · have hl : m_ln V.1 k = 22 := by simp [m_ln, Nat.not_lt.mpr h1, hk]
    rw [hl] at hin
    exact va_ti hx hb (hO.1.2 k h1 hk) hS hin rfl hd kk
  · obtain rfl : k = 1003 := by omega
    obtain ⟨hX, hlt⟩ := hO.1.1
    have hb0 : g_ad G 1003 < s.heap.size := by
      obtain ⟨scr, g1, -⟩ := hX
      exact (Array.getElem?_eq_some_iff.mp g1).1
    exact va_sld hx hb hX hb0 (Nat.not_le.mpr hlt) hS hin hd kk
theorem s_alen (hx : p.tables.exec = Jvm.exec) (hb : c.code = cc) (hK : g_K G s) (hW : g_Wd G (t, I, L, Rf) H) (hO : g_O G V s s.heap) (hS : va_S (g_A G) s.heap H locs) (hk : k < t ∨ 1000 ≤ k) (h1 : 2 ≤ m_ty k) (hd : decode cc pc = .ok (.arraylength, 1))
    (kk : W p l e R s m args below meth c H locs cells slots Q (F0 m (pc + 1) ls (.int (Int32.ofNat (m_ln V.1 k)) :: rest))) :
    W p l e R s m args below meth c H locs cells slots Q (F0 m pc ls (.ref (g_ad G k) :: rest)) := by
  rcases Nat.lt_or_ge k 1000 with hk2 | hk2
  · have hkt : k < t := hk.resolve_right (by omega)
    have hl : m_ln V.1 k = m_ln 0 k := by simp [m_ln, hk2]
    rw [hl] at kk
    have h62 := m_ty_lt (k := k) (by omega) hk2
    have hty : m_ty k = 2 ∨ m_ty k = 3 ∨ m_ty k = 4 := by
      have : ∀ k, k < 62 → m_ty k ≤ 4 := by decide +kernel
      have := this k h62
      omega
    have he := g_ws_at (G := G) (X := (t, I, L, Rf)) hkt
    rcases hty with h | h | h
    · rw [g_e2 h (by decide) (by decide)] at he
      exact va_alen (D := G.2.2.1) hx hb hK.1 hW.2.2 k 0 he rfl rfl hd kk
    · rw [g_e2 h (by decide) (by decide)] at he
      exact va_alen (D := G.2.2.1) hx hb hK.1 hW.2.2 k 1 he rfl rfl hd kk
    · rw [g_e4 h] at he
      exact va_alen (D := G.2.2.1) hx hb hK.1 hW.2.2 k 2 he rfl rfl hd kk
  · have hk4 : k < 1004 := by
      rcases Nat.lt_or_ge k 1004 with z | z
      · exact z
      · rw [m_ty, if_neg (by omega), if_neg (by omega)] at h1
        omega
    by_cases hk3 : k < 1003
    · have hl : m_ln V.1 k = 22 := by simp [m_ln, Nat.not_lt.mpr hk2, hk3]
      rw [hl] at kk
      exact va_tlen hx hb (hO.1.2 k hk2 hk3) hS rfl hd kk
    · obtain rfl : k = 1003 := by omega
      obtain ⟨hX, hlt⟩ := hO.1.1
      have hb0 : g_ad G 1003 < s.heap.size := by
        obtain ⟨scr, g1, -⟩ := hX
        exact (Array.getElem?_eq_some_iff.mp g1).1
      exact va_slen hx hb hX hb0 (Nat.not_le.mpr hlt) hS hd kk
theorem s_iast {x : Int32} (hx : p.tables.exec = Jvm.exec) (hb : c.code = cc) (hK : g_K G s) (hW : g_Wd G (t, I, L, Rf) H) (hS : va_S (g_A G) H0 H locs) (hk : k < t) (h1 : m_ty k = 2) (hin : ¬ (i < 0 ∨ m_ln 0 k ≤ i.toNatClampNeg)) (hd : decode cc pc = .ok (.iastore, 1))
    (kk : ∀ (H1 : Heap) (locs1 : List Loc), g_Wd G (t, m_sc I k (m_sc (I k) i.toNatClampNeg x), L, Rf) H1 → va_S (g_A G) H0 H1 locs1 → W p l e R s m args below meth c H1 locs1 cells slots Q (F0 m (pc + 1) ls rest)) :
    W p l e R s m args below meth c H locs cells slots Q (F0 m pc ls (.int x :: .int i :: .ref (g_ad G k) :: rest)) := by
  have he := g_ws_at (G := G) (X := (t, I, L, Rf)) hk
  rw [g_e2 h1 (by decide) (by decide)] at he
  refine W.iast hx hb (hW.2.2 k _ he) ((hK.1.2 0 _ rfl).1 (m_ln 0 k) (fun j => .int (I k j))) (fun q => by cases q) (by show ¬ (i < 0 ∨ (arrV _ _ _).slots.size ≤ _); rw [arrV_size]; exact hin) rfl rfl hd fun H1 e1 e2 e3 => ?_
  refine kk H1 _ ⟨e2.trans hW.1, hW.2.1, ?_⟩ (hS.put e2 e3 ((g_D hW.2.1).2 k _ he))
  rw [← g_set (G := G) (X := (t, I, L, Rf)) (X' := (t, m_sc I k (m_sc (I k) i.toNatClampNeg x), L, Rf)) (k := k) (e' := .inl (G.2.2.2 2, m_ln 0 k, .inl (m_sc (I k) i.toNatClampNeg x))) rfl (fun j hj => g_e_I (m_sc_ne hj)) (by rw [g_e2 h1 (by decide) (by decide)]; show Sum.inl (_, _, Sum.inl (m_sc I k _ k)) = _; rw [m_sc_self])]
  refine hW.2.2.set (g_D hW.2.1) he ?_ e3
  show H1[g_ad G k]? = some (vp_cell _ _)
  rw [e1]
  rw [vp_cell_i, vp_cell_i, arrV_store, g_upI]
theorem s_zast {x : Int32} (hx : p.tables.exec = Jvm.exec) (hb : c.code = cc) (hK : g_K G s) (hW : g_Wd G (t, I, L, Rf) H) (hS : va_S (g_A G) H0 H locs) (hk : k < t) (h1 : m_ty k = 3) (hin : ¬ (i < 0 ∨ m_ln 0 k ≤ i.toNatClampNeg)) (hd : decode cc pc = .ok (.bastore, 1))
    (kk : ∀ (H1 : Heap) (locs1 : List Loc), g_Wd G (t, m_sc I k (m_sc (I k) i.toNatClampNeg (x &&& 1)), L, Rf) H1 → va_S (g_A G) H0 H1 locs1 → W p l e R s m args below meth c H1 locs1 cells slots Q (F0 m (pc + 1) ls rest)) :
    W p l e R s m args below meth c H locs cells slots Q (F0 m pc ls (.int x :: .int i :: .ref (g_ad G k) :: rest)) := by
  have he := g_ws_at (G := G) (X := (t, I, L, Rf)) hk
  rw [g_e2 h1 (by decide) (by decide)] at he
  refine W.zast hx hb (hW.2.2 k _ he) ((hK.1.2 1 _ rfl).1 (m_ln 0 k) (fun j => .int (I k j))) (fun q => by cases q) (by show ¬ (i < 0 ∨ (arrV _ _ _).slots.size ≤ _); rw [arrV_size]; exact hin) rfl rfl hd fun H1 e1 e2 e3 => ?_
  refine kk H1 _ ⟨e2.trans hW.1, hW.2.1, ?_⟩ (hS.put e2 e3 ((g_D hW.2.1).2 k _ he))
  rw [← g_set (G := G) (X := (t, I, L, Rf)) (X' := (t, m_sc I k (m_sc (I k) i.toNatClampNeg (x &&& 1)), L, Rf)) (k := k) (e' := .inl (G.2.2.2 3, m_ln 0 k, .inl (m_sc (I k) i.toNatClampNeg (x &&& 1)))) rfl (fun j hj => g_e_I (m_sc_ne hj)) (by rw [g_e2 h1 (by decide) (by decide)]; show Sum.inl (_, _, Sum.inl (m_sc I k _ k)) = _; rw [m_sc_self])]
  refine hW.2.2.set (g_D hW.2.1) he ?_ e3
  show H1[g_ad G k]? = some (vp_cell _ _)
  rw [e1]
  rw [vp_cell_i, vp_cell_i, arrV_store, ← g_upI]
  rfl
theorem s_last {x : Int64} (hx : p.tables.exec = Jvm.exec) (hb : c.code = cc) (hK : g_K G s) (hW : g_Wd G (t, I, L, Rf) H) (hS : va_S (g_A G) H0 H locs) (hk : k < t) (h1 : m_ty k = 4) (hin : ¬ (i < 0 ∨ m_ln 0 k ≤ i.toNatClampNeg)) (hd : decode cc pc = .ok (.lastore, 1))
    (kk : ∀ (H1 : Heap) (locs1 : List Loc), g_Wd G (t, I, m_sc L k (m_sc (L k) i.toNatClampNeg x), Rf) H1 → va_S (g_A G) H0 H1 locs1 → W p l e R s m args below meth c H1 locs1 cells slots Q (F0 m (pc + 1) ls rest)) :
    W p l e R s m args below meth c H locs cells slots Q (F0 m pc ls (.long x :: .int i :: .ref (g_ad G k) :: rest)) := by
  have he := g_ws_at (G := G) (X := (t, I, L, Rf)) hk
  rw [g_e4 h1] at he
  refine W.last hx hb (hW.2.2 k _ he) ((hK.1.2 2 _ rfl).1 (m_ln 0 k) (fun j => .long (L k j))) (fun q => by cases q) (by show ¬ (i < 0 ∨ (arrV _ _ _).slots.size ≤ _); rw [arrV_size]; exact hin) rfl rfl hd fun H1 e1 e2 e3 => ?_
  refine kk H1 _ ⟨e2.trans hW.1, hW.2.1, ?_⟩ (hS.put e2 e3 ((g_D hW.2.1).2 k _ he))
  rw [← g_set (G := G) (X := (t, I, L, Rf)) (X' := (t, I, m_sc L k (m_sc (L k) i.toNatClampNeg x), Rf)) (k := k) (e' := .inl (G.2.2.2 4, m_ln 0 k, .inr (.inl (m_sc (L k) i.toNatClampNeg x)))) rfl (fun j hj => g_e_L (m_sc_ne hj)) (by rw [g_e4 h1]; show Sum.inl (_, _, Sum.inr (Sum.inl (m_sc L k _ k))) = _; rw [m_sc_self])]
  refine hW.2.2.set (g_D hW.2.1) he ?_ e3
  show H1[g_ad G k]? = some (vp_cell _ _)
  rw [e1]
  rw [vp_cell_l, vp_cell_l, arrV_store, g_upL]
theorem nn_clamp {z : Int32} (hz : ¬ z < 0) : z.toInt = (z.toNatClampNeg : Int) := by
  obtain ⟨j, hj, rfl⟩ := nI_of hz
  rw [nI_toInt hj, nI_clamp hj]
theorem s_copyi {d k : Nat} {n dp sp : Int32} {ix : Nat} {own : String} (hx : p.tables.exec = Jvm.exec) (hb : c.code = cc) (hml : c.maxLocals = ls.size) (hown : s.vm.findClass own = some m.cls) (hts : ∀ w ∈ m_g, w.before args s = true)
    (hw : Jvm.Cond.methodLink own ix arraycopyName ∈ m_g) (hw2 : Jvm.Cond.native arraycopyName ∈ m_g ∧ Jvm.Cond.static arraycopyName ∈ m_g ∧ Jvm.Cond.initialized "java/lang/System" ∈ m_g) (hK : g_K G s) (hW : g_Wd G (t, I, L, Rf) H) (hS : va_S (g_A G) H0 H locs)
    (hk : k < t) (hd0 : d < t) (h1 : m_ty k = 2) (h2 : m_ty d = 2) (g1 : ¬ sp < 0) (g2 : ¬ dp < 0) (g3 : ¬ n < 0) (h4 : sp.toNatClampNeg + n.toNatClampNeg ≤ m_ln 0 k) (h5 : dp.toNatClampNeg + n.toNatClampNeg ≤ m_ln 0 d)
    (hfr : 1 ≤ R.frames) (hlo : (rest.map fun v => v.category).sum + 18 ≤ R.locals) (hd : decode cc pc = .ok (.invokestatic ix, 3))
    (kk : ∀ (H1 : Heap) (locs1 : List Loc), g_Wd G (t, m_sc I d (va_cpy (I k) (I d) sp.toNatClampNeg dp.toNatClampNeg n.toNatClampNeg), L, Rf) H1 → va_S (g_A G) H0 H1 locs1 → W p l e R s m args below meth c H1 locs1 cells slots Q (F0 m (pc + 3) ls rest)) :
    W p l e R s m args below meth c H locs cells slots Q (F0 m pc ls (.int n :: .int dp :: .ref (g_ad G d) :: .int sp :: .ref (g_ad G k) :: rest)) := by
  have ek := g_ws_at (G := G) (X := (t, I, L, Rf)) hk
  rw [g_e2 h1 (by decide) (by decide)] at ek
  have ed := g_ws_at (G := G) (X := (t, I, L, Rf)) hd0
  rw [g_e2 h2 (by decide) (by decide)] at ed
  have ck : H[g_ad G k]? = some (vp_cell (G.2.2.2 2) (m_ln 0 k, .inl (I k))) := hW.2.2 k _ ek
  have cd : H[g_ad G d]? = some (vp_cell (G.2.2.2 2) (m_ln 0 d, .inl (I d))) := hW.2.2 d _ ed
  intro T hT X
  obtain ⟨-, k0, hk0, cm0, hkk0⟩ := (hK.1.2 0 _ rfl).1 (m_ln 0 k) (fun j => .int (I k j))
  have sz : ∀ (nn : Nat) (f : Nat → Int32), (vp_cell (G.2.2.2 2) (nn, .inl f)).slots.size = nn := fun nn f => arrV_size _ _ _
  obtain ⟨vm', X', step⟩ := X.arraycopy hx hown (hts _ hw) (hts _ hw2.1) (hts _ hw2.2.1) (hts _ hw2.2.2) (src := g_ad G k) (dst := g_ad G d) (cs := vp_cell (G.2.2.2 2) (m_ln 0 k, .inl (I k))) (cd := vp_cell (G.2.2.2 2) (m_ln 0 d, .inl (I d))) (srcPos := sp) (destPos := dp) (n := n) (by rw [hT]; exact ck) (by rw [hT]; exact cd)
    (fun _ h => by cases h) (fun _ h => by cases h) (fun h => by cases h) (fun h => by cases h) hk0 hk0 hkk0 hkk0 rfl g1 g2 g3
    (by rw [nn_clamp g1, nn_clamp g3, sz]; omega) (by rw [nn_clamp g2, nn_clamp g3, sz]; omega)
    (fun vm₁ _ i hi => by
      have e1 : (vp_cell (G.2.2.2 2) (m_ln 0 k, .inl (I k))).slots.getD (sp.toNatClampNeg + i) .null = .int (I k (sp.toNatClampNeg + i)) := by
        show (arrV _ _ (fun j => .int (I k j))).slots.getD _ _ = _
        rw [Array.getD_eq_getD_getElem?, arrV_read _ _ (by omega)]
        rfl
      rw [e1]
      exact ⟨rfl, trivial⟩)
    (g := F0 m pc ls (.int n :: .int dp :: .ref (g_ad G d) :: .int sp :: .ref (g_ad G k) :: rest)) rfl (by rw [hml]) (rest := rest) rfl (by rw [hb]; exact hd) hfr (by show 2 * 0 + _ + (7 + 11) ≤ _; omega)
  have e1 : copied (vp_cell (G.2.2.2 2) (m_ln 0 k, .inl (I k))) (vp_cell (G.2.2.2 2) (m_ln 0 d, .inl (I d))) sp dp n = vp_cell (G.2.2.2 2) (m_ln 0 d, .inl (va_cpy (I k) (I d) sp.toNatClampNeg dp.toNatClampNeg n.toNatClampNeg)) := va_copied (fun z => .int z) _ _ _ _ h4
  rw [e1] at X' step
  have hl : g_ad G d < H.size := (Array.getElem?_eq_some_iff.mp cd).1
  obtain ⟨Z, hZ⟩ : ∃ Z, Z = vp_cell (G.2.2.2 2) (m_ln 0 d, .inl (va_cpy (I k) (I d) sp.toNatClampNeg dp.toNatClampNeg n.toNatClampNeg)) := ⟨_, rfl⟩
  rw [← hZ] at X' step
  have hheap : ((T.setVm vm').setCell (g_ad G d) Z).heap = H.setIfInBounds (g_ad G d) Z := by rw [← hT]; rfl
  have oq : ∀ q : Nat, q ≠ g_ad G d → (H.setIfInBounds (g_ad G d) Z)[q]? = H[q]? := fun q hq => by simp [Array.getElem?_setIfInBounds, Ne.symm hq]
  have hA := (g_D hW.2.1).2 d _ ed
  refine Exists.elim (kk _ _ ⟨?_, hW.2.1, ?_⟩ ⟨by simp; exact hS.1, fun q q1 q2 => ?_, fun q hq => ?_⟩ _ hheap X') (fun t2 h => ⟨t2, step t2 h.1, h.2⟩)
  · simp; exact hW.1
  · rw [← g_set (G := G) (X := (t, I, L, Rf)) (X' := (t, m_sc I d (va_cpy (I k) (I d) sp.toNatClampNeg dp.toNatClampNeg n.toNatClampNeg), L, Rf)) (k := d) (e' := .inl (G.2.2.2 2, m_ln 0 d, .inl (va_cpy (I k) (I d) sp.toNatClampNeg dp.toNatClampNeg n.toNatClampNeg))) rfl (fun j hj => g_e_I (m_sc_ne hj)) (by rw [g_e2 h2 (by decide) (by decide)]; show Sum.inl (_, _, Sum.inl (m_sc I d _ d)) = _; rw [m_sc_self])]
    exact hW.2.2.set (g_D hW.2.1) ed (show (H.setIfInBounds (g_ad G d) _)[g_ad G d]? = some _ by rw [hZ]; simp [Array.getElem?_setIfInBounds, hl]) oq
  · rw [oq q (fun z => q2 (by rw [z]; exact hA))]
    exact hS.2.1 q q1 q2
  · rcases List.mem_append.mp hq with h | h
    · exact hS.2.2 q h
    · obtain ⟨z, -, hz⟩ := List.mem_map.mp h
      rw [← hz]
      exact hA
theorem s_copyl {d k : Nat} {n dp sp : Int32} {ix : Nat} {own : String} (hx : p.tables.exec = Jvm.exec) (hb : c.code = cc) (hml : c.maxLocals = ls.size) (hown : s.vm.findClass own = some m.cls) (hts : ∀ w ∈ m_g, w.before args s = true)
    (hw : Jvm.Cond.methodLink own ix arraycopyName ∈ m_g) (hw2 : Jvm.Cond.native arraycopyName ∈ m_g ∧ Jvm.Cond.static arraycopyName ∈ m_g ∧ Jvm.Cond.initialized "java/lang/System" ∈ m_g) (hK : g_K G s) (hW : g_Wd G (t, I, L, Rf) H) (hS : va_S (g_A G) H0 H locs)
    (hk : k < t) (hd0 : d < t) (h1 : m_ty k = 4) (h2 : m_ty d = 4) (g1 : ¬ sp < 0) (g2 : ¬ dp < 0) (g3 : ¬ n < 0) (h4 : sp.toNatClampNeg + n.toNatClampNeg ≤ m_ln 0 k) (h5 : dp.toNatClampNeg + n.toNatClampNeg ≤ m_ln 0 d)
    (hfr : 1 ≤ R.frames) (hlo : (rest.map fun v => v.category).sum + 18 ≤ R.locals) (hd : decode cc pc = .ok (.invokestatic ix, 3))
    (kk : ∀ (H1 : Heap) (locs1 : List Loc), g_Wd G (t, I, m_sc L d (va_cpy (L k) (L d) sp.toNatClampNeg dp.toNatClampNeg n.toNatClampNeg), Rf) H1 → va_S (g_A G) H0 H1 locs1 → W p l e R s m args below meth c H1 locs1 cells slots Q (F0 m (pc + 3) ls rest)) :
    W p l e R s m args below meth c H locs cells slots Q (F0 m pc ls (.int n :: .int dp :: .ref (g_ad G d) :: .int sp :: .ref (g_ad G k) :: rest)) := by
  have ek := g_ws_at (G := G) (X := (t, I, L, Rf)) hk
  rw [g_e4 h1] at ek
  have ed := g_ws_at (G := G) (X := (t, I, L, Rf)) hd0
  rw [g_e4 h2] at ed
  have ck : H[g_ad G k]? = some (vp_cell (G.2.2.2 4) (m_ln 0 k, .inr (.inl (L k)))) := hW.2.2 k _ ek
  have cd : H[g_ad G d]? = some (vp_cell (G.2.2.2 4) (m_ln 0 d, .inr (.inl (L d)))) := hW.2.2 d _ ed
  intro T hT X
  obtain ⟨-, k0, hk0, cm0, hkk0⟩ := (hK.1.2 2 _ rfl).1 (m_ln 0 k) (fun j => .long (L k j))
  have sz : ∀ (nn : Nat) (f : Nat → Int64), (vp_cell (G.2.2.2 4) (nn, .inr (.inl f))).slots.size = nn := fun nn f => arrV_size _ _ _
  obtain ⟨vm', X', step⟩ := X.arraycopy hx hown (hts _ hw) (hts _ hw2.1) (hts _ hw2.2.1) (hts _ hw2.2.2) (src := g_ad G k) (dst := g_ad G d) (cs := vp_cell (G.2.2.2 4) (m_ln 0 k, .inr (.inl (L k)))) (cd := vp_cell (G.2.2.2 4) (m_ln 0 d, .inr (.inl (L d)))) (srcPos := sp) (destPos := dp) (n := n) (by rw [hT]; exact ck) (by rw [hT]; exact cd)
    (fun _ h => by cases h) (fun _ h => by cases h) (fun h => by cases h) (fun h => by cases h) hk0 hk0 hkk0 hkk0 rfl g1 g2 g3
    (by rw [nn_clamp g1, nn_clamp g3, sz]; omega) (by rw [nn_clamp g2, nn_clamp g3, sz]; omega)
    (fun vm₁ _ i hi => by
      have e1 : (vp_cell (G.2.2.2 4) (m_ln 0 k, .inr (.inl (L k)))).slots.getD (sp.toNatClampNeg + i) .null = .long (L k (sp.toNatClampNeg + i)) := by
        show (arrV _ _ (fun j => .long (L k j))).slots.getD _ _ = _
        rw [Array.getD_eq_getD_getElem?, arrV_read _ _ (by omega)]
        rfl
      rw [e1]
      exact ⟨rfl, trivial⟩)
    (g := F0 m pc ls (.int n :: .int dp :: .ref (g_ad G d) :: .int sp :: .ref (g_ad G k) :: rest)) rfl (by rw [hml]) (rest := rest) rfl (by rw [hb]; exact hd) hfr (by show 2 * 0 + _ + (7 + 11) ≤ _; omega)
  have e1 : copied (vp_cell (G.2.2.2 4) (m_ln 0 k, .inr (.inl (L k)))) (vp_cell (G.2.2.2 4) (m_ln 0 d, .inr (.inl (L d)))) sp dp n = vp_cell (G.2.2.2 4) (m_ln 0 d, .inr (.inl (va_cpy (L k) (L d) sp.toNatClampNeg dp.toNatClampNeg n.toNatClampNeg))) := va_copied (fun z => .long z) _ _ _ _ h4
  rw [e1] at X' step
  have hl : g_ad G d < H.size := (Array.getElem?_eq_some_iff.mp cd).1
  obtain ⟨Z, hZ⟩ : ∃ Z, Z = vp_cell (G.2.2.2 4) (m_ln 0 d, .inr (.inl (va_cpy (L k) (L d) sp.toNatClampNeg dp.toNatClampNeg n.toNatClampNeg))) := ⟨_, rfl⟩
  rw [← hZ] at X' step
  have hheap : ((T.setVm vm').setCell (g_ad G d) Z).heap = H.setIfInBounds (g_ad G d) Z := by rw [← hT]; rfl
  have oq : ∀ q : Nat, q ≠ g_ad G d → (H.setIfInBounds (g_ad G d) Z)[q]? = H[q]? := fun q hq => by simp [Array.getElem?_setIfInBounds, Ne.symm hq]
  have hA := (g_D hW.2.1).2 d _ ed
  refine Exists.elim (kk _ _ ⟨?_, hW.2.1, ?_⟩ ⟨by simp; exact hS.1, fun q q1 q2 => ?_, fun q hq => ?_⟩ _ hheap X') (fun t2 h => ⟨t2, step t2 h.1, h.2⟩)
  · simp; exact hW.1
  · rw [← g_set (G := G) (X := (t, I, L, Rf)) (X' := (t, I, m_sc L d (va_cpy (L k) (L d) sp.toNatClampNeg dp.toNatClampNeg n.toNatClampNeg), Rf)) (k := d) (e' := .inl (G.2.2.2 4, m_ln 0 d, .inr (.inl (va_cpy (L k) (L d) sp.toNatClampNeg dp.toNatClampNeg n.toNatClampNeg)))) rfl (fun j hj => g_e_L (m_sc_ne hj)) (by rw [g_e4 h2]; show Sum.inl (_, _, Sum.inr (Sum.inl (m_sc L d _ d))) = _; rw [m_sc_self])]
    exact hW.2.2.set (g_D hW.2.1) ed (show (H.setIfInBounds (g_ad G d) _)[g_ad G d]? = some _ by rw [hZ]; simp [Array.getElem?_setIfInBounds, hl]) oq
  · rw [oq q (fun z => q2 (by rw [z]; exact hA))]
    exact hS.2.1 q q1 q2
  · rcases List.mem_append.mp hq with h | h
    · exact hS.2.2 q h
    · obtain ⟨z, -, hz⟩ := List.mem_map.mp h
      rw [← hz]
      exact hA
/-- one more cell -/
theorem g_push {X X' : m_X} {H1 : Heap} (hW : g_Wd G X H) (h1 : X'.1 = X.1 + 1) (hX : X.1 < 62) (h2 : ∀ j, j < X.1 → g_e G X' j = g_e G X j) (hz : H1.size = H.size + 1) (hk : ∀ q, q < H.size → H1[q]? = H[q]?)
    (hat : va_at G.2.2.1 m_cl (g_ad G X.1, g_e G X' X.1) H1) : g_Wd G X' H1 := by
  refine ⟨by rw [hz, hW.1, h1]; omega, by omega, fun k q hq => ?_⟩
  obtain ⟨hk1, rfl⟩ := g_ws_lt hq
  rcases Nat.lt_or_ge k X.1 with z | z
  · have := hW.2.2 k _ (g_ws_at z)
    rw [h2 k z]
    exact this.kept (hk _ (by show g_ad G k < _; rw [g_ad_lt (by omega), hW.1]; omega))
  · obtain rfl : k = X.1 := by omega
    exact hat
theorem va_S.grow {A : Nat → Prop} {H0 H H1 : Heap} {locs : List Loc} (hS : va_S A H0 H locs) (hz : H1.size = H.size + 1) (hk : ∀ q, q < H.size → H1[q]? = H[q]?) : va_S A H0 H1 locs :=
  ⟨by rw [hz]; exact Nat.le_succ_of_le hS.1, fun q h1 h2 => by rw [hk q (Nat.lt_of_lt_of_le h1 hS.1)]; exact hS.2.1 q h1 h2, hS.2.2⟩
theorem s_new {a ix : Nat} {own : String} (hx : p.tables.exec = Jvm.exec) (hb : c.code = cc) (hown : s.vm.findClass own = some m.cls) (hts : ∀ w ∈ m_g, w.before args s = true) (hw : Jvm.Cond.classLink own ix (m_CR a) ∈ m_g) (ha : a < 9) (hK : g_K G s) (hW : g_Wd G (t, I, L, Rf) H) (hS : va_S (g_A G) H0 H locs)
    (h1 : m_ty t = 1) (h2 : m_ln 0 t = a) (hc : cells + 1 ≤ R.cells) (hs : slots + m_sz t ≤ R.slots) (hd : decode cc pc = .ok (.new ix, 3))
    (kk : ∀ (H1 : Heap) (locs1 : List Loc), g_Wd G (t + 1, m_sc I t (fun _ => 0), L, m_sc Rf t (fun _ => none)) H1 → va_S (g_A G) H0 H1 locs1 → W p l e R s m args below meth c H1 locs1 (cells + 1) (slots + m_sz t) Q (F0 m (pc + 3) ls (.ref (g_ad G t) :: rest))) :
    W p l e R s m args below meth c H locs cells slots Q (F0 m pc ls rest) := by
  subst h2
  have ht62 := m_ty_lt (k := t) (by rw [h1]; decide) (by have := hW.2.1; dsimp only at this; omega)
  have hKn := hK.1.1 _ _ (m_cl_at _ ha)
  have hsz : m_sz t = m_CN (m_ln 0 t) := if_pos h1
  rw [hsz] at hs kk
  refine W.newcK hx hb hown (hts _ hw) (hts _ (m_inst_in ha).1) (hts _ (m_inst_in ha).2) rfl hd hc hs hKn.2.1 hW.1 fun H1 kC hkC e1 z1 o1 => ?_
  dsimp only at e1 z1 o1 ⊢
  have hz : H1.size = H.size + 1 := by rw [z1, hW.1]
  have ho : ∀ q, q < H.size → H1[q]? = H[q]? := fun q hq => o1 q (by rw [hW.1] at hq; exact hq)
  have ead : g_ad G t = G.1 + t := g_ad_lt (by omega)
  rw [← ead] at e1 ⊢
  refine kk H1 locs (g_push (X := (t, I, L, Rf)) hW rfl ht62 (fun j hj => ?_) hz ho ?_) (hS.grow hz ho)
  · dsimp only at hj
    rw [g_e_t (t' := t), g_e_I (I := I) (m_sc_ne (by omega)), g_e_R (R := Rf) (m_sc_ne (by omega))]
  · dsimp only
    rw [g_e1 h1]
    refine ⟨_, m_cl_at _ ha, (u_born (m_tyq (m_ln 0 t)) hts (m_cl_in ha) hKn hkC e1 (fun k hk => (m_cl_ty ha hk).1)).to (fun j hj => ?_)⟩
    rw [vp_V, List.getD_eq_getElem?_getD, g_fs_at hj]
    show _ = (if _ then va_rf ((m_sc Rf t (fun _ => none) t j).map _) else Value.int (m_sc I t (fun _ => 0) t j))
    rw [m_sc_self, m_sc_self]
    rcases (m_cl_ty ha hj).2 with ⟨g1, g2⟩ | ⟨g1, g2⟩ | ⟨g1 | g1, g2⟩
    · rw [g1, g2]; rfl
    · rw [g1, g2]; rfl
    · obtain ⟨z, g1⟩ := g1; rw [g1, g2]; rfl
    · obtain ⟨z, g1⟩ := g1; rw [g1, g2]; rfl
theorem s_newa {at_ : ArrayType} {n : Int32} (hx : p.tables.exec = Jvm.exec) (hb : c.code = cc) (hts : ∀ w ∈ m_g, w.before args s = true) (hK : g_K G s) (hW : g_Wd G (t, I, L, Rf) H) (hS : va_S (g_A G) H0 H locs)
    (h1 : m_ty t = 2 ∧ at_ = .int ∨ m_ty t = 3 ∧ at_ = .boolean ∨ m_ty t = 4 ∧ at_ = .long) (h2 : n = Int32.ofNat (m_ln 0 t)) (hc : cells + 1 ≤ R.cells) (hs : slots + m_sz t ≤ R.slots) (hd : decode cc pc = .ok (.newarray at_, 2))
    (kk : ∀ (H1 : Heap) (locs1 : List Loc), g_Wd G (t + 1, m_sc I t (fun _ => 0), m_sc L t (fun _ => 0), Rf) H1 → va_S (g_A G) H0 H1 locs1 → W p l e R s m args below meth c H1 locs1 (cells + 1) (slots + m_sz t) Q (F0 m (pc + 2) ls (.ref (g_ad G t) :: rest))) :
    W p l e R s m args below meth c H locs cells slots Q (F0 m pc ls (.int n :: rest)) := by
  have hne : m_ty t ≠ 0 ∧ m_ty t ≠ 1 := by rcases h1 with h | h | h <;> rw [h.1] <;> decide
  have ht62 := m_ty_lt (k := t) hne.1 (by have := hW.2.1; dsimp only at this; omega)
  have hbig := m_ln_big ht62
  have hsz : m_sz t = m_ln 0 t := if_neg hne.2
  rw [hsz] at hs kk
  have hn : n = nI (m_ln 0 t) := h2
  have hn0 : ¬ n < 0 := by rw [hn]; exact nI_pos (by omega)
  have hnN : n.toNatClampNeg = m_ln 0 t := by rw [hn]; exact nI_clamp (by omega)
  have ead : g_ad G t = G.1 + t := g_ad_lt (by omega)
  rcases h1 with ⟨h1, rfl⟩ | ⟨h1, rfl⟩ | ⟨h1, rfl⟩
  · refine va_newaK (atype := .int) hx hb (hts _ m_arr_in.1) rfl hd rfl hn0 hnN (by show _ * 4 ≤ _; omega) hc hs hW.1 fun H1 cA e1 z1 o1 hAr hNm => ?_
    have hz : H1.size = H.size + 1 := by rw [z1, hW.1]
    have ho : ∀ q, q < H.size → H1[q]? = H[q]? := fun q hq => o1 q (by rw [hW.1] at hq; exact hq)
    have hcA : cA = G.2.2.2 2 := Option.some.inj (hNm.symm.trans (hK.1.2 0 _ rfl).2)
    subst hcA
    dsimp only at e1 ⊢
    rw [← ead] at e1 ⊢
    refine kk H1 locs (g_push (X := (t, I, L, Rf)) hW rfl ht62 (fun j hj => ?_) hz ho ?_) (hS.grow hz ho)
    · dsimp only at hj
      rw [g_e_t (t' := t), g_e_I (I := I) (m_sc_ne (by omega)), g_e_L (L := L) (m_sc_ne (by omega))]
    · dsimp only
      rw [g_e2 h1 (by decide) (by decide)]
      show H1[g_ad G t]? = some (vp_cell _ (_, .inl (m_sc I t (fun _ => 0) t)))
      rw [m_sc_self]
      exact e1
  · refine va_newaK (atype := .boolean) hx hb (hts _ m_arr_in.2.1) rfl hd rfl hn0 hnN (by show _ * 1 ≤ _; omega) hc hs hW.1 fun H1 cA e1 z1 o1 hAr hNm => ?_
    have hz : H1.size = H.size + 1 := by rw [z1, hW.1]
    have ho : ∀ q, q < H.size → H1[q]? = H[q]? := fun q hq => o1 q (by rw [hW.1] at hq; exact hq)
    have hcA : cA = G.2.2.2 3 := Option.some.inj (hNm.symm.trans (hK.1.2 1 _ rfl).2)
    subst hcA
    dsimp only at e1 ⊢
    rw [← ead] at e1 ⊢
    refine kk H1 locs (g_push (X := (t, I, L, Rf)) hW rfl ht62 (fun j hj => ?_) hz ho ?_) (hS.grow hz ho)
    · dsimp only at hj
      rw [g_e_t (t' := t), g_e_I (I := I) (m_sc_ne (by omega)), g_e_L (L := L) (m_sc_ne (by omega))]
    · dsimp only
      rw [g_e2 h1 (by decide) (by decide)]
      show H1[g_ad G t]? = some (vp_cell _ (_, .inl (m_sc I t (fun _ => 0) t)))
      rw [m_sc_self]
      exact e1
  · refine va_newaK (atype := .long) hx hb (hts _ m_arr_in.2.2) rfl hd rfl hn0 hnN (by show _ * 8 ≤ _; omega) hc hs hW.1 fun H1 cA e1 z1 o1 hAr hNm => ?_
    have hz : H1.size = H.size + 1 := by rw [z1, hW.1]
    have ho : ∀ q, q < H.size → H1[q]? = H[q]? := fun q hq => o1 q (by rw [hW.1] at hq; exact hq)
    have hcA : cA = G.2.2.2 4 := Option.some.inj (hNm.symm.trans (hK.1.2 2 _ rfl).2)
    subst hcA
    dsimp only at e1 ⊢
    rw [← ead] at e1 ⊢
    refine kk H1 locs (g_push (X := (t, I, L, Rf)) hW rfl ht62 (fun j hj => ?_) hz ho ?_) (hS.grow hz ho)
    · dsimp only at hj
      rw [g_e_t (t' := t), g_e_I (I := I) (m_sc_ne (by omega)), g_e_L (L := L) (m_sc_ne (by omega))]
    · dsimp only
      rw [g_e4 h1]
      show H1[g_ad G t]? = some (vp_cell _ (_, .inr (.inl (m_sc L t (fun _ => 0) t))))
      rw [m_sc_self]
      exact e1
end WRM
