/-! the world of the small machine, as the kit sees it -/
def g_fs (G : g_G) (X : m_X) (c k : Nat) : List Value := (List.range (m_CN c)).map fun j => if m_fkd c j = 2 then va_rf ((X.2.2.2 k j).map (g_ad G)) else .int (X.2.1 k j)
def g_e (G : g_G) (X : m_X) (k : Nat) : va_E := if m_ty k = 1 then .inr (m_ln 0 k, g_fs G X (m_ln 0 k) k) else if m_ty k = 4 then .inl (G.2.2.2 4, m_ln 0 k, .inr (.inl (X.2.2.1 k))) else .inl (G.2.2.2 (m_ty k), m_ln 0 k, .inl (X.2.1 k))
def g_ws (G : g_G) (X : m_X) : va_W := (List.range X.1).map fun k => (g_ad G k, g_e G X k)
def g_tys (G : g_G) : List (ClassId × FieldType) := [(G.2.2.2 2, .int), (G.2.2.2 3, .boolean), (G.2.2.2 4, .long)]
def g_A (G : g_G) : Nat → Prop := fun q => G.1 ≤ q
def g_K (G : g_G) (U : State) : Prop := va_K G.2.2.1 m_cl (g_tys G) U ∧ ∀ w ∈ m_nests, va_Nw w U
/-- the script and the tables -/
def g_O (G : g_G) (V : m_V) (U : State) (H : Heap) : Prop := ((va_X (g_ad G 1003) V.1 (V.2 1003) U H ∧ g_ad G 1003 < G.1) ∧ ∀ k, 1000 ≤ k → k < 1003 → va_T .int (g_ad G k) 22 (fun j => .int (V.2 k j)) (g_A G) U H) ∧ ∀ k, 1000 ≤ k → k < 1003 → va_Z "TransactionCells$Codes" (m_stn k) "[I" (.ref (g_ad G k)) (g_A G) U H
def g_Wd (G : g_G) (X : m_X) (H : Heap) : Prop := H.size = G.1 + X.1 ∧ X.1 ≤ 62 ∧ va_P G.2.2.1 m_cl (g_ws G X) H
theorem g_ws_at {G : g_G} {X : m_X} {k : Nat} (h : k < X.1) : (g_ws G X)[k]? = some (g_ad G k, g_e G X k) := by
  simp [g_ws, h]
theorem g_ws_lt {G : g_G} {X : m_X} {k : Nat} {q : Nat × va_E} (h : (g_ws G X)[k]? = some q) : k < X.1 ∧ q = (g_ad G k, g_e G X k) := by
  have hl := (List.getElem?_eq_some_iff.mp h).1
  have hk : k < X.1 := by simpa [g_ws] using hl
  rw [g_ws_at hk] at h
  exact ⟨hk, (Option.some.inj h).symm⟩
theorem g_ad_lt {G : g_G} {k : Nat} (h : k < 1000) : g_ad G k = G.1 + k := if_pos h
theorem g_D {G : g_G} {X : m_X} (hX : X.1 ≤ 62) : va_D (g_A G) (g_ws G X) := by
  refine ⟨fun i j p q hi hj hpq => ?_, fun k q hk => ?_⟩
  · obtain ⟨h1, rfl⟩ := g_ws_lt hi
    obtain ⟨h2, rfl⟩ := g_ws_lt hj
    dsimp only at hpq
    rw [g_ad_lt (by omega), g_ad_lt (by omega)] at hpq
    omega
  · obtain ⟨h1, rfl⟩ := g_ws_lt hk
    show G.1 ≤ g_ad G k
    rw [g_ad_lt (by omega)]
    omega
theorem g_set {G : g_G} {X X' : m_X} {k : Nat} {e' : va_E} (h1 : X'.1 = X.1) (h2 : ∀ j, j ≠ k → g_e G X' j = g_e G X j) (h3 : g_e G X' k = e') : (g_ws G X).set k (g_ad G k, e') = g_ws G X' := by
  apply List.ext_getElem?
  intro j
  by_cases hj : j = k
  · subst hj
    by_cases hl : j < X.1
    · rw [List.getElem?_set_self (by simpa [g_ws] using hl), g_ws_at (by rw [h1]; exact hl), h3]
    · rw [List.getElem?_eq_none (by simp [g_ws]; omega), List.getElem?_eq_none (by simp [g_ws]; omega)]
  · rw [List.getElem?_set_ne (Ne.symm hj)]
    by_cases hl : j < X.1
    · rw [g_ws_at hl, g_ws_at (by rw [h1]; exact hl), h2 j hj]
    · rw [List.getElem?_eq_none (by simp [g_ws]; omega), List.getElem?_eq_none (by simp [g_ws]; omega)]
theorem m_sc_self {α : Type} {f : Nat → α} {k : Nat} {x : α} : m_sc f k x k = x := if_pos rfl
theorem m_sc_ne {α : Type} {f : Nat → α} {k j : Nat} {x : α} (h : j ≠ k) : m_sc f k x j = f j := if_neg h
theorem g_e_I {G : g_G} {t : Nat} {I I' : m_I} {L : m_L} {R : m_R} {j : Nat} (h : I' j = I j) : g_e G (t, I', L, R) j = g_e G (t, I, L, R) j := by
  simp only [g_e, g_fs, h]
theorem g_e_L {G : g_G} {t : Nat} {I : m_I} {L L' : m_L} {R : m_R} {j : Nat} (h : L' j = L j) : g_e G (t, I, L', R) j = g_e G (t, I, L, R) j := by
  simp only [g_e, g_fs, h]
theorem g_e_R {G : g_G} {t : Nat} {I : m_I} {L : m_L} {R R' : m_R} {j : Nat} (h : R' j = R j) : g_e G (t, I, L, R') j = g_e G (t, I, L, R) j := by
  simp only [g_e, g_fs, h]
theorem g_e_t {G : g_G} {t t' : Nat} {I : m_I} {L : m_L} {R : m_R} {j : Nat} : g_e G (t, I, L, R) j = g_e G (t', I, L, R) j := rfl
theorem g_e1 {G : g_G} {X : m_X} {k : Nat} (h : m_ty k = 1) : g_e G X k = .inr (m_ln 0 k, g_fs G X (m_ln 0 k) k) := if_pos h
theorem g_e2 {G : g_G} {X : m_X} {k ty : Nat} (h : m_ty k = ty) (h1 : ty ≠ 1) (h4 : ty ≠ 4) : g_e G X k = .inl (G.2.2.2 ty, m_ln 0 k, .inl (X.2.1 k)) := by
  subst h
  rw [g_e, if_neg h1, if_neg h4]
theorem g_e4 {G : g_G} {X : m_X} {k : Nat} (h : m_ty k = 4) : g_e G X k = .inl (G.2.2.2 4, m_ln 0 k, .inr (.inl (X.2.2.1 k))) := by
  rw [g_e, if_neg (by rw [h]; decide), if_pos h]
theorem g_fs_at {G : g_G} {X : m_X} {c k j : Nat} (h : j < m_CN c) : (g_fs G X c k)[j]? = some (if m_fkd c j = 2 then va_rf ((X.2.2.2 k j).map (g_ad G)) else .int (X.2.1 k j)) := by
  simp [g_fs, h]
theorem g_fs_len {G : g_G} {X : m_X} {c k : Nat} : (g_fs G X c k).length = m_CN c := by simp [g_fs]
theorem g_fs_set {G : g_G} {X X' : m_X} {c k b : Nat} {v : Value} (h1 : ∀ j, j ≠ b → X'.2.1 k j = X.2.1 k j ∧ X'.2.2.2 k j = X.2.2.2 k j) (h2 : (if m_fkd c b = 2 then va_rf ((X'.2.2.2 k b).map (g_ad G)) else .int (X'.2.1 k b)) = v) : (g_fs G X c k).set b v = g_fs G X' c k := by
  apply List.ext_getElem?
  intro j
  by_cases hj : j = b
  · subst hj
    by_cases hl : j < m_CN c
    · rw [List.getElem?_set_self (by rw [g_fs_len]; exact hl), g_fs_at hl, h2]
    · rw [List.getElem?_eq_none (by rw [List.length_set, g_fs_len]; omega), List.getElem?_eq_none (by rw [g_fs_len]; omega)]
  · rw [List.getElem?_set_ne (Ne.symm hj)]
    by_cases hl : j < m_CN c
    · rw [g_fs_at hl, g_fs_at hl, (h1 j hj).1, (h1 j hj).2]
    · rw [List.getElem?_eq_none (by rw [g_fs_len]; omega), List.getElem?_eq_none (by rw [g_fs_len]; omega)]
theorem g_rv (G : g_G) (r : Option Nat) : g_v G (m_rv r) = va_rf (r.map (g_ad G)) := by cases r <;> rfl
-- what a program decides of the classes
def m_tyq (a : Nat) : Nat → FieldType := m_tys.getD a (fun _ => .int)
theorem m_cl_at : ∀ a, a < 9 → m_cl[a]? = some (m_CR a, m_CT a, m_CN a) := lt_s (lt_s (lt_s (lt_s (lt_s (lt_s (lt_s (lt_s (lt_s lt_0 rfl) rfl) rfl) rfl) rfl) rfl) rfl) rfl) rfl
def m_wcl (a : Nat) : Bool := (u_ws (m_CR a) (m_CT a) (m_CN a)).all fun w => decide (w ∈ lw_tbl) && goodWord w
theorem m_wcl_ok : ∀ a, a < 9 → m_wcl a = true := by decide +kernel
theorem m_cl_in {a : Nat} (h : a < 9) : ∀ w ∈ u_ws (m_CR a) (m_CT a) (m_CN a), w ∈ m_g := by
  intro w hw
  have h1 := List.all_eq_true.mp (m_wcl_ok a h) w hw
  simp only [Bool.and_eq_true, decide_eq_true_eq] at h1
  exact List.mem_filter.mpr h1
def m_tcl (a : Nat) : Bool := (List.range (m_CN a)).all fun k => decide (parseFieldDescriptor (m_CT a k).2.2.1 = some (m_tyq a k)) && (match m_tyq a k with
  | .int => decide (m_fkd a k = 0)
  | .boolean => decide (m_fkd a k = 1)
  | .object _ => decide (m_fkd a k = 2)
  | .array _ => decide (m_fkd a k = 2)
  | _ => false)
theorem m_tcl_ok : ∀ a, a < 9 → m_tcl a = true := by decide +kernel
theorem m_cl_ty {a : Nat} (h : a < 9) {k : Nat} (hk : k < m_CN a) : parseFieldDescriptor (m_CT a k).2.2.1 = some (m_tyq a k) ∧ ((m_tyq a k = .int ∧ m_fkd a k = 0) ∨ (m_tyq a k = .boolean ∧ m_fkd a k = 1) ∨ (((∃ s, m_tyq a k = .object s) ∨ ∃ t, m_tyq a k = .array t) ∧ m_fkd a k = 2)) := by
  have h1 := List.all_eq_true.mp (m_tcl_ok a h) k (List.mem_range.mpr hk)
  simp only [Bool.and_eq_true, decide_eq_true_eq] at h1
  refine ⟨h1.1, ?_⟩
  have h2 := h1.2
  cases hq : m_tyq a k <;> rw [hq] at h2 <;> simp_all
def m_ncl (a : Nat) : Bool := (List.range (m_CN a)).all fun x => (List.range (m_CN a)).all fun y => decide (x = y) || decide ((m_CT a x).2.1 ≠ (m_CT a y).2.1)
theorem m_ncl_ok : ∀ a, a < 9 → m_ncl a = true := by decide +kernel
theorem m_cl_nm {a : Nat} (h : a < 9) : ∀ x, x < m_CN a → ∀ y, y < m_CN a → x ≠ y → (m_CT a x).2.1 ≠ (m_CT a y).2.1 := by
  intro x hx y hy hne
  have h1 := List.all_eq_true.mp (List.all_eq_true.mp (m_ncl_ok a h) x (List.mem_range.mpr hx)) y (List.mem_range.mpr hy)
  simp only [Bool.or_eq_true, decide_eq_true_eq] at h1
  exact h1.resolve_left hne
theorem m_inst_ok : ∀ a, a < 9 → (Jvm.Cond.instantiable (m_CR a) (m_CN a) ∈ lw_tbl ∧ Jvm.Cond.initialized (m_CR a) ∈ lw_tbl) ∧ (goodWord (.instantiable (m_CR a) (m_CN a)) = true ∧ goodWord (.initialized (m_CR a)) = true) := by decide +kernel
theorem m_inst_in {a : Nat} (h : a < 9) : Jvm.Cond.instantiable (m_CR a) (m_CN a) ∈ m_g ∧ Jvm.Cond.initialized (m_CR a) ∈ m_g :=
  ⟨List.mem_filter.mpr ⟨(m_inst_ok a h).1.1, (m_inst_ok a h).2.1⟩, List.mem_filter.mpr ⟨(m_inst_ok a h).1.2, (m_inst_ok a h).2.2⟩⟩
theorem m_arr_in : Jvm.Cond.arrayClass .int ∈ m_g ∧ Jvm.Cond.arrayClass .boolean ∈ m_g ∧ Jvm.Cond.arrayClass .long ∈ m_g := by
  refine ⟨List.mem_filter.mpr ⟨by decide +kernel, by decide +kernel⟩, List.mem_filter.mpr ⟨by decide +kernel, by decide +kernel⟩, List.mem_filter.mpr ⟨by decide +kernel, by decide +kernel⟩⟩
theorem m_ty_lt {k : Nat} (h : m_ty k ≠ 0) (hk : k < 1000) : k < 62 := by
  rcases Nat.lt_or_ge k 62 with z | z
  · exact z
  · exfalso
    apply h
    rw [m_ty, if_pos hk, List.getD_eq_getElem?_getD, List.getElem?_eq_none (by rw [show m_sh.length = 62 by decide]; exact z)]
    rfl
def m_lnb (k : Nat) : Bool := decide (m_ty k = 1 → m_ln 0 k < 9) && decide (m_ln 0 k < 300000)
theorem m_ln_ok : ∀ k, k < 62 → m_lnb k = true := by decide +kernel
theorem m_ln_lt {k : Nat} (hk : k < 62) (h : m_ty k = 1) : m_ln 0 k < 9 := by
  have := m_ln_ok k hk
  simp only [m_lnb, Bool.and_eq_true, decide_eq_true_eq] at this
  exact this.1 h
theorem m_ln_big {k : Nat} (hk : k < 62) : m_ln 0 k < 300000 := by
  have := m_ln_ok k hk
  simp only [m_lnb, Bool.and_eq_true, decide_eq_true_eq] at this
  exact this.2
/-- the slots of the first t cells -/
def m_sz (k : Nat) : Nat := if m_ty k = 1 then m_CN (m_ln 0 k) else m_ln 0 k
def m_sl (t : Nat) : Nat := ((List.range t).map m_sz).sum
theorem m_sl_succ (t : Nat) : m_sl (t + 1) = m_sl t + m_sz t := by
  simp [m_sl, List.range_succ]
section WRL
variable {p : Program} {l : Launch} {e : Env} {R : Room} {s : State} {m : MethodId} {args : Array Value} {below : List Frame} {meth : Method} {c : Code} {H : Heap} {locs : List Loc} {cells slots : Nat} {Q : State → Prop}
variable {cc : ByteArray} {pc : Nat} {ls : Array Slot} {G : g_G} {st rest : List Value} {V : m_V} {t : Nat} {I : m_I} {L : m_L} {Rf : m_R} {H0 : Heap}
theorem s_get {k a b i : Nat} {own : String} (hx : p.tables.exec = Jvm.exec) (hb : c.code = cc) (hts : ∀ w ∈ m_g, w.before args s = true) (hown : s.vm.findClass own = some m.cls) (hK : g_K G s) (hW : g_Wd G (t, I, L, Rf) H)
    (hk : k < t) (h1 : m_ty k = 1) (h2 : m_ln 0 k = a) (ha : a < 9) (hbN : b < m_CN a) (hw : Jvm.Cond.fieldLink own i (m_CT a b).1 (m_CT a b).2.1 (m_CT a b).2.2.1 ∈ m_g) (hd : decode cc pc = .ok (.getfield i, 3))
    (kk : W p l e R s m args below meth c H locs cells slots Q (F0 m (pc + 3) ls ((if m_fkd a b = 2 then va_rf ((Rf k b).map (g_ad G)) else .int (I k b)) :: rest))) :
    W p l e R s m args below meth c H locs cells slots Q (F0 m pc ls (.ref (g_ad G k) :: rest)) := by
  subst h2
  have he := g_ws_at (G := G) (X := (t, I, L, Rf)) hk
  rw [g_e1 h1] at he
  exact va_get (D := G.2.2.1) hx hb hts (m_cl_in ha) hown hK.1 hW.2.2 k he (m_cl_at _ ha) b hbN (hts _ hw) (fun _ h9 => h9) (g_fs_at hbN) hd kk
theorem s_put {k a b i : Nat} {own : String} {v : Value} {ty : FieldType} {I' : m_I} {Rf' : m_R} (hx : p.tables.exec = Jvm.exec) (hb : c.code = cc) (hts : ∀ w ∈ m_g, w.before args s = true) (hown : s.vm.findClass own = some m.cls) (hK : g_K G s) (hW : g_Wd G (t, I, L, Rf) H)
    (hS : va_S (g_A G) H0 H locs) (hk : k < t) (h1 : m_ty k = 1) (h2 : m_ln 0 k = a) (ha : a < 9) (hbN : b < m_CN a) (hw : Jvm.Cond.fieldLink own i (m_CT a b).1 (m_CT a b).2.1 (m_CT a b).2.2.1 ∈ m_g) (hd : decode cc pc = .ok (.putfield i, 3))
    (hfin : (m_CT a b).2.2.2 = false ∨ (meth.name = "<init>" ∧ (m_CT a b).1 = own)) (hn : narrow (m_tyq a b) v = v) (hfit : fits (m_tyq a b) v = true)
    (hI : ∀ j, j ≠ k → I' j = I j ∧ Rf' j = Rf j) (hIb : ∀ j, j ≠ b → I' k j = I k j ∧ Rf' k j = Rf k j) (hv : (if m_fkd a b = 2 then va_rf ((Rf' k b).map (g_ad G)) else .int (I' k b)) = v)
    (kk : ∀ (H1 : Heap) (locs1 : List Loc), g_Wd G (t, I', L, Rf') H1 → va_S (g_A G) H0 H1 locs1 → W p l e R s m args below meth c H1 locs1 cells slots Q (F0 m (pc + 3) ls rest)) :
    W p l e R s m args below meth c H locs cells slots Q (F0 m pc ls (v :: .ref (g_ad G k) :: rest)) := by
  subst h2
  have he := g_ws_at (G := G) (X := (t, I, L, Rf)) hk
  rw [g_e1 h1] at he
  have hset : (g_ws G (t, I, L, Rf)).set k (g_ad G k, .inr (m_ln 0 k, (g_fs G (t, I, L, Rf) (m_ln 0 k) k).set b v)) = g_ws G (t, I', L, Rf') := by
    refine g_set rfl (fun j hj => ?_) ?_
    · simp only [g_e, g_fs, (hI j hj).1, (hI j hj).2]
    · rw [g_e1 h1, g_fs_set (X' := (t, I', L, Rf')) (fun j hj => hIb j hj) hv]
  have go : ∀ (H1 : Heap) (locs1 : List Loc), va_P G.2.2.1 m_cl ((g_ws G (t, I, L, Rf)).set k (g_ad G k, .inr (m_ln 0 k, (g_fs G (t, I, L, Rf) (m_ln 0 k) k).set b v))) H1 → H1.size = H.size → va_S (g_A G) H0 H1 locs1 → W p l e R s m args below meth c H1 locs1 cells slots Q (F0 m (pc + 3) ls rest) := by
    intro H1 locs1 hP1 hz hS1
    rw [hset] at hP1
    exact kk H1 locs1 ⟨hz.trans hW.1, hW.2.1, hP1⟩ hS1
  have hsz : ∀ (H1 : Heap), (∀ q : Nat, q ≠ g_ad G k → H1[q]? = H[q]?) → H1.size = H.size → H1.size = H.size := fun _ _ h => h
  rcases hfin with hf | ⟨hf1, hf2⟩
  · have hap := va_apart (own := own) hts (m_cl_in ha) (m_tyq (m_ln 0 k)) (fun k hk => (m_cl_ty ha hk).1) (m_cl_nm ha) hK.1 (m_cl_at _ ha)
    obtain ⟨r, g1, cell, q1, q2, q3, q4⟩ := hW.2.2 k _ he
    have hr : r = (m_CR (m_ln 0 k), m_CT (m_ln 0 k), m_CN (m_ln 0 k)) := Option.some.inj (g1.symm.trans (m_cl_at _ ha))
    subst hr
    obtain ⟨hSl, hfc, kC, hkC, hkind⟩ := hK.1.1 _ _ (m_cl_at _ ha)
    obtain ⟨cf, kf, fi, f, hi, hsl⟩ := hSl b hbN
    have hlay := hts _ (m_cl_in ha _ (u_in_lay hbN))
    unfold u_lay at hlay
    rw [if_neg (by rw [hf]; decide)] at hlay
    have hst := (u_facts hfc hkC (u_lays hts (m_cl_in ha) hbN) hi).1
    have h6 := u_store hfc hkC hkind hlay hi (m_cl_ty ha hbN).1 hn hfit
    refine W.putK hx hb (f := f) ⟨hown, hts _ hw, ⟨_, _, _, hi⟩, hst⟩ (by rw [q2]; exact h6) q1 q3 (by rw [hsl]; exact k2_hasslot (q4 b hbN)) rfl rfl hd fun H' e1 e2 e3 => ?_
    rw [hsl] at e1 ⊢
    exact go H' _ (hW.2.2.set (g_D hW.2.1) he ⟨_, m_cl_at _ ha, t_OB.to (V := updV (vp_V _) b v) ⟨_, e1, q2, q3, t_set q4 hap hbN v⟩ (fun j _ => vp_updV_set (by rw [g_fs_len]; exact hbN) v j)⟩ e3) e2 (hS.put e2 e3 ((g_D hW.2.1).2 k _ he))
  · by_cases hf : (m_CT (m_ln 0 k) b).2.2.2 = false
    · have hap := va_apart (own := own) hts (m_cl_in ha) (m_tyq (m_ln 0 k)) (fun k hk => (m_cl_ty ha hk).1) (m_cl_nm ha) hK.1 (m_cl_at _ ha)
      obtain ⟨r, g1, cell, q1, q2, q3, q4⟩ := hW.2.2 k _ he
      have hr : r = (m_CR (m_ln 0 k), m_CT (m_ln 0 k), m_CN (m_ln 0 k)) := Option.some.inj (g1.symm.trans (m_cl_at _ ha))
      subst hr
      obtain ⟨hSl, hfc, kC, hkC, hkind⟩ := hK.1.1 _ _ (m_cl_at _ ha)
      obtain ⟨cf, kf, fi, f, hi, hsl⟩ := hSl b hbN
      have hlay := hts _ (m_cl_in ha _ (u_in_lay hbN))
      unfold u_lay at hlay
      rw [if_neg (by rw [hf]; decide)] at hlay
      have hst := (u_facts hfc hkC (u_lays hts (m_cl_in ha) hbN) hi).1
      have h6 := u_store hfc hkC hkind hlay hi (m_cl_ty ha hbN).1 hn hfit
      refine W.putK hx hb (f := f) ⟨hown, hts _ hw, ⟨_, _, _, hi⟩, hst⟩ (by rw [q2]; exact h6) q1 q3 (by rw [hsl]; exact k2_hasslot (q4 b hbN)) rfl rfl hd fun H' e1 e2 e3 => ?_
      rw [hsl] at e1 ⊢
      exact go H' _ (hW.2.2.set (g_D hW.2.1) he ⟨_, m_cl_at _ ha, t_OB.to (V := updV (vp_V _) b v) ⟨_, e1, q2, q3, t_set q4 hap hbN v⟩ (fun j _ => vp_updV_set (by rw [g_fs_len]; exact hbN) v j)⟩ e3) e2 (hS.put e2 e3 ((g_D hW.2.1).2 k _ he))
    · have hf : (m_CT (m_ln 0 k) b).2.2.2 = true := by simpa using hf
      have hap := va_apart (own := own) hts (m_cl_in ha) (m_tyq (m_ln 0 k)) (fun k hk => (m_cl_ty ha hk).1) (m_cl_nm ha) hK.1 (m_cl_at _ ha)
      obtain ⟨r, g1, cell, q1, q2, q3, q4⟩ := hW.2.2 k _ he
      have hr : r = (m_CR (m_ln 0 k), m_CT (m_ln 0 k), m_CN (m_ln 0 k)) := Option.some.inj (g1.symm.trans (m_cl_at _ ha))
      subst hr
      obtain ⟨hSl, hfc, kC, hkC, hkind⟩ := hK.1.1 _ _ (m_cl_at _ ha)
      obtain ⟨cf, kf, fi, f, hi, hsl⟩ := hSl b hbN
      have hlay := hts _ (m_cl_in ha _ (u_in_lay hbN))
      unfold u_lay at hlay
      rw [if_pos hf] at hlay
      have hst := (u_facts hfc hkC (u_lays hts (m_cl_in ha) hbN) hi).1
      have hcf : m.cls = cf := by
        obtain ⟨_, _, c', _, _, _, -, -, hf', -, -, -, hown2, -⟩ := Cond.laysFinal_spec hlay
        have e1 : c' = cf := by have := hi.symm.trans hf'; simp at this; exact this.1.symm
        rw [hf2] at hown2
        rw [← e1]; exact Option.some.inj (hown.symm.trans hown2)
      have h6 := u_fits hfc hkC hkind (Or.inr hlay) hi (m_cl_ty ha hbN).1 hn hfit
      refine W.putFinK hx hb hown (hts _ hw) hi hst hcf hf1 (by rw [q2]; exact h6) q1 q3 (by rw [hsl]; exact k2_hasslot (q4 b hbN)) rfl rfl hd fun H' e1 e2 e3 => ?_
      rw [hsl] at e1 ⊢
      exact go H' _ (hW.2.2.set (g_D hW.2.1) he ⟨_, m_cl_at _ ha, t_OB.to (V := updV (vp_V _) b v) ⟨_, e1, q2, q3, t_set q4 hap hbN v⟩ (fun j _ => vp_updV_set (by rw [g_fs_len]; exact hbN) v j)⟩ e3) e2 (hS.put e2 e3 ((g_D hW.2.1).2 k _ he))
end WRL
