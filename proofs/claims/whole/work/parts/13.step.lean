/-! one row, and the facts that the tables' checks give of it -/
def m_MIN : Nat := 193
def m_rowok (m n : Nat) (e : m_E) : Prop := decode (m_b m) e.1 = .ok (e.2.1, e.2.2.1) ∧ ((∀ d lo hi os, e.2.1 ≠ .tableswitch d lo hi os) → e.2.2.1 = m_len e.2.1) ∧ (∀ e2, (m_tb m)[n + 1]? = some e2 → e2.1 = e.1 + e.2.2.1) ∧ m_ckl m (m_tb m) e = true
theorem m_ckt_at {m : Nat} {tb : List m_E} : ∀ {l : List m_E} {n : Nat} {e : m_E}, m_ckt m tb l = true → l[n]? = some e → m_cke m tb e (l.drop (n + 1)) = true
  | [], _, _, _, h => by simp at h
  | e0 :: r, 0, e, h, he => by
    simp only [m_ckt, Bool.and_eq_true] at h
    rw [List.getElem?_cons_zero] at he
    cases he
    exact h.1
  | e0 :: r, n + 1, e, h, he => by
    simp only [m_ckt, Bool.and_eq_true] at h
    rw [List.getElem?_cons_succ] at he
    show m_cke m tb e (r.drop (n + 1)) = true
    exact m_ckt_at (l := r) h.2 he
theorem m_rowok_of {m n : Nat} {e : m_E} (h1 : m_ckt m (m_tb m) (m_tb m) = true) (h2 : m_ok (m_b m) (m_tb m)) (he : (m_tb m)[n]? = some e) : m_rowok m n e := by
  have h3 := m_ckt_at h1 he
  simp only [m_cke, Bool.and_eq_true] at h3
  obtain ⟨⟨h4, h5⟩, h6⟩ := h3
  refine ⟨h2 e (List.mem_of_getElem? he), fun hne => ?_, fun e2 h => ?_, h6⟩
  · split at h4
    · rename_i h
      exact absurd h (hne _ _ _ _)
    · exact of_decide_eq_true h4
  · have hd : ((m_tb m).drop (n + 1))[0]? = some e2 := by rw [List.getElem?_drop]; exact h
    cases hq : (m_tb m).drop (n + 1) with
    | nil => rw [hq] at hd; simp at hd
    | cons z r =>
      rw [hq] at hd h5
      rw [List.getElem?_cons_zero] at hd
      cases hd
      exact of_decide_eq_true h5
theorem m_pc_at {m n : Nat} {e : m_E} (h : (m_tb m)[n]? = some e) : m_pc m n = e.1 := by
  rw [m_pc, List.getD_eq_getElem?_getD, h]
  rfl
theorem m_pcl_at {m n : Nat} : m_pcl (m_tb m) n = m_pc m n := rfl
theorem m_br_off {m : Nat} {tb : List m_E} {pc len a b : Nat} {l : List Nat} {ins : ClassFile.Instr} {st : List Value} {q : Bool × List Value} (h : m_br ins st = some q) (hc : m_ckl m tb (pc, ins, len, a, b, l) = true) : (pc : Int) + m_off ins = (m_pcl tb a : Int) := by
  unfold m_br at h
  split at h
  · exact of_decide_eq_true hc
  · exact of_decide_eq_true hc
  · exact of_decide_eq_true hc
  · exact of_decide_eq_true hc
  · exact of_decide_eq_true hc
  · cases h
theorem m_mem_top {V : m_V} {ins : ClassFile.Instr} {a b : Nat} {st : List Value} {t : Nat} {I : m_I} {L : m_L} {R : m_R} {r : List Value} {X : m_X} (h : m_mem V ins a b st t I L R = some (r, X)) : t ≤ X.1 := by
  unfold m_mem at h
  split at h
  all_goals (try split at h)
  all_goals (try split at h)
  all_goals (try split at h)
  all_goals (first | (cases h; exact Nat.le_refl _) | (cases h; exact Nat.le_succ _) | cases h)
theorem m_nx_top {V : m_V} {m n : Nat} {ls st : List Value} {t : Nat} {I : m_I} {L : m_L} {R : m_R} : (∀ v X, m_nx V (m, n, ls, st, t, I, L, R) = some (.inl (v, X)) → X = (t, I, L, R)) ∧ (∀ S2, m_nx V (m, n, ls, st, t, I, L, R) = some (.inr (.inl S2)) → S2.1 = m ∧ t ≤ S2.2.2.2.2.1) ∧ (∀ S0 K, m_nx V (m, n, ls, st, t, I, L, R) = some (.inr (.inr (S0, K))) → K.1 = m ∧ K.2.1 = n + 1 ∧ K.2.2.1 = ls ∧ S0.2.2.2.2 = (t, I, L, R)) := by
  have hret : ∀ (v : Option Value), (∀ w X, m_ret m v (t, I, L, R) = some (.inl (w, X)) → X = (t, I, L, R)) ∧ (∀ S2, m_ret m v (t, I, L, R) ≠ some (.inr S2)) := by
    intro v
    refine ⟨fun w X h => ?_, fun S2 h => ?_⟩
    · unfold m_ret at h
      split at h
      · cases h; rfl
      · cases h
    · unfold m_ret at h
      split at h
      · cases h
      · cases h
  have hcls : ∀ (a b : Nat) (st' : List Value), (∀ q, m_cls m ls (t, I, L, R) a b st' n ≠ some (.inl q)) ∧ (∀ q, m_cls m ls (t, I, L, R) a b st' n ≠ some (.inr (.inl q))) ∧ (∀ S0 K, m_cls m ls (t, I, L, R) a b st' n = some (.inr (.inr (S0, K))) → K.1 = m ∧ K.2.1 = n + 1 ∧ K.2.2.1 = ls ∧ S0.2.2.2.2 = (t, I, L, R)) := by
    intro a b st'
    refine ⟨fun q h => ?_, fun q h => ?_, fun S0 K h => ?_⟩
    all_goals
      unfold m_cls at h
      dsimp only at h
      split at h
    · cases h
    · cases h
    · cases h
    · cases h
    · cases h; exact ⟨rfl, rfl, rfl, rfl⟩
    · cases h
  unfold m_nx
  dsimp only
  refine ⟨fun v X h => ?_, fun S2 h => ?_, fun S0 K h => ?_⟩
  all_goals (repeat' (split at h))
  all_goals first
    | exact (hret _).1 _ _ h
    | exact absurd h ((hret _).2 _)
    | exact absurd h ((hcls _ _ _).1 _)
    | exact absurd h ((hcls _ _ _).2.1 _)
    | exact (hcls _ _ _).2.2 _ _ h
    | (cases h; done)
    | (cases h; exact ⟨rfl, Nat.le_refl _⟩)
    | (rename_i hm; cases h; exact ⟨rfl, m_mem_top hm⟩)
theorem m_ex_top {V : m_V} : ∀ (f : Nat) (S : m_S) (r : Option Value × m_X), m_ex V f S = some r → S.2.2.2.2.1 ≤ r.2.1 := by
  intro f
  induction f with
  | zero => intro S r h; simp [m_ex] at h
  | succ f ih =>
    rintro ⟨m, n, ls, st, t, I, L, R⟩ r h
    obtain ⟨h1, h2, h3⟩ := m_nx_top (V := V) (m := m) (n := n) (ls := ls) (st := st) (t := t) (I := I) (L := L) (R := R)
    rw [m_ex] at h
    cases hn : m_nx V (m, n, ls, st, t, I, L, R) with
    | none => rw [hn] at h; simp at h
    | some o =>
      rw [hn] at h
      match o, hn, h with
      | .inl (v, X), hn, h =>
        cases h
        rw [h1 v X hn]
        exact Nat.le_refl _
      | .inr (.inl S2), hn, h => exact Nat.le_trans (h2 S2 hn).2 (ih S2 r h)
      | .inr (.inr (S0, K)), hn, h =>
        dsimp only at h
        obtain ⟨e1, e2, e3, e4⟩ := h3 S0 K hn
        cases h0 : m_ex V f S0 with
        | none => rw [h0] at h; simp at h
        | some q =>
          rw [h0] at h
          have k1 := ih S0 q h0
          rw [e4] at k1
          exact Nat.le_trans k1 (ih _ r h)
theorem m_sl_mono {a b : Nat} (h : a ≤ b) : m_sl a ≤ m_sl b := by
  induction h with
  | refl => exact Nat.le_refl _
  | step _ ih => rw [m_sl_succ]; omega
section STP
variable {p : Program} {l : Launch} {e : Env} {R : Room} {s : State} {m : MethodId} {args : Array Value} {below : List Frame} {meth : Method} {c : Code} {H : Heap} {locs : List Loc} {cells slots : Nat} {Q : State → Prop}
variable {LS : Array Slot} {G : g_G} {V : m_V} {mm : Nat}
/-- what a frame of a method of ours has -/
def g_Fr (p : Program) (R : Room) (s : State) (m : MethodId) (args : Array Value) (meth : Method) (c : Code) (G : g_G) (V : m_V) (mm : Nat) : Prop :=
  p.tables.exec = Jvm.exec ∧ c.code = m_b mm ∧ c.maxLocals = m_ml mm ∧ meth.sig.returnType = m_rt mm ∧ s.vm.findClass (m_own mm) = some m.cls ∧ (∀ w ∈ m_g, w.before args s = true) ∧ (m_kd mm = 2 → meth.name = "<init>") ∧ m_fr mm ≤ R.frames ∧ m_lo mm ≤ R.locals ∧ g_K G s ∧ g_O G V s s.heap
theorem s_mem {pc len a b : Nat} {lk : List Nat} {ins : ClassFile.Instr} {st st' : List Value} {t : Nat} {I : m_I} {L : m_L} {Rf : m_R} {X' : m_X} (hF : g_Fr p R s m args meth c G V mm) (hd : decode (m_b mm) pc = .ok (ins, m_len ins)) (hck : m_ckl mm (m_tb mm) (pc, ins, len, a, b, lk) = true)
    (hW : g_Wd G (t, I, L, Rf) H) (hS : va_S (g_A G) s.heap H locs) (h : m_mem V ins a b st t I L Rf = some (st', X')) (hc : cells + (X'.1 - t) ≤ R.cells) (hs : slots + (m_sl X'.1 - m_sl t) ≤ R.slots)
    (kk : ∀ (H1 : Heap) (locs1 : List Loc), g_Wd G X' H1 → va_S (g_A G) s.heap H1 locs1 → W p l e R s m args below meth c H1 locs1 (cells + (X'.1 - t)) (slots + (m_sl X'.1 - m_sl t)) Q (F0 m (pc + m_len ins) LS (st'.map (g_v G)))) :
    W p l e R s m args below meth c H locs cells slots Q (F0 m pc LS (st.map (g_v G))) := by
  obtain ⟨hx, hb, hml, hr, hown, hts, hin, hfr, hlo, hK, hO⟩ := hF
  have ht62 : t ≤ 62 := hW.2.1
  unfold m_mem at h
  split at h
  · -- getfield
    simp only [m_ckl, Bool.and_eq_true, decide_eq_true_eq] at hck
    obtain ⟨⟨ha, hbN⟩, hw⟩ := hck
    split at h
    · split at h
      · rename_i k r hq
        obtain ⟨g1, g2, g3⟩ := hq
        split at h
        · rename_i hf
          cases h
          simp only [Nat.sub_self, Nat.add_zero] at kk
          refine s_get hx hb hts hown hK hW g1 g2 g3 ha hbN (m_wd_in hw) hd ?_
          rw [if_pos hf]
          have := kk H locs hW hS
          rw [List.map_cons, g_rv] at this
          exact this
        · rename_i hf
          cases h
          simp only [Nat.sub_self, Nat.add_zero] at kk
          refine s_get hx hb hts hown hK hW g1 g2 g3 ha hbN (m_wd_in hw) hd ?_
          rw [if_neg hf]
          exact kk H locs hW hS
      · cases h
    · cases h
  · -- putfield
    simp only [m_ckl, Bool.and_eq_true, decide_eq_true_eq] at hck
    obtain ⟨⟨⟨ha, hbN⟩, hw⟩, hfin⟩ := hck
    have hfin2 : (m_CT a b).2.2.2 = false ∨ (meth.name = "<init>" ∧ (m_CT a b).1 = m_own mm) := hfin.imp id (fun z => ⟨hin z.1, z.2⟩)
    split at h
    · split at h
      · rename_i v k r hq
        obtain ⟨g1, g2, g3, g4⟩ := hq
        cases h
        simp only [Nat.sub_self, Nat.add_zero] at kk
        have hne : m_fkd a b ≠ 2 := by rcases g4 with g4 | ⟨g4, -⟩ <;> rw [g4] <;> decide
        have hnf : narrow (m_tyq a b) (.int v) = .int v ∧ fits (m_tyq a b) (.int v) = true := by
          rcases (m_cl_ty ha hbN).2 with ⟨z1, z2⟩ | ⟨z1, z2⟩ | ⟨z1, z2⟩
          · rw [z1]; exact ⟨rfl, rfl⟩
          · rw [z1]
            rcases g4 with g4 | ⟨-, g4⟩
            · rw [g4] at z2; cases z2
            · rcases g4 with rfl | rfl <;> exact ⟨rfl, rfl⟩
          · exact absurd z2 hne
        exact s_put (v := .int v) (ty := .int) (I' := m_sc I k (m_sc (I k) b v)) (Rf' := Rf) hx hb hts hown hK hW hS g1 g2 g3 ha hbN (m_wd_in hw) hd hfin2 hnf.1 hnf.2 (fun j hj => ⟨m_sc_ne hj, rfl⟩) (fun j hj => ⟨by rw [m_sc_self, m_sc_ne hj], rfl⟩) (by rw [if_neg hne, m_sc_self, m_sc_self]) kk
      · cases h
    · split at h
      · rename_i v k r hq
        obtain ⟨g1, g2, g3, g4⟩ := hq
        cases h
        simp only [Nat.sub_self, Nat.add_zero] at kk
        have hnf : narrow (m_tyq a b) (.ref (g_ad G v)) = .ref (g_ad G v) ∧ fits (m_tyq a b) (.ref (g_ad G v)) = true := by
          rcases (m_cl_ty ha hbN).2 with ⟨z1, z2⟩ | ⟨z1, z2⟩ | ⟨⟨y, z1⟩ | ⟨y, z1⟩, z2⟩
          · rw [g4] at z2; cases z2
          · rw [g4] at z2; cases z2
          · rw [z1]; exact ⟨rfl, rfl⟩
          · rw [z1]; exact ⟨rfl, rfl⟩
        exact s_put (v := .ref (g_ad G v)) (ty := .int) (I' := I) (Rf' := m_sc Rf k (m_sc (Rf k) b (some v))) hx hb hts hown hK hW hS g1 g2 g3 ha hbN (m_wd_in hw) hd hfin2 hnf.1 hnf.2 (fun j hj => ⟨rfl, m_sc_ne hj⟩) (fun j hj => ⟨rfl, by rw [m_sc_self, m_sc_ne hj]⟩) (by rw [if_pos g4, m_sc_self, m_sc_self]; rfl) kk
      · cases h
    · split at h
      · rename_i k r hq
        obtain ⟨g1, g2, g3, g4⟩ := hq
        cases h
        simp only [Nat.sub_self, Nat.add_zero] at kk
        have hnf : narrow (m_tyq a b) .null = .null ∧ fits (m_tyq a b) .null = true := by
          rcases (m_cl_ty ha hbN).2 with ⟨z1, z2⟩ | ⟨z1, z2⟩ | ⟨⟨y, z1⟩ | ⟨y, z1⟩, z2⟩
          · rw [g4] at z2; cases z2
          · rw [g4] at z2; cases z2
          · rw [z1]; exact ⟨rfl, rfl⟩
          · rw [z1]; exact ⟨rfl, rfl⟩
        exact s_put (v := .null) (ty := .int) (I' := I) (Rf' := m_sc Rf k (m_sc (Rf k) b none)) hx hb hts hown hK hW hS g1 g2 g3 ha hbN (m_wd_in hw) hd hfin2 hnf.1 hnf.2 (fun j hj => ⟨rfl, m_sc_ne hj⟩) (fun j hj => ⟨rfl, by rw [m_sc_self, m_sc_ne hj]⟩) (by rw [if_pos g4, m_sc_self, m_sc_self]; rfl) kk
      · cases h
    · cases h
  · -- getstatic
    simp only [m_ckl, Bool.and_eq_true, decide_eq_true_eq] at hck
    obtain ⟨⟨ha, ha2⟩, hw⟩ := hck
    cases h
    simp only [Nat.sub_self, Nat.add_zero] at kk
    exact va_gets hx hb (hO.2 a ha ha2) hS hown (hts _ (m_wd_in hw)) (fun _ h9 => h9) hd (kk H locs hW hS)
  · split at h
    · split at h
      · rename_i i k r hq
        obtain ⟨g1, g2, g3⟩ := hq
        cases h
        simp only [Nat.sub_self, Nat.add_zero] at kk
        rcases Nat.lt_or_ge k 1000 with z | z
        · have hl : m_ln V.1 k = m_ln 0 k := by simp [m_ln, z]
          rw [hl] at g3
          refine s_iald hx hb hK hW (g1.resolve_right (Nat.not_le.mpr z)) g2 g3 hd ?_
          have := kk H locs hW hS
          rw [m_lv, if_pos z] at this
          exact this
        · have hk4 : k < 1004 := by
            rcases Nat.lt_or_ge k 1004 with y | y
            · exact y
            · rw [m_ty, if_neg (by omega), if_neg (by omega)] at g2
              cases g2
          refine s_xald hx hb hO hS z hk4 g3 hd ?_
          have := kk H locs hW hS
          rw [m_lv, if_neg (by omega)] at this
          exact this
      · cases h
    · cases h
  · split at h
    · split at h
      · rename_i i k r hq
        obtain ⟨g1, g2, g3⟩ := hq
        cases h
        simp only [Nat.sub_self, Nat.add_zero] at kk
        exact s_zald hx hb hK hW g1 g2 g3 hd (kk H locs hW hS)
      · cases h
    · cases h
  · split at h
    · split at h
      · rename_i i k r hq
        obtain ⟨g1, g2, g3⟩ := hq
        cases h
        simp only [Nat.sub_self, Nat.add_zero] at kk
        exact s_lald hx hb hK hW g1 g2 g3 hd (kk H locs hW hS)
      · cases h
    · cases h
  · split at h
    · split at h
      · rename_i v i k r hq
        obtain ⟨g1, g2, g3⟩ := hq
        cases h
        simp only [Nat.sub_self, Nat.add_zero] at kk
        exact s_iast hx hb hK hW hS g1 g2 g3 hd kk
      · cases h
    · cases h
  · split at h
    · split at h
      · rename_i v i k r hq
        obtain ⟨g1, g2, g3⟩ := hq
        cases h
        simp only [Nat.sub_self, Nat.add_zero] at kk
        exact s_zast hx hb hK hW hS g1 g2 g3 hd kk
      · cases h
    · cases h
  · split at h
    · split at h
      · rename_i v i k r hq
        obtain ⟨g1, g2, g3⟩ := hq
        cases h
        simp only [Nat.sub_self, Nat.add_zero] at kk
        exact s_last hx hb hK hW hS g1 g2 g3 hd kk
      · cases h
    · cases h
  · split at h
    · split at h
      · rename_i k r hq
        obtain ⟨g1, g2⟩ := hq
        cases h
        simp only [Nat.sub_self, Nat.add_zero] at kk
        exact s_alen hx hb hK hW hO hS g1 g2 hd (kk H locs hW hS)
      · cases h
    · cases h
  · -- new
    split at h
    · rename_i i hq
      obtain ⟨g1, g2⟩ := hq
      cases h
      have h62 := m_ty_lt (k := t) (by rw [g1]; decide) (by omega)
      have h9 : a < 9 := by rw [← g2]; exact m_ln_lt h62 g1
      simp only [m_ckl, Bool.or_eq_true, Bool.and_eq_true, decide_eq_true_eq] at hck
      rcases hck with hck | ⟨-, hw⟩
      · omega
      · dsimp only at hc hs kk
        have e1 : t + 1 - t = 1 := by omega
        have e2 : m_sl (t + 1) - m_sl t = m_sz t := by rw [m_sl_succ]; omega
        rw [e1] at hc kk
        rw [e2] at hs kk
        exact s_new hx hb hown hts (m_wd_in hw) h9 hK hW hS g1 g2 hc hs hd kk
    · cases h
  · split at h
    · split at h
      · rename_i ty n r hq
        obtain ⟨g1, g2⟩ := hq
        cases h
        dsimp only at hc hs kk
        have e1 : t + 1 - t = 1 := by omega
        have e2 : m_sl (t + 1) - m_sl t = m_sz t := by rw [m_sl_succ]; omega
        rw [e1] at hc kk
        rw [e2] at hs kk
        exact s_newa hx hb hts hK hW hS g1 g2 hc hs hd kk
      · cases h
    · cases h
  · cases h
end STP
