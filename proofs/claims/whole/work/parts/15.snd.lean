/-! the small machine is sound -/
theorem m_cpw : Jvm.Cond.native arraycopyName ∈ m_g ∧ Jvm.Cond.static arraycopyName ∈ m_g ∧ Jvm.Cond.initialized "java/lang/System" ∈ m_g := by
  refine ⟨List.mem_filter.mpr ⟨by decide +kernel, by decide +kernel⟩, List.mem_filter.mpr ⟨by decide +kernel, by decide +kernel⟩, List.mem_filter.mpr ⟨by decide +kernel, by decide +kernel⟩⟩
theorem m_obw : Jvm.Cond.instanceMethod objectInit ∈ m_g ∧ Jvm.Cond.code objectInit ⟨#[0xb1]⟩ 1 none ∈ m_g := by
  refine ⟨List.mem_filter.mpr ⟨by decide +kernel, by decide +kernel⟩, List.mem_filter.mpr ⟨by decide +kernel, by decide +kernel⟩⟩
theorem m_miw : Jvm.Cond.static Lib.Math.min.name ∈ m_g ∧ Jvm.Cond.initialized "java/lang/Math" ∈ m_g ∧ Jvm.Cond.code Lib.Math.min.name Lib.Math.min.code 2 (some .int) ∈ m_g := by
  refine ⟨List.mem_filter.mpr ⟨by decide +kernel, by decide +kernel⟩, List.mem_filter.mpr ⟨by decide +kernel, by decide +kernel⟩, List.mem_filter.mpr ⟨by decide +kernel, by decide +kernel⟩⟩
theorem m_lcl_len {ins : ClassFile.Instr} {ls st ls' st' : List Value} (h : m_lcl ins ls st = some (ls', st')) : ls'.length = ls.length := by
  unfold m_lcl at h
  split at h
  · obtain ⟨r, h1, h2⟩ := Option.map_eq_some_iff.mp h
    cases h2; rfl
  · obtain ⟨r, h1, h2⟩ := Option.map_eq_some_iff.mp h
    cases h2; rfl
  · obtain ⟨r, h1, h2⟩ := Option.map_eq_some_iff.mp h
    cases h2; rfl
  · obtain ⟨r, h1, h2⟩ := Option.map_eq_some_iff.mp h
    cases h2; rfl
  · obtain ⟨r, h1, h2⟩ := Option.map_eq_some_iff.mp h
    cases h2; rfl
  · obtain ⟨r, h1, h2⟩ := Option.map_eq_some_iff.mp h
    cases h2; rfl
  · obtain ⟨x, r, l2, rfl, h1, h2⟩ := m_sti_of h
    obtain ⟨-, -, rfl⟩ := m_st1_of h1
    cases h2; simp
  · obtain ⟨x, r, l2, rfl, h1, h2⟩ := m_sti_of h
    obtain ⟨-, -, rfl⟩ := m_st1_of h1
    cases h2; simp
  · obtain ⟨x, r, l2, rfl, h1, h2⟩ := m_stl_of h
    obtain ⟨-, -, rfl⟩ := m_st2_of h1
    cases h2; simp
  · obtain ⟨x, r, l2, rfl, h1, h2⟩ := m_stl_of h
    obtain ⟨-, -, rfl⟩ := m_st2_of h1
    cases h2; simp
  · obtain ⟨x, r, l2, rfl, h1, h2⟩ := m_str_of h
    obtain ⟨-, -, rfl⟩ := m_st1_of h1
    cases h2; simp
  · obtain ⟨x, r, l2, rfl, h1, h2⟩ := m_str_of h
    obtain ⟨-, -, rfl⟩ := m_st1_of h1
    cases h2; simp
  · split at h
    · obtain ⟨l2, h1, h2⟩ := Option.map_eq_some_iff.mp h
      obtain ⟨-, -, rfl⟩ := m_st1_of h1
      cases h2; simp
    · cases h
  · cases h
theorem m_ex_some {V : m_V} {f : Nat} {m n : Nat} {ls st : List Value} {X : m_X} {r : Option Value × m_X} (h : m_ex V f (m, n, ls, st, X) = some r) : ∃ e, (m_tb m)[n]? = some e := by
  cases f with
  | zero => simp [m_ex] at h
  | succ f =>
    cases he : (m_tb m)[n]? with
    | some e => exact ⟨e, rfl⟩
    | none =>
      obtain ⟨t, I, L, R⟩ := X
      rw [m_ex] at h
      simp only [m_nx, he] at h
      cases h
/-- what goes on behind a row -/
def m_cont (V : m_V) (f : Nat) (o : m_N) : Option (Option Value × m_X) := match o with
  | none => none
  | some (.inl r) => some r
  | some (.inr (.inl S2)) => m_ex V f S2
  | some (.inr (.inr (S0, K))) => match m_ex V f S0 with
    | none => none
    | some (v, X) => m_ex V f (K.1, K.2.1, K.2.2.1, v.toList ++ K.2.2.2.1, X)
theorem m_ex_succ {V : m_V} {f : Nat} {S : m_S} : m_ex V (f + 1) S = m_cont V f (m_nx V S) := rfl
theorem m_cont_none {V : m_V} {f : Nat} {r : Option Value × m_X} : ¬ m_cont V f none = some r := fun h => by cases h
theorem m_cont_go {V : m_V} {f : Nat} {S : m_S} : m_cont V f (m_go S) = m_ex V f S := rfl
theorem g_sound (l : Launch) (G : g_G) (V : m_V) (hall : ∀ a, a < 198 → a ≠ 193 → m_okc a) : ∀ f, g_Snd l G V f := by
  intro f
  induction f with
  | zero => intro mm n ls st X v X1 h; simp [m_ex] at h
  | succ f ih =>
    rintro mm n ls st ⟨t, I, L, Rf⟩ v X1 h hok p e R s m args below meth c hF H locs cells slots Q LS hW hS hl hll hc hs K
    obtain ⟨⟨pc, ins, len, a, b, lk⟩, he⟩ := m_ex_some h
    obtain ⟨r1, r2, r3, r4⟩ := m_rowok_of hok.1 hok.2.1 he
    have hpc : m_pc mm n = pc := m_pc_at he
    rw [hpc]
    dsimp only at r1 r2 r3 r4 hc hs K
    have hF0 := hF
    obtain ⟨hx, hb, hml, hr, hown, hts, hin, hfr, hlo, hK, hO⟩ := hF
    have hLS : LS.size = m_ml mm := hl.1.trans hll
    have hmls : c.maxLocals = LS.size := hml.trans hLS.symm
    -- going on at another row of this method
    have go : ∀ (n2 : Nat) (ls2 st2 : List Value) (X2 : m_X), m_ex V f (mm, n2, ls2, st2, X2) = some (v, X1) → ∀ (H2 : Heap) (locs2 : List Loc) (LS2 : Array Slot), g_Wd G X2 H2 → va_S (g_A G) s.heap H2 locs2 → g_LV G LS2 ls2 → ls2.length = m_ml mm → t ≤ X2.1 → W p l e R s m args below meth c H2 locs2 (cells + (X2.1 - t)) (slots + (m_sl X2.1 - m_sl t)) Q (F0 m (m_pc mm n2) LS2 (st2.map (g_v G))) := by
      intro n2 ls2 st2 X2 hex H2 locs2 LS2 hW2 hS2 hl2 hll2 ht2
      have ht3 : X2.1 ≤ X1.1 := m_ex_top f _ _ hex
      have hm1 := m_sl_mono ht2
      have hm2 := m_sl_mono ht3
      have e1 : cells + (X2.1 - t) + (X1.1 - X2.1) = cells + (X1.1 - t) := by omega
      have e2 : slots + (m_sl X2.1 - m_sl t) + (m_sl X1.1 - m_sl X2.1) = slots + (m_sl X1.1 - m_sl t) := by omega
      refine ih mm n2 ls2 st2 X2 v X1 hex hok p e R s m args below meth c hF0 H2 locs2 _ _ Q LS2 hW2 hS2 hl2 hll2 (by rw [e1]; exact hc) (by rw [e2]; exact hs) ?_
      rw [e1, e2]
      exact K
    have go0 : ∀ (n2 : Nat) (ls2 st2 : List Value) (I2 : m_I) (L2 : m_L) (R2 : m_R), m_ex V f (mm, n2, ls2, st2, (t, I2, L2, R2)) = some (v, X1) → ∀ (H2 : Heap) (locs2 : List Loc) (LS2 : Array Slot), g_Wd G (t, I2, L2, R2) H2 → va_S (g_A G) s.heap H2 locs2 → g_LV G LS2 ls2 → ls2.length = m_ml mm → W p l e R s m args below meth c H2 locs2 cells slots Q (F0 m (m_pc mm n2) LS2 (st2.map (g_v G))) := by
      intro n2 ls2 st2 I2 L2 R2 hex H2 locs2 LS2 hW2 hS2 hl2 hll2
      have := go n2 ls2 st2 (t, I2, L2, R2) hex H2 locs2 LS2 hW2 hS2 hl2 hll2 (Nat.le_refl _)
      simp only [Nat.sub_self, Nat.add_zero] at this
      exact this
    -- the next row's place
    have nxt : ∀ {ls2 st2 : List Value} {X2 : m_X}, m_ex V f (mm, n + 1, ls2, st2, X2) = some (v, X1) → m_pc mm (n + 1) = pc + len := by
      intro ls2 st2 X2 hex
      obtain ⟨e2, he2⟩ := m_ex_some hex
      rw [m_pc_at he2]
      exact r3 e2 he2
    have hret : ∀ (w : Option Value) (hend : g_end w ins) (hlen : len = 1), m_cont V f (m_ret mm w (t, I, L, Rf)) = some (v, X1) → W p l e R s m args below meth c H locs cells slots Q (F0 m pc LS (w.toList.map (g_v G))) := by
      intro w hend hlen hh
      unfold m_ret at hh
      by_cases hto : m_rto mm w = true
      · rw [if_pos hto] at hh
        cases hh
        have := K H locs n _ LS hW hS he (by rw [← hlen]; exact r1) hend hto
        simp only [Nat.sub_self, Nat.add_zero] at this
        exact this
      · rw [if_neg hto] at hh
        cases hh
    have hcall : ∀ (k0 : Nat) (st' : List Value), m_cont V f (m_cls mm ls (t, I, L, Rf) a k0 st n) = some (v, X1) → ((∃ i, ins = .invokevirtual i) ∧ k0 = b + 1 ∨ (∃ i, ins = .invokestatic i) ∧ b = k0 ∨ (∃ i, ins = .invokespecial i) ∧ k0 = b + 1) → a ≠ 1000 ∧ a ≠ 1001 ∧ a ≠ 1002 → len = 3 →
        (k0 = b + 1 → ∃ k, st[b]? = some (.ref k) ∧ k < t ∧ ((∃ i, ins = .invokevirtual i) → m_ty k = 1 ∧ m_ln 0 k = m_ow a)) → W p l e R s m args below meth c H locs cells slots Q (F0 m pc LS (st.map (g_v G))) := by
      intro k0 st' hh hi ha hlen hrecv
      unfold m_cls at hh
      dsimp only at hh
      by_cases hcnd : a < 199 ∧ k0 ≤ st.length ∧ ((st.drop k0).map fun v => v.category).sum ≤ 8 ∧ (m_lay (st.take k0).reverse).length ≤ m_ml a
      · rw [if_pos hcnd] at hh
        obtain ⟨c1, c2, c3, c4⟩ := hcnd
        cases h0 : m_ex V f (a, 0, m_loc a (st.take k0).reverse, [], (t, I, L, Rf)) with
        | none => simp only [m_cont, h0] at hh; cases hh
        | some q =>
          obtain ⟨v2, X2⟩ := q
          simp only [m_cont, h0] at hh
          subst hlen
          have hX2 : t ≤ X2.1 := m_ex_top f _ _ h0
          have hX3 : X2.1 ≤ X1.1 := m_ex_top f _ _ hh
          have hm1 := m_sl_mono hX2
          have hm2 := m_sl_mono hX3
          have hr4 := r4
          have hne : a < 198 ∧ a ≠ 193 := by
            rcases hi with ⟨⟨i, rfl⟩, -⟩ | ⟨⟨i, rfl⟩, -⟩ | ⟨⟨i, rfl⟩, -⟩
            · simp only [m_ckl, m_ckr, Bool.and_eq_true, Bool.or_eq_true, decide_eq_true_eq] at hr4
              have := (hr4.resolve_left (by omega)).1.1
              exact ⟨this.1, this.2.1⟩
            · simp only [m_ckl] at hr4
              rw [if_neg ha.1, if_neg ha.2.2] at hr4
              simp only [m_ckr, Bool.and_eq_true, decide_eq_true_eq] at hr4
              exact ⟨hr4.1.1.1, hr4.1.1.2.1⟩
            · simp only [m_ckl] at hr4
              rw [if_neg ha.2.1] at hr4
              simp only [m_ckr, Bool.and_eq_true, Bool.or_eq_true, decide_eq_true_eq] at hr4
              have := (hr4.resolve_left (by omega)).1.1
              exact ⟨this.1, this.2.1⟩
          refine s_call (X := (t, I, L, Rf)) (ls := ls) (n := n) ih (hall a hne.1 hne.2) hF0 hLS hi ⟨ha.1, ha.2.1, ha.2.2, by omega⟩ r1 r4 hW hS c2 hrecv c3 c4 h0 (by dsimp only; omega) (by dsimp only; omega) (fun H2 locs2 hW2 hS2 => ?_)
          have := go (n + 1) ls _ X2 hh H2 locs2 LS hW2 hS2 hl hll hX2
          rw [nxt hh] at this
          exact this
      · rw [if_neg hcnd] at hh
        exact absurd hh m_cont_none
    rw [m_ex_succ] at h
    simp only [m_nx, he] at h
    split at h
    · -- return
      split at h
      · exact hret none rfl (r2 (fun _ _ _ _ q => by cases q)) h
      · exact absurd h m_cont_none
    · split at h
      · exact hret (some (.int _)) rfl (r2 (fun _ _ _ _ q => by cases q)) h
      · exact absurd h m_cont_none
    · split at h
      · exact hret (some (.long _)) rfl (r2 (fun _ _ _ _ q => by cases q)) h
      · exact absurd h m_cont_none
    · -- static
      rename_i i
      have hlen : len = 3 := r2 (fun _ _ _ _ q => by cases q)
      subst hlen
      by_cases ha : a = 1000
      · subst ha
        simp only [if_true] at h
        simp only [m_ckl, if_true, Bool.and_eq_true, decide_eq_true_eq] at r4
        obtain ⟨hw, hfr1, hlo1⟩ := r4
        cases hcp : m_cp t I L st with
        | none => rw [hcp] at h; exact absurd h m_cont_none
        | some q =>
          obtain ⟨r, I2, L2⟩ := q
          rw [hcp] at h
          rw [m_cont_go] at h
          have hn := nxt h
          unfold m_cp at hcp
          split at hcp
          · split at hcp
            · rename_i n0 dp d sp k r0 hq
              obtain ⟨q1, q2, q3, q4, q5, q6, q7, q8⟩ := hq
              have hsum : ((r0.map (g_v G)).map fun v => v.category).sum + 18 ≤ R.locals := by rw [g_v_sum]; omega
              split at hcp
              · rename_i hty
                cases hcp
                refine s_copyi hx hb hmls hown hts (m_wd_in hw) m_cpw hK hW hS q1 q2 hty.1 hty.2 q3 q4 q5 q6 q7 (by omega) hsum r1 (fun H2 locs2 hW2 hS2 => ?_)
                rw [← hn]
                exact go0 (n + 1) ls _ _ _ _ h H2 locs2 LS hW2 hS2 hl hll
              · split at hcp
                · rename_i hty
                  cases hcp
                  refine s_copyl hx hb hmls hown hts (m_wd_in hw) m_cpw hK hW hS q1 q2 hty.1 hty.2 q3 q4 q5 q6 q7 (by omega) hsum r1 (fun H2 locs2 hW2 hS2 => ?_)
                  rw [← hn]
                  exact go0 (n + 1) ls _ _ _ _ h H2 locs2 LS hW2 hS2 hl hll
                · cases hcp
            · cases hcp
          · cases hcp
      · rw [if_neg ha] at h
        by_cases ha2 : a = 1002
        · subst ha2
          simp only [if_true] at h
          simp only [m_ckl] at r4
          rw [if_neg (by decide), if_pos trivial] at r4
          simp only [Bool.and_eq_true, decide_eq_true_eq] at r4
          obtain ⟨hw, hfr1, hlo1⟩ := r4
          split at h
          · split at h
            · rename_i y x r0 hsum
              rw [m_cont_go] at h
              have hn := nxt h
              have hsum2 : ((r0.map (g_v G)).map fun v => v.category).sum + 13 ≤ R.locals := by rw [g_v_sum]; omega
              refine va_mmin hx hb hmls hown (hts _ (m_wd_in hw)) (hts _ m_miw.1) (hts _ m_miw.2.1) (hts _ m_miw.2.2) (by omega) hsum2 (by omega) (by omega) r1 ?_
              rw [← hn]
              exact go0 (n + 1) ls _ _ _ _ h H locs LS hW hS hl hll
            · exact absurd h m_cont_none
          · exact absurd h m_cont_none
        · rw [if_neg ha2] at h
          have ha3 : a ≠ 1001 := by
            intro q
            simp only [m_ckl] at r4
            rw [if_neg ha, if_neg ha2] at r4
            simp only [m_ckr, Bool.and_eq_true, decide_eq_true_eq] at r4
            have := r4.1.1.1
            omega
          exact hcall b st h (Or.inr (Or.inl ⟨⟨i, rfl⟩, rfl⟩)) ⟨ha, ha3, ha2⟩ rfl (fun q => absurd q (by omega))
    · -- virtual
      rename_i i
      have hlen : len = 3 := r2 (fun _ _ _ _ q => by cases q)
      split at h
      · rename_i k hk
        split at h
        · rename_i hq
          have ha : a ≠ 1000 ∧ a ≠ 1001 ∧ a ≠ 1002 := by
            simp only [m_ckl, m_ckr, Bool.and_eq_true, Bool.or_eq_true, decide_eq_true_eq] at r4
            rcases r4 with z | z
            · omega
            · have := z.1.1.1
              omega
          exact hcall (b + 1) st h (Or.inl ⟨⟨i, rfl⟩, rfl⟩) ha hlen (fun _ => ⟨k, hk, hq.1, fun _ => hq.2⟩)
        · exact absurd h m_cont_none
      · exact absurd h m_cont_none
    · -- special
      rename_i i
      have hlen : len = 3 := r2 (fun _ _ _ _ q => by cases q)
      by_cases ha : a = 1001
      · subst ha
        subst hlen
        simp only [if_true] at h
        simp only [m_ckl, if_true, Bool.and_eq_true, decide_eq_true_eq] at r4
        obtain ⟨hw, hfr1, hlo1⟩ := r4
        split at h
        · split at h
          · rename_i k r0 hsum
            rw [m_cont_go] at h
            have hn := nxt h
            refine W.objInit hx hb hown (hts _ (m_wd_in hw)) (hts _ m_obw.1) (hts _ m_obw.2) (g := F0 m pc LS ((Value.ref k :: r0).map (g_v G))) rfl hmls.symm (a := g_ad G k) (rest := r0.map (g_v G)) rfl r1 (by omega) (by rw [g_v_sum]; show 2 * 0 + _ + 12 ≤ _; omega) ?_
            have := go0 (n + 1) ls _ _ _ _ h H locs LS hW hS hl hll
            rw [hn] at this
            exact this
          · exact absurd h m_cont_none
        · exact absurd h m_cont_none
      · rw [if_neg ha] at h
        split at h
        · rename_i k hk
          split at h
          · rename_i hq
            have ha2 : a ≠ 1000 ∧ a ≠ 1002 := by
              simp only [m_ckl] at r4
              rw [if_neg ha] at r4
              simp only [m_ckr, Bool.and_eq_true, Bool.or_eq_true, decide_eq_true_eq] at r4
              rcases r4 with z | z
              · omega
              · have := z.1.1.1
                omega
            exact hcall (b + 1) st h (Or.inr (Or.inr ⟨⟨i, rfl⟩, rfl⟩)) ⟨ha2.1, ha, ha2.2⟩ hlen (fun _ => ⟨k, hk, hq, fun ⟨i2, q⟩ => by cases q⟩)
          · exact absurd h m_cont_none
        · exact absurd h m_cont_none
    · -- tableswitch
      rename_i d lo hi os
      simp only [m_ckl, Bool.and_eq_true, decide_eq_true_eq] at r4
      obtain ⟨k1, k2⟩ := r4
      split at h
      · rename_i x r0
        by_cases hq : x.toInt < lo ∨ hi < x.toInt
        · rw [if_pos hq] at h
          rw [m_cont_go] at h
          exact lv_tableOut hx hb r1 hq k1 (go0 a ls _ _ _ _ h H locs LS hW hS hl hll)
        · rw [if_neg hq] at h
          split at h
          · rename_i j hj
            rw [m_cont_go] at h
            have hlen2 : (os.toList.map (fun o => (pc : Int) + o))[(x.toInt - lo).toNat]? = (lk.map (fun j => (m_pcl (m_tb mm) j : Int)))[(x.toInt - lo).toNat]? := by rw [k2]
            rw [List.getElem?_map, List.getElem?_map, hj] at hlen2
            cases ho : os.toList[(x.toInt - lo).toNat]? with
            | none => rw [ho] at hlen2; cases hlen2
            | some o =>
              rw [ho] at hlen2
              have ho2 : os[(x.toInt - lo).toNat]? = some o := by rw [← Array.getElem?_toList]; exact ho
              have ht : (pc : Int) + o = (m_pc mm j : Int) := Option.some.inj hlen2
              exact lv_tableIn hx hb r1 (fun z => hq (Or.inl z)) (fun z => hq (Or.inr z)) ho2 ht (go0 j ls _ _ _ _ h H locs LS hW hS hl hll)
          · exact absurd h m_cont_none
      · exact absurd h m_cont_none
    · -- all else
      rename_i hn1 hn2 hn3 hn4 hn5 hn6 hn7
      have hlen : len = m_len ins := r2 (fun d lo hi os q => hn7 _ _ _ _ q)
      subst hlen
      split at h
      · rename_i r halu
        rw [m_cont_go] at h
        have hn := nxt h
        refine s_alu hx hb r1 hown (fun i hi ha => ?_) (fun i hi => ?_) halu ?_
        · subst hi
          simp only [m_ckl, Bool.or_eq_true, decide_eq_true_eq] at r4
          exact hts _ (m_wd_in (r4.resolve_left (by omega)))
        · subst hi
          exact hts _ (m_wd_in r4)
        · rw [← hn]
          exact go0 (n + 1) ls _ _ _ _ h H locs LS hW hS hl hll
      · split at h
        · rename_i l2 r hlcl
          rw [m_cont_go] at h
          have hn := nxt h
          refine s_lcl hx hb r1 hl hlcl (fun LS2 hl2 => ?_)
          rw [← hn]
          exact go0 (n + 1) l2 _ _ _ _ h H locs LS2 hW hS hl2 ((m_lcl_len hlcl).trans hll)
        · split at h
          · rename_i cd r hbr
            rw [m_cont_go] at h
            refine s_br (tgt := m_pc mm a) hx hb r1 (m_br_off hbr r4) hbr ?_
            cases cd with
            | true => exact go0 a ls _ _ _ _ h H locs LS hW hS hl hll
            | false =>
              have hn := nxt h
              simp only [Bool.false_eq_true, if_false]
              rw [← hn]
              exact go0 (n + 1) ls _ _ _ _ h H locs LS hW hS hl hll
          · split at h
            · rename_i r X2 hmem
              rw [m_cont_go] at h
              have hn := nxt h
              have ht2 := m_mem_top hmem
              have ht3 : X2.1 ≤ X1.1 := m_ex_top f _ _ h
              have hm1 := m_sl_mono ht2
              have hm2 := m_sl_mono ht3
              refine s_mem hF0 r1 r4 hW hS hmem (by omega) (by omega) (fun H2 locs2 hW2 hS2 => ?_)
              rw [← hn]
              exact go (n + 1) ls _ X2 h H2 locs2 LS hW2 hS2 hl hll ht2
            · exact absurd h m_cont_none
