/-! what a method answers fits it; the law out of its run, once more -/
section RCD
variable {V : m_V} {m n : Nat} {ls st : List Value} {t t' : Nat} {I I' : m_I} {L L' : m_L} {R R' : m_R} {v : Value} {c : Nat}
def y_P (m : Nat) (x : m_N) : Prop := ∀ o, x = some o → (∀ v X, o = .inl (v, X) → m_rto m v = true) ∧ (∀ S2, o = .inr (.inl S2) → S2.1 = m) ∧ (∀ S0 K, o = .inr (.inr (S0, K)) → K.1 = m)
theorem y_Pn : y_P m none := fun o h => by cases h
theorem y_Pr {w : Option Value} {X : m_X} : y_P m (m_ret m w X) := by
  unfold m_ret
  split
  · next hq =>
    intro o h
    cases h
    exact ⟨fun v X h => (by cases h; exact hq), fun _ h => (by cases h), fun _ _ h => (by cases h)⟩
  · exact y_Pn
theorem y_Pg {X : m_X} : y_P m (m_go (m, n, ls, st, X)) := by
  intro o h
  cases h
  exact ⟨fun v X h => (by cases h), fun _ h => (by cases h; rfl), fun _ _ h => (by cases h)⟩
theorem y_Pc {X : m_X} {a b : Nat} : y_P m (m_cls m ls X a b st n) := by
  unfold m_cls
  dsimp only
  split
  · intro o h
    cases h
    exact ⟨fun v X h => (by cases h), fun _ h => (by cases h), fun _ _ h => (by cases h; rfl)⟩
  · exact y_Pn
theorem y_Px : y_P m (m_nx V (m, n, ls, st, t, I, L, R)) := by
  unfold m_nx
  dsimp only
  repeat' split
  all_goals first | exact y_Pn | exact y_Pr | exact y_Pg | exact y_Pc
theorem y_rto : ∀ (f : Nat) (S : m_S) (r : Option Value × m_X), m_ex V f S = some r → m_rto S.1 r.1 = true := by
  intro f
  induction f with
  | zero => intro S r h; simp [m_ex] at h
  | succ f ih =>
    intro S r h
    rw [m_ex] at h
    obtain ⟨m, n, ls, st, t, I, L, R⟩ := S
    cases hn : m_nx V (m, n, ls, st, t, I, L, R) with
    | none => rw [hn] at h; simp at h
    | some o =>
      obtain ⟨p1, p2, p3⟩ := y_Px (V := V) (m := m) (n := n) (ls := ls) (st := st) (t := t) (I := I) (L := L) (R := R) o hn
      rw [hn] at h
      match o, h, p1, p2, p3 with
      | .inl q, h, p1, _, _ =>
        have e : q = r := Option.some.inj h
        rw [← e]
        exact p1 q.1 q.2 rfl
      | .inr (.inl S2), h, _, p2, _ =>
        have e := p2 S2 rfl
        have := ih S2 r h
        rw [e] at this
        exact this
      | .inr (.inr (S0, K)), h, _, _, p3 =>
        have e := p3 S0 K rfl
        dsimp only at h
        cases h0 : m_ex V f S0 with
        | none => rw [h0] at h; simp at h
        | some q =>
          rw [h0] at h
          have := ih _ r h
          dsimp only at this
          rw [e] at this
          exact this
theorem y_int {As : List Value} (h : ∀ Q, WP V c 0 (m_loc c As) [] t I L R Q = Q (some v) t' I' L' R') (hr : m_rt c = some .int) : ∃ y, v = .int y := by
  have h1 : WP V c 0 (m_loc c As) [] t I L R (fun w _ _ _ _ => w = some v) := by rw [h]
  obtain ⟨f, w, X, hf, hw⟩ := h1
  have h2 := y_rto f _ _ hf
  dsimp only at h2 hw
  rw [hw] at h2
  unfold m_rto at h2
  rw [hr] at h2
  cases v <;> first | exact ⟨_, rfl⟩ | (simp at h2)
theorem y_long {As : List Value} (h : ∀ Q, WP V c 0 (m_loc c As) [] t I L R Q = Q (some v) t' I' L' R') (hr : m_rt c = some .long) : ∃ y, v = .long y := by
  have h1 : WP V c 0 (m_loc c As) [] t I L R (fun w _ _ _ _ => w = some v) := by rw [h]
  obtain ⟨f, w, X, hf, hw⟩ := h1
  have h2 := y_rto f _ _ hf
  dsimp only at h2 hw
  rw [hw] at h2
  unfold m_rto at h2
  rw [hr] at h2
  cases v <;> first | exact ⟨_, rfl⟩ | (simp at h2)
theorem y_cmp (x : Int64) : lg_cmp x x = nI 0 := by
  unfold lg_cmp
  rw [if_neg (Int64.lt_irrefl), if_pos rfl]
  rfl
end RCD
/-- the memory that the law begins with: what stands at cells that aren't made yet is free -/
def y_X0 : m_X := (0, fun _ _ => 0, fun _ _ => 0, fun k j => if k = 55 then m_RR none 28 48 55 j else none)
/-- THE LAW, out of its run on the small machine -/
theorem g_law2 {p : Program} {e : Env} {s : State} {m : MethodId} {below : List Frame} {meth : Method} {c : Code} (l : Launch) {b L : Nat} {xs : Nat → Int32} (C0 : lw_At p s m meth c b L xs)
    (hrun : ∃ (f : Nat) (X1 : m_X), m_ex (m_VV L xs) f (198, 0, m_loc 198 [.ref 1003], [], y_X0) = some (some (.int 1), X1) ∧ X1.1 ≤ 62) :
    W p l e room_1 s m #[Value.ref b] below meth c s.heap [] 0 0 (lw_Z below #[Value.ref b] s) (entryFrame m ([Value.ref b] : List Value).toArray 4) := by
  obtain ⟨hx, hb, hr, hml, hown, hts0, hX, hbl, hlocks, hgv⟩ := C0
  have hts : ∀ w ∈ m_g, w.before #[Value.ref b] s = true := fun w hw => hts0 w (m_g_sub hw)
  have hA : ∀ a : Nat, a < s.heap.size → ¬ (fun q : Nat => s.heap.size ≤ q) a := fun a h => Nat.not_le.mpr h
  obtain ⟨ta, hTa, hZa⟩ := g_static hgv hts0 hA 1000 (by decide) (by decide)
  obtain ⟨tb, hTb, hZb⟩ := g_static hgv hts0 hA 1001 (by decide) (by decide)
  obtain ⟨tc, hTc, hZc⟩ := g_static hgv hts0 hA 1002 (by decide) (by decide)
  obtain ⟨cI, hI1, hI2⟩ := g_arr hts .int (Or.inl rfl)
  obtain ⟨cZ, hz1, hz2⟩ := g_arr hts .boolean (Or.inr (Or.inl rfl))
  obtain ⟨cJ, hJ1, hJ2⟩ := g_arr hts .long (Or.inr (Or.inr rfl))
  have hKn : ∀ a : Nat, ∃ (cC : ClassId) (iS : Nat → Nat), a < 9 → u_Kn s (m_CR a) (m_CT a) (m_CN a) cC iS := by
    intro a
    by_cases ha : a < 9
    · obtain ⟨cC, iS, h⟩ := u_known (C := m_CR a) (T := m_CT a) (N := m_CN a) (n := m_CN a) hts (m_cl_in ha) (hts _ (m_inst_in ha).1)
      exact ⟨cC, iS, fun _ => h⟩
    · exact ⟨0, fun _ => 0, fun h => absurd h ha⟩
  have hc1 : ∀ a : Nat, ∃ q : ClassId × (Nat → Nat), a < 9 → u_Kn s (m_CR a) (m_CT a) (m_CN a) q.1 q.2 := fun a => by
    obtain ⟨cC, iS, h⟩ := hKn a
    exact ⟨(cC, iS), h⟩
  obtain ⟨D, hD⟩ : ∃ D : Nat → ClassId × (Nat → Nat), ∀ a, a < 9 → u_Kn s (m_CR a) (m_CT a) (m_CN a) (D a).1 (D a).2 := ⟨fun a => Classical.choose (hc1 a), fun a ha => Classical.choose_spec (hc1 a) ha⟩
  obtain ⟨G, hG⟩ : ∃ G : g_G, G = (s.heap.size, fun k => if k = 1000 then ta else if k = 1001 then tb else if k = 1002 then tc else b, (fun a => (D a).1, fun a => (D a).2), fun k => if k = 2 then cI else if k = 3 then cZ else cJ) := ⟨_, rfl⟩
  have hK : g_K G s := by
    subst hG
    refine ⟨⟨fun a q hq => ?_, fun k q hq => ?_⟩, fun w hw => va_Nw.of (m_nests_all (P := fun w => w.onTables = true) (fun _ _ _ _ _ => rfl) w hw) (hts0 w (m_nests_in w hw))⟩
    · have ha : a < 9 := (List.getElem?_eq_some_iff.mp hq).1
      rw [m_cl_at a ha] at hq
      cases hq
      exact hD a ha
    · match k, hq with
      | 0, hq => cases hq; exact ⟨hI1, hI2⟩
      | 1, hq => cases hq; exact ⟨hz1, hz2⟩
      | 2, hq => cases hq; exact ⟨hJ1, hJ2⟩
      | k + 3, hq => simp [g_tys] at hq
  have e3 : g_ad G 1003 = b := by subst hG; rfl
  have e0 : g_ad G 1000 = ta := by subst hG; rfl
  have e1 : g_ad G 1001 = tb := by subst hG; rfl
  have e2 : g_ad G 1002 = tc := by subst hG; rfl
  have eB : G.1 = s.heap.size := by subst hG; rfl
  have eA : g_A G = fun q => s.heap.size ≤ q := by subst hG; rfl
  have hO : g_O G (m_VV L xs) s s.heap := by
    refine ⟨⟨⟨by rw [e3]; exact hX, by rw [e3, eB]; exact hbl⟩, fun k h1 h2 => ?_⟩, fun k h1 h2 => ?_⟩
    · rcases (show k = 1000 ∨ k = 1001 ∨ k = 1002 by omega) with rfl | rfl | rfl
      · rw [e0, eA]; exact hTa
      · rw [e1, eA]; exact hTb
      · rw [e2, eA]; exact hTc
    · rcases (show k = 1000 ∨ k = 1001 ∨ k = 1002 by omega) with rfl | rfl | rfl
      · rw [e0, eA]; exact hZa
      · rw [e1, eA]; exact hZb
      · rw [e2, eA]; exact hZc
  have hW : g_Wd G y_X0 s.heap := ⟨by rw [eB]; rfl, by decide, fun k q hq => by simp [g_ws, y_X0] at hq⟩
  obtain ⟨f, X1, hf, hX1⟩ := hrun
  rw [lg_entry_eq]
  have hlay : (m_lay [.ref 1003]).length ≤ m_ml 198 := by decide
  have hl := g_LV_entry (G := G) (a := 198) (vs := [.ref 1003]) hlay
  have ev : [Value.ref 1003].map (g_v G) = [Value.ref b] := by
    show [Value.ref (g_ad G 1003)] = _
    rw [e3]
  rw [ev] at hl
  have hFr : g_Fr p room_1 s m #[Value.ref b] meth c G (m_VV L xs) 198 := ⟨hx, hb, hml, hr, hown, hts, fun z => absurd z (by decide), by decide, by decide, hK, hO⟩
  have hb1 : X1.1 - y_X0.1 ≤ 62 := by show X1.1 - 0 ≤ 62; omega
  have hc62 : 62 ≤ room_1.cells := by decide
  have hb2 : m_sl X1.1 - m_sl y_X0.1 ≤ room_1.slots := Nat.le_trans (Nat.sub_le _ _) (Nat.le_trans (m_sl_mono hX1) (by decide +kernel))
  refine g_sound l G (m_VV L xs) m_okall f 198 0 (m_loc 198 [.ref 1003]) [] y_X0 _ X1 hf m_oklaw p e room_1 s m #[Value.ref b] below meth c hFr s.heap [] 0 0 (lw_Z below #[Value.ref b] s) _ hW va_S.rf hl (m_loc_len hlay) ?_ ?_ (fun H1 locs1 n' e' LS1 hW1 hS1 he' hd' hend hto => ?_)
  · rw [Nat.zero_add]; exact Nat.le_trans hb1 (by decide)
  · rw [Nat.zero_add]; exact hb2
  · have hend : e'.2.1 = .ireturn := hend
    rw [hend] at hd'
    refine va_forget (fun q hq => ?_) ?_
    · have := hS1.2.2 q hq
      rw [eA] at this
      exact this
    · refine W.widen (k := room_1.cells) (n := room_1.slots) (by omega) (by omega) ?_
      exact lw_ret hx hb hr hlocks hd'
