/-! specs: one step of the model -/
theorem d_vh_o {h : Nat → Int32} {v z : Int32} : d_vh h v z 17 = h 17 := by
  unfold d_vh
  rw [m_sc_ne (by omega), m_sc_ne (by omega)]
theorem d_seen_o {g : Nat → Int32} {u x j : Nat} {v z : Int32} (hx : x < 8) (h : j < 150 + 154 * u + 119 ∨ 150 + 154 * u + 135 ≤ j) : d_seen g u x v z j = g j := by
  unfold d_seen
  split
  · rw [m_sc_ne (by omega), m_sc_ne (by omega)]
  · rfl
theorem d_pop_f {g : Nat → Int32} {u v fl : Nat} : ∀ {d : Nat}, (d_pop g u v fl d).1 = false → (d_pop g u v fl d).2 = g
  | 0, _ => rfl
  | d + 1, h => by
    rw [d_pop] at h ⊢
    split
    · rfl
    · split
      · rename_i h1 h2
        rw [if_neg h1, if_pos h2] at h
        cases h
      · rfl
theorem d_fok_fin {g g0 h h0 : Nat → Int32} {u x d k c : Nat} (hx : x < 8) (e1 : g (150 + 154 * u + 8) = nI d) (e2 : g (150 + 154 * u + 110) = nI k) (e3 : h 17 = nI c) (hc : c ≤ 60) (hd : d ≤ 4) (hk : k ≤ d) : d_fok (d_fin g h u x) u d k c := by
  intro _
  refine ⟨?_, hc, hd, ?_, hk, ?_⟩
  · unfold d_fin; dsimp only; rw [d_vh_o]; exact e3
  · show d_seen g u x _ _ _ = _
    rw [d_seen_o hx (by omega), e1]
  · show d_seen g u x _ _ _ = _
    rw [d_seen_o hx (by omega), e2]
theorem d_fok_2 {g h : Nat → Int32} {u d k c : Nat} : d_fok (nI 2, g, h) u d k c := fun hf => absurd hf (show ¬ nI 2 = nI 0 by decide)
theorem d_fok_1 {g h : Nat → Int32} {u d k c : Nat} : d_fok (nI 1, g, h) u d k c := fun hf => absurd hf (show ¬ nI 1 = nI 0 by decide)
theorem d_fok_rd2 {g h : Nat → Int32} {u x n d k c : Nat} (hu : u < 3) (hx : x < 8) (e1 : g (150 + 154 * u + 8) = nI d) (e2 : g (150 + 154 * u + 110) = nI k) (e3 : h 17 = nI c) (hc : c ≤ 60) (hd : d ≤ 4) (hk : k ≤ d) : d_fok (d_rd2 g h u x n d k) u d k c := by
  unfold d_rd2
  split
  · exact d_fok_fin (g0 := g) (h0 := h) hx (by rw [m_sc_ne (by omega), e1]) (by rw [m_sc_ne (by omega), e2]) e3 hc hd hk
  · split
    · unfold d_pic
      split
      · intro _
        refine ⟨?_, hc, hd, ?_, hk, ?_⟩
        · dsimp only; rw [d_vh_o]; exact e3
        · show d_seen g u x _ _ _ = _
          rw [d_seen_o hx (by omega), e1]
        · show d_seen g u x _ _ _ = _
          rw [d_seen_o hx (by omega), e2]
      · exact d_fok_2
    · split
      · split
        · exact d_fok_fin (g0 := g) (h0 := h) hx e1 e2 e3 hc hd hk
        · exact d_fok_2
      · split
        · exact d_fok_fin (g0 := g) (h0 := h) hx (by rw [m_sc_ne (by omega), e1]) (by rw [m_sc_ne (by omega), e2]) e3 hc hd hk
        · split
          · exact d_fok_2
          · exact d_fok_fin (g0 := g) (h0 := h) hx (by rw [m_sc_ne (by omega), m_sc_ne (by omega), e1]) (by rw [m_sc_ne (by omega), m_sc_ne (by omega), e2]) e3 hc hd hk
theorem d_fok_of {g h : Nat → Int32} {u x n d k c w dw kw : Nat} (hu : u < 3) (hx : x < 8) (hw : d_own g h u x w dw kw) (e1 : g (150 + 154 * u + 8) = nI d) (e2 : g (150 + 154 * u + 110) = nI k) (e3 : h 17 = nI c) (hc : c ≤ 60) (hd : d ≤ 4) (hk : k ≤ d) : d_fok (d_reads g h u x n d k w dw kw) u d k c := by
  unfold d_reads
  split
  · intro _
    exact ⟨by dsimp only; rw [d_vh_o]; exact e3, hc, hd, e1, hk, e2⟩
  · split
    · intro _
      exact ⟨by dsimp only; rw [d_vh_o]; exact e3, hc, hd, e1, hk, e2⟩
    · split
      · exact d_fok_fin (g0 := g) (h0 := h) hx (by rw [m_sc_ne (by omega), e1]) (by rw [m_sc_ne (by omega), e2]) e3 hc hd hk
      · split
        · exact d_fok_1
        · split
          · exact d_fok_1
          · unfold d_wfo
            split
            · rename_i h9
              obtain ⟨w1, w2, w3, w4, w5, w6, w7⟩ := hw h9
              split
              · refine d_fok_rd2 hu hx ?_ ?_ ?_ hc hd hk
                · show d_anew g w dw kw _ = _
                  rw [d_anew_o w5 w4 (by omega) (by omega), e1]
                · show d_anew g w dw kw _ = _
                  rw [d_anew_o w5 w4 (by omega) (by omega), e2]
                · show d_anh h 17 = _
                  unfold d_anh
                  rw [m_sc_ne (by omega), e3]
              · exact d_fok_rd2 hu hx e1 e2 e3 hc hd hk
            · exact d_fok_rd2 hu hx e1 e2 e3 hc hd hk
def d_act (J : m_I) (p kk i1 i2 i3 : Nat) (B : Int32) : Prop := J 30 p = nI kk ∧ J 32 p = B ∧ ((m_Bl 1000).getD kk 0 ≠ 0 → J 31 p = nI i1 ∧ i1 < (m_Bl 1000).getD kk 0) ∧ ((m_Bl 1001).getD kk 0 ≠ 0 → B = nI i2 ∧ i2 < (m_Bl 1001).getD kk 0) ∧ ((m_Bl 1002).getD kk 0 ≠ 0 → J 33 p = nI i3 ∧ i3 < (m_Bl 1002).getD kk 0)
def d_do (J : m_I) (L : m_L) (g h : Nat → Int32) (o : m_I) (u kk i1 i2 i3 d k c : Nat) (cx wx dx kx : Nat → Nat) (B : Int32) : d_R := match kk with
  | 0 => (nI 1, d_next (m_sc g (150 + 154 * u + 3 + i1) B) u, h, o)
  | 1 => (nI 1, d_next (m_sc g (150 + 154 * u + 3 + i1) (g (150 + 154 * u + 3 + i1) + g (150 + 154 * u + 3 + i2))) u, h, o)
  | 2 => (nI 1, d_next (m_sc g (150 + 154 * u + 3 + i1) (g (150 + 154 * u + 3 + i1) - g (150 + 154 * u + 3 + i2))) u, h, o)
  | 3 => if g (150 + 154 * u + 3 + i2) = nI 0 then d_fails g h o u (nI 4) d k c else (nI 1, d_next (m_sc g (150 + 154 * u + 3 + i1) (g (150 + 154 * u + 3 + i1) / g (150 + 154 * u + 3 + i2))) u, h, o)
  | 4 => d_rda g h o u i1 (d_reads g h u i2 (cx i2) d k (wx i2) (dx i2) (kx i2)) d k c
  | 5 => d_wra g h o u i1 (nI 1) (g (150 + 154 * u + 3 + i2)) c (wx i1) (dx i1) (kx i1) d k
  | 6 => d_wra g h o u i1 (nI 2) B c (wx i1) (dx i1) (kx i1) d k
  | 7 => d_wra g h o u i1 (nI 0) (nI 0) c (wx i1) (dx i1) (kx i1) d k
  | 8 => d_ita J L o u i1 i3 (d_reads g h u i2 (cx i2) d k (wx i2) (dx i2) (kx i2)) d k c
  | 9 => (nI 1, d_goes g u (nI i1), h, o)
  | 10 => (nI 1, (if g (150 + 154 * u + 3 + i1) = nI 0 then d_goes g u B else d_next g u), h, o)
  | 11 => d_begin g h o u i1 d k c
  | 12 => d_enda g h o u d k c
  | 13 => d_retry g h o u d k c
  | 14 => if decide (g (150 + 154 * u + 101) = nI 1) && (decide (g (150 + 154 * u + 102) = nI 2) && (d_push g u 0 i1 d).1) then (nI 1, d_next (d_push g u 0 i1 d).2 u, h, o) else d_fails g h o u (nI 5) d k c
  | 15 => if decide (g (150 + 154 * u + 101) = nI 1) && (d_pop g u 0 (d_fl g u k) d).1 then (nI 1, d_goes (d_pop g u 0 (d_fl g u k) d).2 u (nI i1), h, o) else d_fails g h o u (nI 5) d k c
  | 16 => if decide (g (150 + 154 * u + 101) = nI 1) && (decide (¬ g (150 + 154 * u + 102) = nI 3) && (d_push g u 1 i1 d).1) then (nI 1, d_next (d_push g u 1 i1 d).2 u, h, o) else d_fails g h o u (nI 5) d k c
  | 17 => if decide (g (150 + 154 * u + 101) = nI 1) && (d_pop g u 1 (d_fl g u k) d).1 then (nI 1, d_next (d_pop g u 1 (d_fl g u k) d).2 u, h, o) else d_fails g h o u (nI 5) d k c
  | 18 => if (d_push g u 2 i1 d).1 then (nI 1, d_next (d_push g u 2 i1 d).2 u, h, o) else d_fails g h o u (nI 5) d k c
  | 19 => if (d_pop g u 2 (d_fl g u k) d).1 then (nI 1, d_next (d_pop g u 2 (d_fl g u k) d).2 u, h, o) else d_fails g h o u (nI 5) d k c
  | 20 => d_fails g h o u (nI 10 + (g (150 + 154 * u + 3 + i1) &&& nI 7)) d k c
  | _ => (nI 1, d_next (m_sc g (150 + 154 * u + 3 + i1) (if g (150 + 154 * u + 3 + i1) < g (150 + 154 * u + 3 + i2) then nI 1 else nI 0)) u, h, o)
theorem d_push_f {g : Nat → Int32} {u v p d : Nat} (h : (d_push g u v p d).1 = false) : (d_push g u v p d).2 = g := by
  unfold d_push at h ⊢
  split
  · rename_i h1
    rw [if_pos h1] at h
    cases h
  · rfl
section T36
variable {V : m_V} {t m n : Nat} {ls st : List Value} {I J : m_I} {g h : Nat → Int32} {o : m_I} {L : m_L} {R : m_R} {e : Option Nat} {a b : Nat} {Q : Option Value → Nat → m_I → m_L → m_R → Prop} {u x k : Nat}
theorem w164_k0 (ht : 55 ≤ t) (hu : u < 3) (ha : m_aa a) {p i1 i2 i3 d c : Nat} {cx wx dx kx : Nat → Nat} {B : Int32} (hi : g (150 + 154 * u + 101) = nI 1 ∨ g (150 + 154 * u + 101) = nI 0) (hn : h 17 = nI c) (hn2 : c ≤ 60) (hd : d ≤ 4) (hg : g (150 + 154 * u + 8) = nI d) (hk : k ≤ d) (hg2 : g (150 + 154 * u + 110) = nI k) (hc : ∀ x, x < 8 → g (18 * x + 15) = nI (cx x) ∧ cx x ≤ 4) (hw : ∀ x, x < 8 → d_own g h u x (wx x) (dx x) (kx x)) (hs : ∀ y, y < 6 → ∃ s, s ≤ 16 ∧ J 36 y = nI s) (hp : p < 240) (hact : d_act J p 0 i1 i2 i3 B) {v3 v4 : Int32} : WP V 164 70 [.ref 27, .int (nI u), .int (nI (150 + 154 * u)), .int v3, .int v4, .int (nI p), m_u, m_u, m_u, m_u] [] t (mM J a g h o) L (m_RR e a b) Q = Q (some (.int (d_do J L g h o u 0 i1 i2 i3 d k c cx wx dx kx B).1)) t (mM J a (d_do J L g h o u 0 i1 i2 i3 d k c cx wx dx kx B).2.1 (d_do J L g h o u 0 i1 i2 i3 d k c cx wx dx kx B).2.2.1 (d_do J L g h o u 0 i1 i2 i3 d k c cx wx dx kx B).2.2.2) L (m_RR e a b) := by
  have hA := mA_of ha
  have hat := mA_lt ha ht
  obtain ⟨a0, a2, a1, ab, ac⟩ := hact
  obtain ⟨A1, ea⟩ : ∃ z, z = J 31 p := ⟨_, rfl⟩
  have h1 := (a1 (by decide)).1
  have h1l : i1 < 4 := (a1 (by decide)).2
  rw [← ea] at h1
  have pre : WP V 164 70 [.ref 27, .int (nI u), .int (nI (150 + 154 * u)), .int v3, .int v4, .int (nI p), m_u, m_u, m_u, m_u] [] t (mM J a g h o) L (m_RR e a b) Q = WP V 164 100 [.ref 27, .int (nI u), .int (nI (150 + 154 * u)), .int v3, .int v4, .int (nI p), .int (nI i1), .int B, .int (nI (150 + 154 * u + 3)), .int (if g (150 + 154 * u + 101) = nI 1 then nI 1 else nI 0)] [.int (nI 0)] t (mM J a g h o) L (m_RR e a b) Q := by
    simp (disch := first | assumption | omega | decide) only [nI_add, n_mul, n_sub, n_le, n_lt, n_eq, n_ne1, n_0, m_bl_t, m_bl_f, if_true, if_false, Nat.reduceAdd, Nat.reduceMul, Nat.reduceSub, Nat.reduceLeDiff, Nat.reduceEqDiff, Nat.add_zero, Nat.add_sub_cancel, Option.toList, List.cons_append, List.nil_append, i164_70, i164_71, i164_72, i164_73, i164_74, i164_75, i164_76, i164_77, i164_78, i164_79, i164_80, i164_81, i164_82, i164_83, i164_84, i164_85, i164_86, i164_87, i164_88, i164_89, i164_90, rv_27_0, rv_27_8, rv_27_9, mM_a, mM_j, a0, a2, ← ea, h1]
    by_cases hi1 : g (150 + 154 * u + 101) = nI 1
    · simp (disch := first | assumption | omega | decide) only [nI_add, n_mul, n_sub, n_le, n_lt, n_eq, n_ne1, n_0, m_bl_t, m_bl_f, if_true, if_false, Nat.reduceAdd, Nat.reduceMul, Nat.reduceSub, Nat.reduceLeDiff, Nat.reduceEqDiff, Nat.add_zero, Nat.add_sub_cancel, Option.toList, List.cons_append, List.nil_append, hi1, i164_91, i164_92, i164_93, i164_94, i164_95, i164_96, i164_97, i164_98, i164_99, rv_27_7, mM_j, a0, a2, ← ea, h1]
    · simp (disch := first | assumption | omega | decide) only [nI_add, n_mul, n_sub, n_le, n_lt, n_eq, n_ne1, n_0, m_bl_t, m_bl_f, if_true, if_false, Nat.reduceAdd, Nat.reduceMul, Nat.reduceSub, Nat.reduceLeDiff, Nat.reduceEqDiff, Nat.add_zero, Nat.add_sub_cancel, Option.toList, List.cons_append, List.nil_append, hi1, i164_91, i164_92, i164_93, i164_94, i164_95, i164_96, i164_97, i164_98, i164_99, rv_27_7, mM_j, a0, a2, ← ea, h1]
  rw [pre]
  simp only [d_do]
  simp (disch := first | assumption | omega | decide) only [nI_add, n_mul, n_sub, n_le, n_lt, n_eq, n_ne1, n_0, m_bl_t, m_bl_f, if_true, if_false, Nat.reduceAdd, Nat.reduceMul, Nat.reduceSub, Nat.reduceLeDiff, Nat.reduceEqDiff, Nat.add_zero, Nat.add_sub_cancel, Option.toList, List.cons_append, List.nil_append, i164_100s0, i164_101, i164_102, i164_103, i164_104, i164_105, i164_106, i164_107, i164_108, i164_109, i164_110, i164_111, rv_27_0, mM_a, mM_sa, c162, c163]
theorem w164_k1 (ht : 55 ≤ t) (hu : u < 3) (ha : m_aa a) {p i1 i2 i3 d c : Nat} {cx wx dx kx : Nat → Nat} {B : Int32} (hi : g (150 + 154 * u + 101) = nI 1 ∨ g (150 + 154 * u + 101) = nI 0) (hn : h 17 = nI c) (hn2 : c ≤ 60) (hd : d ≤ 4) (hg : g (150 + 154 * u + 8) = nI d) (hk : k ≤ d) (hg2 : g (150 + 154 * u + 110) = nI k) (hc : ∀ x, x < 8 → g (18 * x + 15) = nI (cx x) ∧ cx x ≤ 4) (hw : ∀ x, x < 8 → d_own g h u x (wx x) (dx x) (kx x)) (hs : ∀ y, y < 6 → ∃ s, s ≤ 16 ∧ J 36 y = nI s) (hp : p < 240) (hact : d_act J p 1 i1 i2 i3 B) {v3 v4 : Int32} : WP V 164 70 [.ref 27, .int (nI u), .int (nI (150 + 154 * u)), .int v3, .int v4, .int (nI p), m_u, m_u, m_u, m_u] [] t (mM J a g h o) L (m_RR e a b) Q = Q (some (.int (d_do J L g h o u 1 i1 i2 i3 d k c cx wx dx kx B).1)) t (mM J a (d_do J L g h o u 1 i1 i2 i3 d k c cx wx dx kx B).2.1 (d_do J L g h o u 1 i1 i2 i3 d k c cx wx dx kx B).2.2.1 (d_do J L g h o u 1 i1 i2 i3 d k c cx wx dx kx B).2.2.2) L (m_RR e a b) := by
  have hA := mA_of ha
  have hat := mA_lt ha ht
  obtain ⟨a0, a2, a1, ab, ac⟩ := hact
  obtain ⟨A1, ea⟩ : ∃ z, z = J 31 p := ⟨_, rfl⟩
  have h1 := (a1 (by decide)).1
  have h1l : i1 < 4 := (a1 (by decide)).2
  rw [← ea] at h1
  have hb := (ab (by decide)).1
  have hbl : i2 < 4 := (ab (by decide)).2
  have pre : WP V 164 70 [.ref 27, .int (nI u), .int (nI (150 + 154 * u)), .int v3, .int v4, .int (nI p), m_u, m_u, m_u, m_u] [] t (mM J a g h o) L (m_RR e a b) Q = WP V 164 100 [.ref 27, .int (nI u), .int (nI (150 + 154 * u)), .int v3, .int v4, .int (nI p), .int (nI i1), .int (nI i2), .int (nI (150 + 154 * u + 3)), .int (if g (150 + 154 * u + 101) = nI 1 then nI 1 else nI 0)] [.int (nI 1)] t (mM J a g h o) L (m_RR e a b) Q := by
    simp (disch := first | assumption | omega | decide) only [nI_add, n_mul, n_sub, n_le, n_lt, n_eq, n_ne1, n_0, m_bl_t, m_bl_f, if_true, if_false, Nat.reduceAdd, Nat.reduceMul, Nat.reduceSub, Nat.reduceLeDiff, Nat.reduceEqDiff, Nat.add_zero, Nat.add_sub_cancel, Option.toList, List.cons_append, List.nil_append, i164_70, i164_71, i164_72, i164_73, i164_74, i164_75, i164_76, i164_77, i164_78, i164_79, i164_80, i164_81, i164_82, i164_83, i164_84, i164_85, i164_86, i164_87, i164_88, i164_89, i164_90, rv_27_0, rv_27_8, rv_27_9, mM_a, mM_j, a0, a2, ← ea, h1, hb]
    by_cases hi1 : g (150 + 154 * u + 101) = nI 1
    · simp (disch := first | assumption | omega | decide) only [nI_add, n_mul, n_sub, n_le, n_lt, n_eq, n_ne1, n_0, m_bl_t, m_bl_f, if_true, if_false, Nat.reduceAdd, Nat.reduceMul, Nat.reduceSub, Nat.reduceLeDiff, Nat.reduceEqDiff, Nat.add_zero, Nat.add_sub_cancel, Option.toList, List.cons_append, List.nil_append, hi1, i164_91, i164_92, i164_93, i164_94, i164_95, i164_96, i164_97, i164_98, i164_99, rv_27_7, mM_j, a0, a2, ← ea, h1, hb]
    · simp (disch := first | assumption | omega | decide) only [nI_add, n_mul, n_sub, n_le, n_lt, n_eq, n_ne1, n_0, m_bl_t, m_bl_f, if_true, if_false, Nat.reduceAdd, Nat.reduceMul, Nat.reduceSub, Nat.reduceLeDiff, Nat.reduceEqDiff, Nat.add_zero, Nat.add_sub_cancel, Option.toList, List.cons_append, List.nil_append, hi1, i164_91, i164_92, i164_93, i164_94, i164_95, i164_96, i164_97, i164_98, i164_99, rv_27_7, mM_j, a0, a2, ← ea, h1, hb]
  rw [pre]
  simp only [d_do, hb]
  simp (disch := first | assumption | omega | decide) only [nI_add, n_mul, n_sub, n_le, n_lt, n_eq, n_ne1, n_0, m_bl_t, m_bl_f, if_true, if_false, Nat.reduceAdd, Nat.reduceMul, Nat.reduceSub, Nat.reduceLeDiff, Nat.reduceEqDiff, Nat.add_zero, Nat.add_sub_cancel, Option.toList, List.cons_append, List.nil_append, i164_100s1, i164_112, i164_113, i164_114, i164_115, i164_116, i164_117, i164_118, i164_119, i164_120, i164_121, i164_122, i164_123, i164_124, i164_125, i164_126, i164_127, i164_128, i164_129, i164_130, rv_27_0, mM_a, mM_sa, c162, c163]
theorem w164_k2 (ht : 55 ≤ t) (hu : u < 3) (ha : m_aa a) {p i1 i2 i3 d c : Nat} {cx wx dx kx : Nat → Nat} {B : Int32} (hi : g (150 + 154 * u + 101) = nI 1 ∨ g (150 + 154 * u + 101) = nI 0) (hn : h 17 = nI c) (hn2 : c ≤ 60) (hd : d ≤ 4) (hg : g (150 + 154 * u + 8) = nI d) (hk : k ≤ d) (hg2 : g (150 + 154 * u + 110) = nI k) (hc : ∀ x, x < 8 → g (18 * x + 15) = nI (cx x) ∧ cx x ≤ 4) (hw : ∀ x, x < 8 → d_own g h u x (wx x) (dx x) (kx x)) (hs : ∀ y, y < 6 → ∃ s, s ≤ 16 ∧ J 36 y = nI s) (hp : p < 240) (hact : d_act J p 2 i1 i2 i3 B) {v3 v4 : Int32} : WP V 164 70 [.ref 27, .int (nI u), .int (nI (150 + 154 * u)), .int v3, .int v4, .int (nI p), m_u, m_u, m_u, m_u] [] t (mM J a g h o) L (m_RR e a b) Q = Q (some (.int (d_do J L g h o u 2 i1 i2 i3 d k c cx wx dx kx B).1)) t (mM J a (d_do J L g h o u 2 i1 i2 i3 d k c cx wx dx kx B).2.1 (d_do J L g h o u 2 i1 i2 i3 d k c cx wx dx kx B).2.2.1 (d_do J L g h o u 2 i1 i2 i3 d k c cx wx dx kx B).2.2.2) L (m_RR e a b) := by
  have hA := mA_of ha
  have hat := mA_lt ha ht
  obtain ⟨a0, a2, a1, ab, ac⟩ := hact
  obtain ⟨A1, ea⟩ : ∃ z, z = J 31 p := ⟨_, rfl⟩
  have h1 := (a1 (by decide)).1
  have h1l : i1 < 4 := (a1 (by decide)).2
  rw [← ea] at h1
  have hb := (ab (by decide)).1
  have hbl : i2 < 4 := (ab (by decide)).2
  have pre : WP V 164 70 [.ref 27, .int (nI u), .int (nI (150 + 154 * u)), .int v3, .int v4, .int (nI p), m_u, m_u, m_u, m_u] [] t (mM J a g h o) L (m_RR e a b) Q = WP V 164 100 [.ref 27, .int (nI u), .int (nI (150 + 154 * u)), .int v3, .int v4, .int (nI p), .int (nI i1), .int (nI i2), .int (nI (150 + 154 * u + 3)), .int (if g (150 + 154 * u + 101) = nI 1 then nI 1 else nI 0)] [.int (nI 2)] t (mM J a g h o) L (m_RR e a b) Q := by
    simp (disch := first | assumption | omega | decide) only [nI_add, n_mul, n_sub, n_le, n_lt, n_eq, n_ne1, n_0, m_bl_t, m_bl_f, if_true, if_false, Nat.reduceAdd, Nat.reduceMul, Nat.reduceSub, Nat.reduceLeDiff, Nat.reduceEqDiff, Nat.add_zero, Nat.add_sub_cancel, Option.toList, List.cons_append, List.nil_append, i164_70, i164_71, i164_72, i164_73, i164_74, i164_75, i164_76, i164_77, i164_78, i164_79, i164_80, i164_81, i164_82, i164_83, i164_84, i164_85, i164_86, i164_87, i164_88, i164_89, i164_90, rv_27_0, rv_27_8, rv_27_9, mM_a, mM_j, a0, a2, ← ea, h1, hb]
    by_cases hi1 : g (150 + 154 * u + 101) = nI 1
    · simp (disch := first | assumption | omega | decide) only [nI_add, n_mul, n_sub, n_le, n_lt, n_eq, n_ne1, n_0, m_bl_t, m_bl_f, if_true, if_false, Nat.reduceAdd, Nat.reduceMul, Nat.reduceSub, Nat.reduceLeDiff, Nat.reduceEqDiff, Nat.add_zero, Nat.add_sub_cancel, Option.toList, List.cons_append, List.nil_append, hi1, i164_91, i164_92, i164_93, i164_94, i164_95, i164_96, i164_97, i164_98, i164_99, rv_27_7, mM_j, a0, a2, ← ea, h1, hb]
    · simp (disch := first | assumption | omega | decide) only [nI_add, n_mul, n_sub, n_le, n_lt, n_eq, n_ne1, n_0, m_bl_t, m_bl_f, if_true, if_false, Nat.reduceAdd, Nat.reduceMul, Nat.reduceSub, Nat.reduceLeDiff, Nat.reduceEqDiff, Nat.add_zero, Nat.add_sub_cancel, Option.toList, List.cons_append, List.nil_append, hi1, i164_91, i164_92, i164_93, i164_94, i164_95, i164_96, i164_97, i164_98, i164_99, rv_27_7, mM_j, a0, a2, ← ea, h1, hb]
  rw [pre]
  simp only [d_do, hb]
  simp (disch := first | assumption | omega | decide) only [nI_add, n_mul, n_sub, n_le, n_lt, n_eq, n_ne1, n_0, m_bl_t, m_bl_f, if_true, if_false, Nat.reduceAdd, Nat.reduceMul, Nat.reduceSub, Nat.reduceLeDiff, Nat.reduceEqDiff, Nat.add_zero, Nat.add_sub_cancel, Option.toList, List.cons_append, List.nil_append, i164_100s2, i164_131, i164_132, i164_133, i164_134, i164_135, i164_136, i164_137, i164_138, i164_139, i164_140, i164_141, i164_142, i164_143, i164_144, i164_145, i164_146, i164_147, i164_148, i164_149, rv_27_0, mM_a, mM_sa, c162, c163]
theorem w164_k3 (ht : 55 ≤ t) (hu : u < 3) (ha : m_aa a) {p i1 i2 i3 d c : Nat} {cx wx dx kx : Nat → Nat} {B : Int32} (hi : g (150 + 154 * u + 101) = nI 1 ∨ g (150 + 154 * u + 101) = nI 0) (hn : h 17 = nI c) (hn2 : c ≤ 60) (hd : d ≤ 4) (hg : g (150 + 154 * u + 8) = nI d) (hk : k ≤ d) (hg2 : g (150 + 154 * u + 110) = nI k) (hc : ∀ x, x < 8 → g (18 * x + 15) = nI (cx x) ∧ cx x ≤ 4) (hw : ∀ x, x < 8 → d_own g h u x (wx x) (dx x) (kx x)) (hs : ∀ y, y < 6 → ∃ s, s ≤ 16 ∧ J 36 y = nI s) (hp : p < 240) (hact : d_act J p 3 i1 i2 i3 B) {v3 v4 : Int32} : WP V 164 70 [.ref 27, .int (nI u), .int (nI (150 + 154 * u)), .int v3, .int v4, .int (nI p), m_u, m_u, m_u, m_u] [] t (mM J a g h o) L (m_RR e a b) Q = Q (some (.int (d_do J L g h o u 3 i1 i2 i3 d k c cx wx dx kx B).1)) t (mM J a (d_do J L g h o u 3 i1 i2 i3 d k c cx wx dx kx B).2.1 (d_do J L g h o u 3 i1 i2 i3 d k c cx wx dx kx B).2.2.1 (d_do J L g h o u 3 i1 i2 i3 d k c cx wx dx kx B).2.2.2) L (m_RR e a b) := by
  have hA := mA_of ha
  have hat := mA_lt ha ht
  obtain ⟨a0, a2, a1, ab, ac⟩ := hact
  obtain ⟨A1, ea⟩ : ∃ z, z = J 31 p := ⟨_, rfl⟩
  have h1 := (a1 (by decide)).1
  have h1l : i1 < 4 := (a1 (by decide)).2
  rw [← ea] at h1
  have hb := (ab (by decide)).1
  have hbl : i2 < 4 := (ab (by decide)).2
  have pre : WP V 164 70 [.ref 27, .int (nI u), .int (nI (150 + 154 * u)), .int v3, .int v4, .int (nI p), m_u, m_u, m_u, m_u] [] t (mM J a g h o) L (m_RR e a b) Q = WP V 164 100 [.ref 27, .int (nI u), .int (nI (150 + 154 * u)), .int v3, .int v4, .int (nI p), .int (nI i1), .int (nI i2), .int (nI (150 + 154 * u + 3)), .int (if g (150 + 154 * u + 101) = nI 1 then nI 1 else nI 0)] [.int (nI 3)] t (mM J a g h o) L (m_RR e a b) Q := by
    simp (disch := first | assumption | omega | decide) only [nI_add, n_mul, n_sub, n_le, n_lt, n_eq, n_ne1, n_0, m_bl_t, m_bl_f, if_true, if_false, Nat.reduceAdd, Nat.reduceMul, Nat.reduceSub, Nat.reduceLeDiff, Nat.reduceEqDiff, Nat.add_zero, Nat.add_sub_cancel, Option.toList, List.cons_append, List.nil_append, i164_70, i164_71, i164_72, i164_73, i164_74, i164_75, i164_76, i164_77, i164_78, i164_79, i164_80, i164_81, i164_82, i164_83, i164_84, i164_85, i164_86, i164_87, i164_88, i164_89, i164_90, rv_27_0, rv_27_8, rv_27_9, mM_a, mM_j, a0, a2, ← ea, h1, hb]
    by_cases hi1 : g (150 + 154 * u + 101) = nI 1
    · simp (disch := first | assumption | omega | decide) only [nI_add, n_mul, n_sub, n_le, n_lt, n_eq, n_ne1, n_0, m_bl_t, m_bl_f, if_true, if_false, Nat.reduceAdd, Nat.reduceMul, Nat.reduceSub, Nat.reduceLeDiff, Nat.reduceEqDiff, Nat.add_zero, Nat.add_sub_cancel, Option.toList, List.cons_append, List.nil_append, hi1, i164_91, i164_92, i164_93, i164_94, i164_95, i164_96, i164_97, i164_98, i164_99, rv_27_7, mM_j, a0, a2, ← ea, h1, hb]
    · simp (disch := first | assumption | omega | decide) only [nI_add, n_mul, n_sub, n_le, n_lt, n_eq, n_ne1, n_0, m_bl_t, m_bl_f, if_true, if_false, Nat.reduceAdd, Nat.reduceMul, Nat.reduceSub, Nat.reduceLeDiff, Nat.reduceEqDiff, Nat.add_zero, Nat.add_sub_cancel, Option.toList, List.cons_append, List.nil_append, hi1, i164_91, i164_92, i164_93, i164_94, i164_95, i164_96, i164_97, i164_98, i164_99, rv_27_7, mM_j, a0, a2, ← ea, h1, hb]
  rw [pre]
  simp only [d_do, hb]
  simp (disch := first | assumption | omega | decide) only [nI_add, n_mul, n_sub, n_le, n_lt, n_eq, n_ne1, n_0, m_bl_t, m_bl_f, if_true, if_false, Nat.reduceAdd, Nat.reduceMul, Nat.reduceSub, Nat.reduceLeDiff, Nat.reduceEqDiff, Nat.add_zero, Nat.add_sub_cancel, Option.toList, List.cons_append, List.nil_append, i164_100s3, i164_150, i164_151, i164_152, i164_153, i164_154, i164_155, i164_156, rv_27_0, mM_a]
  by_cases h3 : g (150 + 154 * u + 3 + i2) = nI 0
  · simp (disch := first | assumption | omega | decide) only [nI_add, n_mul, n_sub, n_le, n_lt, n_eq, n_ne1, n_0, m_bl_t, m_bl_f, if_true, if_false, Nat.reduceAdd, Nat.reduceMul, Nat.reduceSub, Nat.reduceLeDiff, Nat.reduceEqDiff, Nat.add_zero, Nat.add_sub_cancel, Option.toList, List.cons_append, List.nil_append, h3, i164_157, i164_158, i164_159, i164_160, i164_161, c155 (k := k) ht hu ha hn hn2 hd hg hk hg2]
  · simp (disch := first | assumption | omega | decide) only [nI_add, n_mul, n_sub, n_le, n_lt, n_eq, n_ne1, n_0, m_bl_t, m_bl_f, if_true, if_false, Nat.reduceAdd, Nat.reduceMul, Nat.reduceSub, Nat.reduceLeDiff, Nat.reduceEqDiff, Nat.add_zero, Nat.add_sub_cancel, Option.toList, List.cons_append, List.nil_append, h3, i164_162, i164_163, i164_164, i164_165, i164_166, i164_167, i164_168, i164_169, i164_170, i164_171, i164_172, i164_173, i164_174, i164_176, i164_177, i164_178, i164_179, i164_180, rv_27_0, mM_a, mM_sa, c162, n_0]
    rw [i164_175 (by rw [n_0]; exact h3)]
    simp (disch := first | assumption | omega | decide) only [nI_add, n_mul, n_sub, n_le, n_lt, n_eq, n_ne1, n_0, m_bl_t, m_bl_f, if_true, if_false, Nat.reduceAdd, Nat.reduceMul, Nat.reduceSub, Nat.reduceLeDiff, Nat.reduceEqDiff, Nat.add_zero, Nat.add_sub_cancel, Option.toList, List.cons_append, List.nil_append, i164_176, i164_177, i164_178, i164_179, i164_180, mM_a, mM_sa, c162]
theorem w164_k4 (ht : 55 ≤ t) (hu : u < 3) (ha : m_aa a) {p i1 i2 i3 d c : Nat} {cx wx dx kx : Nat → Nat} {B : Int32} (hi : g (150 + 154 * u + 101) = nI 1 ∨ g (150 + 154 * u + 101) = nI 0) (hn : h 17 = nI c) (hn2 : c ≤ 60) (hd : d ≤ 4) (hg : g (150 + 154 * u + 8) = nI d) (hk : k ≤ d) (hg2 : g (150 + 154 * u + 110) = nI k) (hc : ∀ x, x < 8 → g (18 * x + 15) = nI (cx x) ∧ cx x ≤ 4) (hw : ∀ x, x < 8 → d_own g h u x (wx x) (dx x) (kx x)) (hs : ∀ y, y < 6 → ∃ s, s ≤ 16 ∧ J 36 y = nI s) (hp : p < 240) (hact : d_act J p 4 i1 i2 i3 B) {v3 v4 : Int32} : WP V 164 70 [.ref 27, .int (nI u), .int (nI (150 + 154 * u)), .int v3, .int v4, .int (nI p), m_u, m_u, m_u, m_u] [] t (mM J a g h o) L (m_RR e a b) Q = Q (some (.int (d_do J L g h o u 4 i1 i2 i3 d k c cx wx dx kx B).1)) t (mM J a (d_do J L g h o u 4 i1 i2 i3 d k c cx wx dx kx B).2.1 (d_do J L g h o u 4 i1 i2 i3 d k c cx wx dx kx B).2.2.1 (d_do J L g h o u 4 i1 i2 i3 d k c cx wx dx kx B).2.2.2) L (m_RR e a b) := by
  have hA := mA_of ha
  have hat := mA_lt ha ht
  obtain ⟨a0, a2, a1, ab, ac⟩ := hact
  obtain ⟨A1, ea⟩ : ∃ z, z = J 31 p := ⟨_, rfl⟩
  have h1 := (a1 (by decide)).1
  have h1l : i1 < 4 := (a1 (by decide)).2
  rw [← ea] at h1
  have hb := (ab (by decide)).1
  have hbl : i2 < 8 := (ab (by decide)).2
  have pre : WP V 164 70 [.ref 27, .int (nI u), .int (nI (150 + 154 * u)), .int v3, .int v4, .int (nI p), m_u, m_u, m_u, m_u] [] t (mM J a g h o) L (m_RR e a b) Q = WP V 164 100 [.ref 27, .int (nI u), .int (nI (150 + 154 * u)), .int v3, .int v4, .int (nI p), .int (nI i1), .int (nI i2), .int (nI (150 + 154 * u + 3)), .int (if g (150 + 154 * u + 101) = nI 1 then nI 1 else nI 0)] [.int (nI 4)] t (mM J a g h o) L (m_RR e a b) Q := by
    simp (disch := first | assumption | omega | decide) only [nI_add, n_mul, n_sub, n_le, n_lt, n_eq, n_ne1, n_0, m_bl_t, m_bl_f, if_true, if_false, Nat.reduceAdd, Nat.reduceMul, Nat.reduceSub, Nat.reduceLeDiff, Nat.reduceEqDiff, Nat.add_zero, Nat.add_sub_cancel, Option.toList, List.cons_append, List.nil_append, i164_70, i164_71, i164_72, i164_73, i164_74, i164_75, i164_76, i164_77, i164_78, i164_79, i164_80, i164_81, i164_82, i164_83, i164_84, i164_85, i164_86, i164_87, i164_88, i164_89, i164_90, rv_27_0, rv_27_8, rv_27_9, mM_a, mM_j, a0, a2, ← ea, h1, hb]
    by_cases hi1 : g (150 + 154 * u + 101) = nI 1
    · simp (disch := first | assumption | omega | decide) only [nI_add, n_mul, n_sub, n_le, n_lt, n_eq, n_ne1, n_0, m_bl_t, m_bl_f, if_true, if_false, Nat.reduceAdd, Nat.reduceMul, Nat.reduceSub, Nat.reduceLeDiff, Nat.reduceEqDiff, Nat.add_zero, Nat.add_sub_cancel, Option.toList, List.cons_append, List.nil_append, hi1, i164_91, i164_92, i164_93, i164_94, i164_95, i164_96, i164_97, i164_98, i164_99, rv_27_7, mM_j, a0, a2, ← ea, h1, hb]
    · simp (disch := first | assumption | omega | decide) only [nI_add, n_mul, n_sub, n_le, n_lt, n_eq, n_ne1, n_0, m_bl_t, m_bl_f, if_true, if_false, Nat.reduceAdd, Nat.reduceMul, Nat.reduceSub, Nat.reduceLeDiff, Nat.reduceEqDiff, Nat.add_zero, Nat.add_sub_cancel, Option.toList, List.cons_append, List.nil_append, hi1, i164_91, i164_92, i164_93, i164_94, i164_95, i164_96, i164_97, i164_98, i164_99, rv_27_7, mM_j, a0, a2, ← ea, h1, hb]
  rw [pre]
  simp only [d_do, hb]
  simp (disch := first | assumption | omega | decide) only [nI_add, n_mul, n_sub, n_le, n_lt, n_eq, n_ne1, n_0, m_bl_t, m_bl_f, if_true, if_false, Nat.reduceAdd, Nat.reduceMul, Nat.reduceSub, Nat.reduceLeDiff, Nat.reduceEqDiff, Nat.add_zero, Nat.add_sub_cancel, Option.toList, List.cons_append, List.nil_append, i164_100s4, i164_181, i164_182, i164_183, i164_184, i164_185, i164_186, c165 ht hu ha h1l hbl (hc i2 hbl).1 (hc i2 hbl).2 hd hg hk hg2 (hw i2 hbl) (d_fok_of hu hbl (hw i2 hbl) hg hg2 hn hn2 hd hk)]
theorem w164_k5 (ht : 55 ≤ t) (hu : u < 3) (ha : m_aa a) {p i1 i2 i3 d c : Nat} {cx wx dx kx : Nat → Nat} {B : Int32} (hi : g (150 + 154 * u + 101) = nI 1 ∨ g (150 + 154 * u + 101) = nI 0) (hn : h 17 = nI c) (hn2 : c ≤ 60) (hd : d ≤ 4) (hg : g (150 + 154 * u + 8) = nI d) (hk : k ≤ d) (hg2 : g (150 + 154 * u + 110) = nI k) (hc : ∀ x, x < 8 → g (18 * x + 15) = nI (cx x) ∧ cx x ≤ 4) (hw : ∀ x, x < 8 → d_own g h u x (wx x) (dx x) (kx x)) (hs : ∀ y, y < 6 → ∃ s, s ≤ 16 ∧ J 36 y = nI s) (hp : p < 240) (hact : d_act J p 5 i1 i2 i3 B) {v3 v4 : Int32} : WP V 164 70 [.ref 27, .int (nI u), .int (nI (150 + 154 * u)), .int v3, .int v4, .int (nI p), m_u, m_u, m_u, m_u] [] t (mM J a g h o) L (m_RR e a b) Q = Q (some (.int (d_do J L g h o u 5 i1 i2 i3 d k c cx wx dx kx B).1)) t (mM J a (d_do J L g h o u 5 i1 i2 i3 d k c cx wx dx kx B).2.1 (d_do J L g h o u 5 i1 i2 i3 d k c cx wx dx kx B).2.2.1 (d_do J L g h o u 5 i1 i2 i3 d k c cx wx dx kx B).2.2.2) L (m_RR e a b) := by
  have hA := mA_of ha
  have hat := mA_lt ha ht
  obtain ⟨a0, a2, a1, ab, ac⟩ := hact
  obtain ⟨A1, ea⟩ : ∃ z, z = J 31 p := ⟨_, rfl⟩
  have h1 := (a1 (by decide)).1
  have h1l : i1 < 8 := (a1 (by decide)).2
  rw [← ea] at h1
  have hb := (ab (by decide)).1
  have hbl : i2 < 4 := (ab (by decide)).2
  have pre : WP V 164 70 [.ref 27, .int (nI u), .int (nI (150 + 154 * u)), .int v3, .int v4, .int (nI p), m_u, m_u, m_u, m_u] [] t (mM J a g h o) L (m_RR e a b) Q = WP V 164 100 [.ref 27, .int (nI u), .int (nI (150 + 154 * u)), .int v3, .int v4, .int (nI p), .int (nI i1), .int (nI i2), .int (nI (150 + 154 * u + 3)), .int (if g (150 + 154 * u + 101) = nI 1 then nI 1 else nI 0)] [.int (nI 5)] t (mM J a g h o) L (m_RR e a b) Q := by
    simp (disch := first | assumption | omega | decide) only [nI_add, n_mul, n_sub, n_le, n_lt, n_eq, n_ne1, n_0, m_bl_t, m_bl_f, if_true, if_false, Nat.reduceAdd, Nat.reduceMul, Nat.reduceSub, Nat.reduceLeDiff, Nat.reduceEqDiff, Nat.add_zero, Nat.add_sub_cancel, Option.toList, List.cons_append, List.nil_append, i164_70, i164_71, i164_72, i164_73, i164_74, i164_75, i164_76, i164_77, i164_78, i164_79, i164_80, i164_81, i164_82, i164_83, i164_84, i164_85, i164_86, i164_87, i164_88, i164_89, i164_90, rv_27_0, rv_27_8, rv_27_9, mM_a, mM_j, a0, a2, ← ea, h1, hb]
    by_cases hi1 : g (150 + 154 * u + 101) = nI 1
    · simp (disch := first | assumption | omega | decide) only [nI_add, n_mul, n_sub, n_le, n_lt, n_eq, n_ne1, n_0, m_bl_t, m_bl_f, if_true, if_false, Nat.reduceAdd, Nat.reduceMul, Nat.reduceSub, Nat.reduceLeDiff, Nat.reduceEqDiff, Nat.add_zero, Nat.add_sub_cancel, Option.toList, List.cons_append, List.nil_append, hi1, i164_91, i164_92, i164_93, i164_94, i164_95, i164_96, i164_97, i164_98, i164_99, rv_27_7, mM_j, a0, a2, ← ea, h1, hb]
    · simp (disch := first | assumption | omega | decide) only [nI_add, n_mul, n_sub, n_le, n_lt, n_eq, n_ne1, n_0, m_bl_t, m_bl_f, if_true, if_false, Nat.reduceAdd, Nat.reduceMul, Nat.reduceSub, Nat.reduceLeDiff, Nat.reduceEqDiff, Nat.add_zero, Nat.add_sub_cancel, Option.toList, List.cons_append, List.nil_append, hi1, i164_91, i164_92, i164_93, i164_94, i164_95, i164_96, i164_97, i164_98, i164_99, rv_27_7, mM_j, a0, a2, ← ea, h1, hb]
  rw [pre]
  simp only [d_do, hb]
  simp (disch := first | assumption | omega | decide) only [nI_add, n_mul, n_sub, n_le, n_lt, n_eq, n_ne1, n_0, m_bl_t, m_bl_f, if_true, if_false, Nat.reduceAdd, Nat.reduceMul, Nat.reduceSub, Nat.reduceLeDiff, Nat.reduceEqDiff, Nat.add_zero, Nat.add_sub_cancel, Option.toList, List.cons_append, List.nil_append, i164_100s5, i164_187, i164_188, i164_189, i164_190, i164_191, i164_192, i164_193, i164_194, i164_195, i164_196, i164_197, i164_198, rv_27_0, mM_a, c166 (k := k) ht hu ha h1l hn hn2 hd hg hk hg2 (hw i1 h1l)]
theorem w164_k6 (ht : 55 ≤ t) (hu : u < 3) (ha : m_aa a) {p i1 i2 i3 d c : Nat} {cx wx dx kx : Nat → Nat} {B : Int32} (hi : g (150 + 154 * u + 101) = nI 1 ∨ g (150 + 154 * u + 101) = nI 0) (hn : h 17 = nI c) (hn2 : c ≤ 60) (hd : d ≤ 4) (hg : g (150 + 154 * u + 8) = nI d) (hk : k ≤ d) (hg2 : g (150 + 154 * u + 110) = nI k) (hc : ∀ x, x < 8 → g (18 * x + 15) = nI (cx x) ∧ cx x ≤ 4) (hw : ∀ x, x < 8 → d_own g h u x (wx x) (dx x) (kx x)) (hs : ∀ y, y < 6 → ∃ s, s ≤ 16 ∧ J 36 y = nI s) (hp : p < 240) (hact : d_act J p 6 i1 i2 i3 B) {v3 v4 : Int32} : WP V 164 70 [.ref 27, .int (nI u), .int (nI (150 + 154 * u)), .int v3, .int v4, .int (nI p), m_u, m_u, m_u, m_u] [] t (mM J a g h o) L (m_RR e a b) Q = Q (some (.int (d_do J L g h o u 6 i1 i2 i3 d k c cx wx dx kx B).1)) t (mM J a (d_do J L g h o u 6 i1 i2 i3 d k c cx wx dx kx B).2.1 (d_do J L g h o u 6 i1 i2 i3 d k c cx wx dx kx B).2.2.1 (d_do J L g h o u 6 i1 i2 i3 d k c cx wx dx kx B).2.2.2) L (m_RR e a b) := by
  have hA := mA_of ha
  have hat := mA_lt ha ht
  obtain ⟨a0, a2, a1, ab, ac⟩ := hact
  obtain ⟨A1, ea⟩ : ∃ z, z = J 31 p := ⟨_, rfl⟩
  have h1 := (a1 (by decide)).1
  have h1l : i1 < 8 := (a1 (by decide)).2
  rw [← ea] at h1
  have hb := (ab (by decide)).1
  have hbl : i2 < 6 := (ab (by decide)).2
  have pre : WP V 164 70 [.ref 27, .int (nI u), .int (nI (150 + 154 * u)), .int v3, .int v4, .int (nI p), m_u, m_u, m_u, m_u] [] t (mM J a g h o) L (m_RR e a b) Q = WP V 164 100 [.ref 27, .int (nI u), .int (nI (150 + 154 * u)), .int v3, .int v4, .int (nI p), .int (nI i1), .int (nI i2), .int (nI (150 + 154 * u + 3)), .int (if g (150 + 154 * u + 101) = nI 1 then nI 1 else nI 0)] [.int (nI 6)] t (mM J a g h o) L (m_RR e a b) Q := by
    simp (disch := first | assumption | omega | decide) only [nI_add, n_mul, n_sub, n_le, n_lt, n_eq, n_ne1, n_0, m_bl_t, m_bl_f, if_true, if_false, Nat.reduceAdd, Nat.reduceMul, Nat.reduceSub, Nat.reduceLeDiff, Nat.reduceEqDiff, Nat.add_zero, Nat.add_sub_cancel, Option.toList, List.cons_append, List.nil_append, i164_70, i164_71, i164_72, i164_73, i164_74, i164_75, i164_76, i164_77, i164_78, i164_79, i164_80, i164_81, i164_82, i164_83, i164_84, i164_85, i164_86, i164_87, i164_88, i164_89, i164_90, rv_27_0, rv_27_8, rv_27_9, mM_a, mM_j, a0, a2, ← ea, h1, hb]
    by_cases hi1 : g (150 + 154 * u + 101) = nI 1
    · simp (disch := first | assumption | omega | decide) only [nI_add, n_mul, n_sub, n_le, n_lt, n_eq, n_ne1, n_0, m_bl_t, m_bl_f, if_true, if_false, Nat.reduceAdd, Nat.reduceMul, Nat.reduceSub, Nat.reduceLeDiff, Nat.reduceEqDiff, Nat.add_zero, Nat.add_sub_cancel, Option.toList, List.cons_append, List.nil_append, hi1, i164_91, i164_92, i164_93, i164_94, i164_95, i164_96, i164_97, i164_98, i164_99, rv_27_7, mM_j, a0, a2, ← ea, h1, hb]
    · simp (disch := first | assumption | omega | decide) only [nI_add, n_mul, n_sub, n_le, n_lt, n_eq, n_ne1, n_0, m_bl_t, m_bl_f, if_true, if_false, Nat.reduceAdd, Nat.reduceMul, Nat.reduceSub, Nat.reduceLeDiff, Nat.reduceEqDiff, Nat.add_zero, Nat.add_sub_cancel, Option.toList, List.cons_append, List.nil_append, hi1, i164_91, i164_92, i164_93, i164_94, i164_95, i164_96, i164_97, i164_98, i164_99, rv_27_7, mM_j, a0, a2, ← ea, h1, hb]
  rw [pre]
  simp only [d_do, hb]
  simp (disch := first | assumption | omega | decide) only [nI_add, n_mul, n_sub, n_le, n_lt, n_eq, n_ne1, n_0, m_bl_t, m_bl_f, if_true, if_false, Nat.reduceAdd, Nat.reduceMul, Nat.reduceSub, Nat.reduceLeDiff, Nat.reduceEqDiff, Nat.add_zero, Nat.add_sub_cancel, Option.toList, List.cons_append, List.nil_append, i164_100s6, i164_199, i164_200, i164_201, i164_202, i164_203, i164_204, i164_205, mM_a, c166 (k := k) ht hu ha h1l hn hn2 hd hg hk hg2 (hw i1 h1l)]
theorem w164_k7 (ht : 55 ≤ t) (hu : u < 3) (ha : m_aa a) {p i1 i2 i3 d c : Nat} {cx wx dx kx : Nat → Nat} {B : Int32} (hi : g (150 + 154 * u + 101) = nI 1 ∨ g (150 + 154 * u + 101) = nI 0) (hn : h 17 = nI c) (hn2 : c ≤ 60) (hd : d ≤ 4) (hg : g (150 + 154 * u + 8) = nI d) (hk : k ≤ d) (hg2 : g (150 + 154 * u + 110) = nI k) (hc : ∀ x, x < 8 → g (18 * x + 15) = nI (cx x) ∧ cx x ≤ 4) (hw : ∀ x, x < 8 → d_own g h u x (wx x) (dx x) (kx x)) (hs : ∀ y, y < 6 → ∃ s, s ≤ 16 ∧ J 36 y = nI s) (hp : p < 240) (hact : d_act J p 7 i1 i2 i3 B) {v3 v4 : Int32} : WP V 164 70 [.ref 27, .int (nI u), .int (nI (150 + 154 * u)), .int v3, .int v4, .int (nI p), m_u, m_u, m_u, m_u] [] t (mM J a g h o) L (m_RR e a b) Q = Q (some (.int (d_do J L g h o u 7 i1 i2 i3 d k c cx wx dx kx B).1)) t (mM J a (d_do J L g h o u 7 i1 i2 i3 d k c cx wx dx kx B).2.1 (d_do J L g h o u 7 i1 i2 i3 d k c cx wx dx kx B).2.2.1 (d_do J L g h o u 7 i1 i2 i3 d k c cx wx dx kx B).2.2.2) L (m_RR e a b) := by
  have hA := mA_of ha
  have hat := mA_lt ha ht
  obtain ⟨a0, a2, a1, ab, ac⟩ := hact
  obtain ⟨A1, ea⟩ : ∃ z, z = J 31 p := ⟨_, rfl⟩
  have h1 := (a1 (by decide)).1
  have h1l : i1 < 8 := (a1 (by decide)).2
  rw [← ea] at h1
  have pre : WP V 164 70 [.ref 27, .int (nI u), .int (nI (150 + 154 * u)), .int v3, .int v4, .int (nI p), m_u, m_u, m_u, m_u] [] t (mM J a g h o) L (m_RR e a b) Q = WP V 164 100 [.ref 27, .int (nI u), .int (nI (150 + 154 * u)), .int v3, .int v4, .int (nI p), .int (nI i1), .int B, .int (nI (150 + 154 * u + 3)), .int (if g (150 + 154 * u + 101) = nI 1 then nI 1 else nI 0)] [.int (nI 7)] t (mM J a g h o) L (m_RR e a b) Q := by
    simp (disch := first | assumption | omega | decide) only [nI_add, n_mul, n_sub, n_le, n_lt, n_eq, n_ne1, n_0, m_bl_t, m_bl_f, if_true, if_false, Nat.reduceAdd, Nat.reduceMul, Nat.reduceSub, Nat.reduceLeDiff, Nat.reduceEqDiff, Nat.add_zero, Nat.add_sub_cancel, Option.toList, List.cons_append, List.nil_append, i164_70, i164_71, i164_72, i164_73, i164_74, i164_75, i164_76, i164_77, i164_78, i164_79, i164_80, i164_81, i164_82, i164_83, i164_84, i164_85, i164_86, i164_87, i164_88, i164_89, i164_90, rv_27_0, rv_27_8, rv_27_9, mM_a, mM_j, a0, a2, ← ea, h1]
    by_cases hi1 : g (150 + 154 * u + 101) = nI 1
    · simp (disch := first | assumption | omega | decide) only [nI_add, n_mul, n_sub, n_le, n_lt, n_eq, n_ne1, n_0, m_bl_t, m_bl_f, if_true, if_false, Nat.reduceAdd, Nat.reduceMul, Nat.reduceSub, Nat.reduceLeDiff, Nat.reduceEqDiff, Nat.add_zero, Nat.add_sub_cancel, Option.toList, List.cons_append, List.nil_append, hi1, i164_91, i164_92, i164_93, i164_94, i164_95, i164_96, i164_97, i164_98, i164_99, rv_27_7, mM_j, a0, a2, ← ea, h1]
    · simp (disch := first | assumption | omega | decide) only [nI_add, n_mul, n_sub, n_le, n_lt, n_eq, n_ne1, n_0, m_bl_t, m_bl_f, if_true, if_false, Nat.reduceAdd, Nat.reduceMul, Nat.reduceSub, Nat.reduceLeDiff, Nat.reduceEqDiff, Nat.add_zero, Nat.add_sub_cancel, Option.toList, List.cons_append, List.nil_append, hi1, i164_91, i164_92, i164_93, i164_94, i164_95, i164_96, i164_97, i164_98, i164_99, rv_27_7, mM_j, a0, a2, ← ea, h1]
  rw [pre]
  simp only [d_do]
  simp (disch := first | assumption | omega | decide) only [nI_add, n_mul, n_sub, n_le, n_lt, n_eq, n_ne1, n_0, m_bl_t, m_bl_f, if_true, if_false, Nat.reduceAdd, Nat.reduceMul, Nat.reduceSub, Nat.reduceLeDiff, Nat.reduceEqDiff, Nat.add_zero, Nat.add_sub_cancel, Option.toList, List.cons_append, List.nil_append, i164_100s7, i164_206, i164_207, i164_208, i164_209, i164_210, i164_211, i164_212, mM_a, c166 (k := k) ht hu ha h1l hn hn2 hd hg hk hg2 (hw i1 h1l)]
theorem w164_k8 (ht : 55 ≤ t) (hu : u < 3) (ha : m_aa a) {p i1 i2 i3 d c : Nat} {cx wx dx kx : Nat → Nat} {B : Int32} (hi : g (150 + 154 * u + 101) = nI 1 ∨ g (150 + 154 * u + 101) = nI 0) (hn : h 17 = nI c) (hn2 : c ≤ 60) (hd : d ≤ 4) (hg : g (150 + 154 * u + 8) = nI d) (hk : k ≤ d) (hg2 : g (150 + 154 * u + 110) = nI k) (hc : ∀ x, x < 8 → g (18 * x + 15) = nI (cx x) ∧ cx x ≤ 4) (hw : ∀ x, x < 8 → d_own g h u x (wx x) (dx x) (kx x)) (hs : ∀ y, y < 6 → ∃ s, s ≤ 16 ∧ J 36 y = nI s) (hp : p < 240) (hact : d_act J p 8 i1 i2 i3 B) (hrow : (d_reads g h u i2 (cx i2) d k (wx i2) (dx i2) (kx i2)).1 = nI 0 → (d_reads g h u i2 (cx i2) d k (wx i2) (dx i2) (kx i2)).2.2 22 = nI 2 → ∃ y, y < 6 ∧ (d_reads g h u i2 (cx i2) d k (wx i2) (dx i2) (kx i2)).2.2 23 = nI y) {v3 v4 : Int32} : WP V 164 70 [.ref 27, .int (nI u), .int (nI (150 + 154 * u)), .int v3, .int v4, .int (nI p), m_u, m_u, m_u, m_u] [] t (mM J a g h o) L (m_RR e a b) Q = Q (some (.int (d_do J L g h o u 8 i1 i2 i3 d k c cx wx dx kx B).1)) t (mM J a (d_do J L g h o u 8 i1 i2 i3 d k c cx wx dx kx B).2.1 (d_do J L g h o u 8 i1 i2 i3 d k c cx wx dx kx B).2.2.1 (d_do J L g h o u 8 i1 i2 i3 d k c cx wx dx kx B).2.2.2) L (m_RR e a b) := by
  have hA := mA_of ha
  have hat := mA_lt ha ht
  obtain ⟨a0, a2, a1, ab, ac⟩ := hact
  obtain ⟨A1, ea⟩ : ∃ z, z = J 31 p := ⟨_, rfl⟩
  have h1 := (a1 (by decide)).1
  have h1l : i1 < 4 := (a1 (by decide)).2
  rw [← ea] at h1
  have hb := (ab (by decide)).1
  have hbl : i2 < 8 := (ab (by decide)).2
  have hcc := (ac (by decide)).1
  have hcl : i3 < 4 := (ac (by decide)).2
  have pre : WP V 164 70 [.ref 27, .int (nI u), .int (nI (150 + 154 * u)), .int v3, .int v4, .int (nI p), m_u, m_u, m_u, m_u] [] t (mM J a g h o) L (m_RR e a b) Q = WP V 164 100 [.ref 27, .int (nI u), .int (nI (150 + 154 * u)), .int v3, .int v4, .int (nI p), .int (nI i1), .int (nI i2), .int (nI (150 + 154 * u + 3)), .int (if g (150 + 154 * u + 101) = nI 1 then nI 1 else nI 0)] [.int (nI 8)] t (mM J a g h o) L (m_RR e a b) Q := by
    simp (disch := first | assumption | omega | decide) only [nI_add, n_mul, n_sub, n_le, n_lt, n_eq, n_ne1, n_0, m_bl_t, m_bl_f, if_true, if_false, Nat.reduceAdd, Nat.reduceMul, Nat.reduceSub, Nat.reduceLeDiff, Nat.reduceEqDiff, Nat.add_zero, Nat.add_sub_cancel, Option.toList, List.cons_append, List.nil_append, i164_70, i164_71, i164_72, i164_73, i164_74, i164_75, i164_76, i164_77, i164_78, i164_79, i164_80, i164_81, i164_82, i164_83, i164_84, i164_85, i164_86, i164_87, i164_88, i164_89, i164_90, rv_27_0, rv_27_8, rv_27_9, mM_a, mM_j, a0, a2, ← ea, h1, hb]
    by_cases hi1 : g (150 + 154 * u + 101) = nI 1
    · simp (disch := first | assumption | omega | decide) only [nI_add, n_mul, n_sub, n_le, n_lt, n_eq, n_ne1, n_0, m_bl_t, m_bl_f, if_true, if_false, Nat.reduceAdd, Nat.reduceMul, Nat.reduceSub, Nat.reduceLeDiff, Nat.reduceEqDiff, Nat.add_zero, Nat.add_sub_cancel, Option.toList, List.cons_append, List.nil_append, hi1, i164_91, i164_92, i164_93, i164_94, i164_95, i164_96, i164_97, i164_98, i164_99, rv_27_7, mM_j, a0, a2, ← ea, h1, hb]
    · simp (disch := first | assumption | omega | decide) only [nI_add, n_mul, n_sub, n_le, n_lt, n_eq, n_ne1, n_0, m_bl_t, m_bl_f, if_true, if_false, Nat.reduceAdd, Nat.reduceMul, Nat.reduceSub, Nat.reduceLeDiff, Nat.reduceEqDiff, Nat.add_zero, Nat.add_sub_cancel, Option.toList, List.cons_append, List.nil_append, hi1, i164_91, i164_92, i164_93, i164_94, i164_95, i164_96, i164_97, i164_98, i164_99, rv_27_7, mM_j, a0, a2, ← ea, h1, hb]
  rw [pre]
  simp only [d_do, hb]
  simp (disch := first | assumption | omega | decide) only [nI_add, n_mul, n_sub, n_le, n_lt, n_eq, n_ne1, n_0, m_bl_t, m_bl_f, if_true, if_false, Nat.reduceAdd, Nat.reduceMul, Nat.reduceSub, Nat.reduceLeDiff, Nat.reduceEqDiff, Nat.add_zero, Nat.add_sub_cancel, Option.toList, List.cons_append, List.nil_append, i164_100s8, i164_213, i164_214, i164_215, i164_216, i164_217, i164_218, i164_219, i164_220, i164_221, i164_222, rv_27_10, mM_j, hcc, c167 ht hu ha h1l hcl hbl (hc i2 hbl).1 (hc i2 hbl).2 hd hg hk hg2 (hw i2 hbl) (d_fok_of hu hbl (hw i2 hbl) hg hg2 hn hn2 hd hk) hrow hs]
theorem w164_k9 (ht : 55 ≤ t) (hu : u < 3) (ha : m_aa a) {p i1 i2 i3 d c : Nat} {cx wx dx kx : Nat → Nat} {B : Int32} (hi : g (150 + 154 * u + 101) = nI 1 ∨ g (150 + 154 * u + 101) = nI 0) (hn : h 17 = nI c) (hn2 : c ≤ 60) (hd : d ≤ 4) (hg : g (150 + 154 * u + 8) = nI d) (hk : k ≤ d) (hg2 : g (150 + 154 * u + 110) = nI k) (hc : ∀ x, x < 8 → g (18 * x + 15) = nI (cx x) ∧ cx x ≤ 4) (hw : ∀ x, x < 8 → d_own g h u x (wx x) (dx x) (kx x)) (hs : ∀ y, y < 6 → ∃ s, s ≤ 16 ∧ J 36 y = nI s) (hp : p < 240) (hact : d_act J p 9 i1 i2 i3 B) {v3 v4 : Int32} : WP V 164 70 [.ref 27, .int (nI u), .int (nI (150 + 154 * u)), .int v3, .int v4, .int (nI p), m_u, m_u, m_u, m_u] [] t (mM J a g h o) L (m_RR e a b) Q = Q (some (.int (d_do J L g h o u 9 i1 i2 i3 d k c cx wx dx kx B).1)) t (mM J a (d_do J L g h o u 9 i1 i2 i3 d k c cx wx dx kx B).2.1 (d_do J L g h o u 9 i1 i2 i3 d k c cx wx dx kx B).2.2.1 (d_do J L g h o u 9 i1 i2 i3 d k c cx wx dx kx B).2.2.2) L (m_RR e a b) := by
  have hA := mA_of ha
  have hat := mA_lt ha ht
  obtain ⟨a0, a2, a1, ab, ac⟩ := hact
  obtain ⟨A1, ea⟩ : ∃ z, z = J 31 p := ⟨_, rfl⟩
  have h1 := (a1 (by decide)).1
  have h1l : i1 < 41 := (a1 (by decide)).2
  rw [← ea] at h1
  have pre : WP V 164 70 [.ref 27, .int (nI u), .int (nI (150 + 154 * u)), .int v3, .int v4, .int (nI p), m_u, m_u, m_u, m_u] [] t (mM J a g h o) L (m_RR e a b) Q = WP V 164 100 [.ref 27, .int (nI u), .int (nI (150 + 154 * u)), .int v3, .int v4, .int (nI p), .int (nI i1), .int B, .int (nI (150 + 154 * u + 3)), .int (if g (150 + 154 * u + 101) = nI 1 then nI 1 else nI 0)] [.int (nI 9)] t (mM J a g h o) L (m_RR e a b) Q := by
    simp (disch := first | assumption | omega | decide) only [nI_add, n_mul, n_sub, n_le, n_lt, n_eq, n_ne1, n_0, m_bl_t, m_bl_f, if_true, if_false, Nat.reduceAdd, Nat.reduceMul, Nat.reduceSub, Nat.reduceLeDiff, Nat.reduceEqDiff, Nat.add_zero, Nat.add_sub_cancel, Option.toList, List.cons_append, List.nil_append, i164_70, i164_71, i164_72, i164_73, i164_74, i164_75, i164_76, i164_77, i164_78, i164_79, i164_80, i164_81, i164_82, i164_83, i164_84, i164_85, i164_86, i164_87, i164_88, i164_89, i164_90, rv_27_0, rv_27_8, rv_27_9, mM_a, mM_j, a0, a2, ← ea, h1]
    by_cases hi1 : g (150 + 154 * u + 101) = nI 1
    · simp (disch := first | assumption | omega | decide) only [nI_add, n_mul, n_sub, n_le, n_lt, n_eq, n_ne1, n_0, m_bl_t, m_bl_f, if_true, if_false, Nat.reduceAdd, Nat.reduceMul, Nat.reduceSub, Nat.reduceLeDiff, Nat.reduceEqDiff, Nat.add_zero, Nat.add_sub_cancel, Option.toList, List.cons_append, List.nil_append, hi1, i164_91, i164_92, i164_93, i164_94, i164_95, i164_96, i164_97, i164_98, i164_99, rv_27_7, mM_j, a0, a2, ← ea, h1]
    · simp (disch := first | assumption | omega | decide) only [nI_add, n_mul, n_sub, n_le, n_lt, n_eq, n_ne1, n_0, m_bl_t, m_bl_f, if_true, if_false, Nat.reduceAdd, Nat.reduceMul, Nat.reduceSub, Nat.reduceLeDiff, Nat.reduceEqDiff, Nat.add_zero, Nat.add_sub_cancel, Option.toList, List.cons_append, List.nil_append, hi1, i164_91, i164_92, i164_93, i164_94, i164_95, i164_96, i164_97, i164_98, i164_99, rv_27_7, mM_j, a0, a2, ← ea, h1]
  rw [pre]
  simp only [d_do]
  simp (disch := first | assumption | omega | decide) only [nI_add, n_mul, n_sub, n_le, n_lt, n_eq, n_ne1, n_0, m_bl_t, m_bl_f, if_true, if_false, Nat.reduceAdd, Nat.reduceMul, Nat.reduceSub, Nat.reduceLeDiff, Nat.reduceEqDiff, Nat.add_zero, Nat.add_sub_cancel, Option.toList, List.cons_append, List.nil_append, i164_100s9, i164_223, i164_224, i164_225, i164_226, i164_227, mM_a, mM_sa, c162, c163]
theorem w164_k10 (ht : 55 ≤ t) (hu : u < 3) (ha : m_aa a) {p i1 i2 i3 d c : Nat} {cx wx dx kx : Nat → Nat} {B : Int32} (hi : g (150 + 154 * u + 101) = nI 1 ∨ g (150 + 154 * u + 101) = nI 0) (hn : h 17 = nI c) (hn2 : c ≤ 60) (hd : d ≤ 4) (hg : g (150 + 154 * u + 8) = nI d) (hk : k ≤ d) (hg2 : g (150 + 154 * u + 110) = nI k) (hc : ∀ x, x < 8 → g (18 * x + 15) = nI (cx x) ∧ cx x ≤ 4) (hw : ∀ x, x < 8 → d_own g h u x (wx x) (dx x) (kx x)) (hs : ∀ y, y < 6 → ∃ s, s ≤ 16 ∧ J 36 y = nI s) (hp : p < 240) (hact : d_act J p 10 i1 i2 i3 B) {v3 v4 : Int32} : WP V 164 70 [.ref 27, .int (nI u), .int (nI (150 + 154 * u)), .int v3, .int v4, .int (nI p), m_u, m_u, m_u, m_u] [] t (mM J a g h o) L (m_RR e a b) Q = Q (some (.int (d_do J L g h o u 10 i1 i2 i3 d k c cx wx dx kx B).1)) t (mM J a (d_do J L g h o u 10 i1 i2 i3 d k c cx wx dx kx B).2.1 (d_do J L g h o u 10 i1 i2 i3 d k c cx wx dx kx B).2.2.1 (d_do J L g h o u 10 i1 i2 i3 d k c cx wx dx kx B).2.2.2) L (m_RR e a b) := by
  have hA := mA_of ha
  have hat := mA_lt ha ht
  obtain ⟨a0, a2, a1, ab, ac⟩ := hact
  obtain ⟨A1, ea⟩ : ∃ z, z = J 31 p := ⟨_, rfl⟩
  have h1 := (a1 (by decide)).1
  have h1l : i1 < 4 := (a1 (by decide)).2
  rw [← ea] at h1
  have hb := (ab (by decide)).1
  have hbl : i2 < 41 := (ab (by decide)).2
  have pre : WP V 164 70 [.ref 27, .int (nI u), .int (nI (150 + 154 * u)), .int v3, .int v4, .int (nI p), m_u, m_u, m_u, m_u] [] t (mM J a g h o) L (m_RR e a b) Q = WP V 164 100 [.ref 27, .int (nI u), .int (nI (150 + 154 * u)), .int v3, .int v4, .int (nI p), .int (nI i1), .int (nI i2), .int (nI (150 + 154 * u + 3)), .int (if g (150 + 154 * u + 101) = nI 1 then nI 1 else nI 0)] [.int (nI 10)] t (mM J a g h o) L (m_RR e a b) Q := by
    simp (disch := first | assumption | omega | decide) only [nI_add, n_mul, n_sub, n_le, n_lt, n_eq, n_ne1, n_0, m_bl_t, m_bl_f, if_true, if_false, Nat.reduceAdd, Nat.reduceMul, Nat.reduceSub, Nat.reduceLeDiff, Nat.reduceEqDiff, Nat.add_zero, Nat.add_sub_cancel, Option.toList, List.cons_append, List.nil_append, i164_70, i164_71, i164_72, i164_73, i164_74, i164_75, i164_76, i164_77, i164_78, i164_79, i164_80, i164_81, i164_82, i164_83, i164_84, i164_85, i164_86, i164_87, i164_88, i164_89, i164_90, rv_27_0, rv_27_8, rv_27_9, mM_a, mM_j, a0, a2, ← ea, h1, hb]
    by_cases hi1 : g (150 + 154 * u + 101) = nI 1
    · simp (disch := first | assumption | omega | decide) only [nI_add, n_mul, n_sub, n_le, n_lt, n_eq, n_ne1, n_0, m_bl_t, m_bl_f, if_true, if_false, Nat.reduceAdd, Nat.reduceMul, Nat.reduceSub, Nat.reduceLeDiff, Nat.reduceEqDiff, Nat.add_zero, Nat.add_sub_cancel, Option.toList, List.cons_append, List.nil_append, hi1, i164_91, i164_92, i164_93, i164_94, i164_95, i164_96, i164_97, i164_98, i164_99, rv_27_7, mM_j, a0, a2, ← ea, h1, hb]
    · simp (disch := first | assumption | omega | decide) only [nI_add, n_mul, n_sub, n_le, n_lt, n_eq, n_ne1, n_0, m_bl_t, m_bl_f, if_true, if_false, Nat.reduceAdd, Nat.reduceMul, Nat.reduceSub, Nat.reduceLeDiff, Nat.reduceEqDiff, Nat.add_zero, Nat.add_sub_cancel, Option.toList, List.cons_append, List.nil_append, hi1, i164_91, i164_92, i164_93, i164_94, i164_95, i164_96, i164_97, i164_98, i164_99, rv_27_7, mM_j, a0, a2, ← ea, h1, hb]
  rw [pre]
  simp only [d_do, hb]
  simp (disch := first | assumption | omega | decide) only [nI_add, n_mul, n_sub, n_le, n_lt, n_eq, n_ne1, n_0, m_bl_t, m_bl_f, if_true, if_false, Nat.reduceAdd, Nat.reduceMul, Nat.reduceSub, Nat.reduceLeDiff, Nat.reduceEqDiff, Nat.add_zero, Nat.add_sub_cancel, Option.toList, List.cons_append, List.nil_append, i164_100s10, i164_228, i164_229, i164_230, i164_231, i164_232, i164_233, i164_234, rv_27_0, mM_a]
  by_cases h3 : g (150 + 154 * u + 3 + i1) = nI 0
  · simp (disch := first | assumption | omega | decide) only [nI_add, n_mul, n_sub, n_le, n_lt, n_eq, n_ne1, n_0, m_bl_t, m_bl_f, if_true, if_false, Nat.reduceAdd, Nat.reduceMul, Nat.reduceSub, Nat.reduceLeDiff, Nat.reduceEqDiff, Nat.add_zero, Nat.add_sub_cancel, Option.toList, List.cons_append, List.nil_append, h3, i164_235, i164_236, i164_237, i164_238, i164_239, i164_243, c163]
  · simp (disch := first | assumption | omega | decide) only [nI_add, n_mul, n_sub, n_le, n_lt, n_eq, n_ne1, n_0, m_bl_t, m_bl_f, if_true, if_false, Nat.reduceAdd, Nat.reduceMul, Nat.reduceSub, Nat.reduceLeDiff, Nat.reduceEqDiff, Nat.add_zero, Nat.add_sub_cancel, Option.toList, List.cons_append, List.nil_append, h3, i164_240, i164_241, i164_242, i164_243, c162]
theorem w164_k11 (ht : 55 ≤ t) (hu : u < 3) (ha : m_aa a) {p i1 i2 i3 d c : Nat} {cx wx dx kx : Nat → Nat} {B : Int32} (hi : g (150 + 154 * u + 101) = nI 1 ∨ g (150 + 154 * u + 101) = nI 0) (hn : h 17 = nI c) (hn2 : c ≤ 60) (hd : d ≤ 4) (hg : g (150 + 154 * u + 8) = nI d) (hk : k ≤ d) (hg2 : g (150 + 154 * u + 110) = nI k) (hc : ∀ x, x < 8 → g (18 * x + 15) = nI (cx x) ∧ cx x ≤ 4) (hw : ∀ x, x < 8 → d_own g h u x (wx x) (dx x) (kx x)) (hs : ∀ y, y < 6 → ∃ s, s ≤ 16 ∧ J 36 y = nI s) (hp : p < 240) (hact : d_act J p 11 i1 i2 i3 B) {v3 v4 : Int32} : WP V 164 70 [.ref 27, .int (nI u), .int (nI (150 + 154 * u)), .int v3, .int v4, .int (nI p), m_u, m_u, m_u, m_u] [] t (mM J a g h o) L (m_RR e a b) Q = Q (some (.int (d_do J L g h o u 11 i1 i2 i3 d k c cx wx dx kx B).1)) t (mM J a (d_do J L g h o u 11 i1 i2 i3 d k c cx wx dx kx B).2.1 (d_do J L g h o u 11 i1 i2 i3 d k c cx wx dx kx B).2.2.1 (d_do J L g h o u 11 i1 i2 i3 d k c cx wx dx kx B).2.2.2) L (m_RR e a b) := by
  have hA := mA_of ha
  have hat := mA_lt ha ht
  obtain ⟨a0, a2, a1, ab, ac⟩ := hact
  obtain ⟨A1, ea⟩ : ∃ z, z = J 31 p := ⟨_, rfl⟩
  have h1 := (a1 (by decide)).1
  have h1l : i1 < 4 := (a1 (by decide)).2
  rw [← ea] at h1
  have pre : WP V 164 70 [.ref 27, .int (nI u), .int (nI (150 + 154 * u)), .int v3, .int v4, .int (nI p), m_u, m_u, m_u, m_u] [] t (mM J a g h o) L (m_RR e a b) Q = WP V 164 100 [.ref 27, .int (nI u), .int (nI (150 + 154 * u)), .int v3, .int v4, .int (nI p), .int (nI i1), .int B, .int (nI (150 + 154 * u + 3)), .int (if g (150 + 154 * u + 101) = nI 1 then nI 1 else nI 0)] [.int (nI 11)] t (mM J a g h o) L (m_RR e a b) Q := by
    simp (disch := first | assumption | omega | decide) only [nI_add, n_mul, n_sub, n_le, n_lt, n_eq, n_ne1, n_0, m_bl_t, m_bl_f, if_true, if_false, Nat.reduceAdd, Nat.reduceMul, Nat.reduceSub, Nat.reduceLeDiff, Nat.reduceEqDiff, Nat.add_zero, Nat.add_sub_cancel, Option.toList, List.cons_append, List.nil_append, i164_70, i164_71, i164_72, i164_73, i164_74, i164_75, i164_76, i164_77, i164_78, i164_79, i164_80, i164_81, i164_82, i164_83, i164_84, i164_85, i164_86, i164_87, i164_88, i164_89, i164_90, rv_27_0, rv_27_8, rv_27_9, mM_a, mM_j, a0, a2, ← ea, h1]
    by_cases hi1 : g (150 + 154 * u + 101) = nI 1
    · simp (disch := first | assumption | omega | decide) only [nI_add, n_mul, n_sub, n_le, n_lt, n_eq, n_ne1, n_0, m_bl_t, m_bl_f, if_true, if_false, Nat.reduceAdd, Nat.reduceMul, Nat.reduceSub, Nat.reduceLeDiff, Nat.reduceEqDiff, Nat.add_zero, Nat.add_sub_cancel, Option.toList, List.cons_append, List.nil_append, hi1, i164_91, i164_92, i164_93, i164_94, i164_95, i164_96, i164_97, i164_98, i164_99, rv_27_7, mM_j, a0, a2, ← ea, h1]
    · simp (disch := first | assumption | omega | decide) only [nI_add, n_mul, n_sub, n_le, n_lt, n_eq, n_ne1, n_0, m_bl_t, m_bl_f, if_true, if_false, Nat.reduceAdd, Nat.reduceMul, Nat.reduceSub, Nat.reduceLeDiff, Nat.reduceEqDiff, Nat.add_zero, Nat.add_sub_cancel, Option.toList, List.cons_append, List.nil_append, hi1, i164_91, i164_92, i164_93, i164_94, i164_95, i164_96, i164_97, i164_98, i164_99, rv_27_7, mM_j, a0, a2, ← ea, h1]
  rw [pre]
  simp only [d_do]
  simp (disch := first | assumption | omega | decide) only [nI_add, n_mul, n_sub, n_le, n_lt, n_eq, n_ne1, n_0, m_bl_t, m_bl_f, if_true, if_false, Nat.reduceAdd, Nat.reduceMul, Nat.reduceSub, Nat.reduceLeDiff, Nat.reduceEqDiff, Nat.add_zero, Nat.add_sub_cancel, Option.toList, List.cons_append, List.nil_append, i164_100s11, i164_244, i164_245, i164_246, i164_247, i164_248, c158 (k := k) ht hu ha h1l hi hn hn2 hd hg hk hg2]
theorem w164_k12 (ht : 55 ≤ t) (hu : u < 3) (ha : m_aa a) {p i1 i2 i3 d c : Nat} {cx wx dx kx : Nat → Nat} {B : Int32} (hi : g (150 + 154 * u + 101) = nI 1 ∨ g (150 + 154 * u + 101) = nI 0) (hn : h 17 = nI c) (hn2 : c ≤ 60) (hd : d ≤ 4) (hg : g (150 + 154 * u + 8) = nI d) (hk : k ≤ d) (hg2 : g (150 + 154 * u + 110) = nI k) (hc : ∀ x, x < 8 → g (18 * x + 15) = nI (cx x) ∧ cx x ≤ 4) (hw : ∀ x, x < 8 → d_own g h u x (wx x) (dx x) (kx x)) (hs : ∀ y, y < 6 → ∃ s, s ≤ 16 ∧ J 36 y = nI s) (hp : p < 240) (hact : d_act J p 12 i1 i2 i3 B) {v3 v4 : Int32} : WP V 164 70 [.ref 27, .int (nI u), .int (nI (150 + 154 * u)), .int v3, .int v4, .int (nI p), m_u, m_u, m_u, m_u] [] t (mM J a g h o) L (m_RR e a b) Q = Q (some (.int (d_do J L g h o u 12 i1 i2 i3 d k c cx wx dx kx B).1)) t (mM J a (d_do J L g h o u 12 i1 i2 i3 d k c cx wx dx kx B).2.1 (d_do J L g h o u 12 i1 i2 i3 d k c cx wx dx kx B).2.2.1 (d_do J L g h o u 12 i1 i2 i3 d k c cx wx dx kx B).2.2.2) L (m_RR e a b) := by
  have hA := mA_of ha
  have hat := mA_lt ha ht
  obtain ⟨a0, a2, a1, ab, ac⟩ := hact
  obtain ⟨A1, ea⟩ : ∃ z, z = J 31 p := ⟨_, rfl⟩
  have pre : WP V 164 70 [.ref 27, .int (nI u), .int (nI (150 + 154 * u)), .int v3, .int v4, .int (nI p), m_u, m_u, m_u, m_u] [] t (mM J a g h o) L (m_RR e a b) Q = WP V 164 100 [.ref 27, .int (nI u), .int (nI (150 + 154 * u)), .int v3, .int v4, .int (nI p), .int A1, .int B, .int (nI (150 + 154 * u + 3)), .int (if g (150 + 154 * u + 101) = nI 1 then nI 1 else nI 0)] [.int (nI 12)] t (mM J a g h o) L (m_RR e a b) Q := by
    simp (disch := first | assumption | omega | decide) only [nI_add, n_mul, n_sub, n_le, n_lt, n_eq, n_ne1, n_0, m_bl_t, m_bl_f, if_true, if_false, Nat.reduceAdd, Nat.reduceMul, Nat.reduceSub, Nat.reduceLeDiff, Nat.reduceEqDiff, Nat.add_zero, Nat.add_sub_cancel, Option.toList, List.cons_append, List.nil_append, i164_70, i164_71, i164_72, i164_73, i164_74, i164_75, i164_76, i164_77, i164_78, i164_79, i164_80, i164_81, i164_82, i164_83, i164_84, i164_85, i164_86, i164_87, i164_88, i164_89, i164_90, rv_27_0, rv_27_8, rv_27_9, mM_a, mM_j, a0, a2, ← ea]
    by_cases hi1 : g (150 + 154 * u + 101) = nI 1
    · simp (disch := first | assumption | omega | decide) only [nI_add, n_mul, n_sub, n_le, n_lt, n_eq, n_ne1, n_0, m_bl_t, m_bl_f, if_true, if_false, Nat.reduceAdd, Nat.reduceMul, Nat.reduceSub, Nat.reduceLeDiff, Nat.reduceEqDiff, Nat.add_zero, Nat.add_sub_cancel, Option.toList, List.cons_append, List.nil_append, hi1, i164_91, i164_92, i164_93, i164_94, i164_95, i164_96, i164_97, i164_98, i164_99, rv_27_7, mM_j, a0, a2, ← ea]
    · simp (disch := first | assumption | omega | decide) only [nI_add, n_mul, n_sub, n_le, n_lt, n_eq, n_ne1, n_0, m_bl_t, m_bl_f, if_true, if_false, Nat.reduceAdd, Nat.reduceMul, Nat.reduceSub, Nat.reduceLeDiff, Nat.reduceEqDiff, Nat.add_zero, Nat.add_sub_cancel, Option.toList, List.cons_append, List.nil_append, hi1, i164_91, i164_92, i164_93, i164_94, i164_95, i164_96, i164_97, i164_98, i164_99, rv_27_7, mM_j, a0, a2, ← ea]
  rw [pre]
  simp only [d_do]
  simp (disch := first | assumption | omega | decide) only [nI_add, n_mul, n_sub, n_le, n_lt, n_eq, n_ne1, n_0, m_bl_t, m_bl_f, if_true, if_false, Nat.reduceAdd, Nat.reduceMul, Nat.reduceSub, Nat.reduceLeDiff, Nat.reduceEqDiff, Nat.add_zero, Nat.add_sub_cancel, Option.toList, List.cons_append, List.nil_append, i164_100s12, i164_249, i164_250, i164_251, i164_252, c159 (k := k) ht hu ha hi hn hn2 hd hg hk hg2]
theorem w164_k13 (ht : 55 ≤ t) (hu : u < 3) (ha : m_aa a) {p i1 i2 i3 d c : Nat} {cx wx dx kx : Nat → Nat} {B : Int32} (hi : g (150 + 154 * u + 101) = nI 1 ∨ g (150 + 154 * u + 101) = nI 0) (hn : h 17 = nI c) (hn2 : c ≤ 60) (hd : d ≤ 4) (hg : g (150 + 154 * u + 8) = nI d) (hk : k ≤ d) (hg2 : g (150 + 154 * u + 110) = nI k) (hc : ∀ x, x < 8 → g (18 * x + 15) = nI (cx x) ∧ cx x ≤ 4) (hw : ∀ x, x < 8 → d_own g h u x (wx x) (dx x) (kx x)) (hs : ∀ y, y < 6 → ∃ s, s ≤ 16 ∧ J 36 y = nI s) (hp : p < 240) (hact : d_act J p 13 i1 i2 i3 B) {v3 v4 : Int32} : WP V 164 70 [.ref 27, .int (nI u), .int (nI (150 + 154 * u)), .int v3, .int v4, .int (nI p), m_u, m_u, m_u, m_u] [] t (mM J a g h o) L (m_RR e a b) Q = Q (some (.int (d_do J L g h o u 13 i1 i2 i3 d k c cx wx dx kx B).1)) t (mM J a (d_do J L g h o u 13 i1 i2 i3 d k c cx wx dx kx B).2.1 (d_do J L g h o u 13 i1 i2 i3 d k c cx wx dx kx B).2.2.1 (d_do J L g h o u 13 i1 i2 i3 d k c cx wx dx kx B).2.2.2) L (m_RR e a b) := by
  have hA := mA_of ha
  have hat := mA_lt ha ht
  obtain ⟨a0, a2, a1, ab, ac⟩ := hact
  obtain ⟨A1, ea⟩ : ∃ z, z = J 31 p := ⟨_, rfl⟩
  have pre : WP V 164 70 [.ref 27, .int (nI u), .int (nI (150 + 154 * u)), .int v3, .int v4, .int (nI p), m_u, m_u, m_u, m_u] [] t (mM J a g h o) L (m_RR e a b) Q = WP V 164 100 [.ref 27, .int (nI u), .int (nI (150 + 154 * u)), .int v3, .int v4, .int (nI p), .int A1, .int B, .int (nI (150 + 154 * u + 3)), .int (if g (150 + 154 * u + 101) = nI 1 then nI 1 else nI 0)] [.int (nI 13)] t (mM J a g h o) L (m_RR e a b) Q := by
    simp (disch := first | assumption | omega | decide) only [nI_add, n_mul, n_sub, n_le, n_lt, n_eq, n_ne1, n_0, m_bl_t, m_bl_f, if_true, if_false, Nat.reduceAdd, Nat.reduceMul, Nat.reduceSub, Nat.reduceLeDiff, Nat.reduceEqDiff, Nat.add_zero, Nat.add_sub_cancel, Option.toList, List.cons_append, List.nil_append, i164_70, i164_71, i164_72, i164_73, i164_74, i164_75, i164_76, i164_77, i164_78, i164_79, i164_80, i164_81, i164_82, i164_83, i164_84, i164_85, i164_86, i164_87, i164_88, i164_89, i164_90, rv_27_0, rv_27_8, rv_27_9, mM_a, mM_j, a0, a2, ← ea]
    by_cases hi1 : g (150 + 154 * u + 101) = nI 1
    · simp (disch := first | assumption | omega | decide) only [nI_add, n_mul, n_sub, n_le, n_lt, n_eq, n_ne1, n_0, m_bl_t, m_bl_f, if_true, if_false, Nat.reduceAdd, Nat.reduceMul, Nat.reduceSub, Nat.reduceLeDiff, Nat.reduceEqDiff, Nat.add_zero, Nat.add_sub_cancel, Option.toList, List.cons_append, List.nil_append, hi1, i164_91, i164_92, i164_93, i164_94, i164_95, i164_96, i164_97, i164_98, i164_99, rv_27_7, mM_j, a0, a2, ← ea]
    · simp (disch := first | assumption | omega | decide) only [nI_add, n_mul, n_sub, n_le, n_lt, n_eq, n_ne1, n_0, m_bl_t, m_bl_f, if_true, if_false, Nat.reduceAdd, Nat.reduceMul, Nat.reduceSub, Nat.reduceLeDiff, Nat.reduceEqDiff, Nat.add_zero, Nat.add_sub_cancel, Option.toList, List.cons_append, List.nil_append, hi1, i164_91, i164_92, i164_93, i164_94, i164_95, i164_96, i164_97, i164_98, i164_99, rv_27_7, mM_j, a0, a2, ← ea]
  rw [pre]
  simp only [d_do]
  simp (disch := first | assumption | omega | decide) only [nI_add, n_mul, n_sub, n_le, n_lt, n_eq, n_ne1, n_0, m_bl_t, m_bl_f, if_true, if_false, Nat.reduceAdd, Nat.reduceMul, Nat.reduceSub, Nat.reduceLeDiff, Nat.reduceEqDiff, Nat.add_zero, Nat.add_sub_cancel, Option.toList, List.cons_append, List.nil_append, i164_100s13, i164_253, i164_254, i164_255, i164_256, c160 (k := k) ht hu ha hi hn hn2 hd hg hk hg2]
theorem w164_k14 (ht : 55 ≤ t) (hu : u < 3) (ha : m_aa a) {p i1 i2 i3 d c : Nat} {cx wx dx kx : Nat → Nat} {B : Int32} (hi : g (150 + 154 * u + 101) = nI 1 ∨ g (150 + 154 * u + 101) = nI 0) (hn : h 17 = nI c) (hn2 : c ≤ 60) (hd : d ≤ 4) (hg : g (150 + 154 * u + 8) = nI d) (hk : k ≤ d) (hg2 : g (150 + 154 * u + 110) = nI k) (hc : ∀ x, x < 8 → g (18 * x + 15) = nI (cx x) ∧ cx x ≤ 4) (hw : ∀ x, x < 8 → d_own g h u x (wx x) (dx x) (kx x)) (hs : ∀ y, y < 6 → ∃ s, s ≤ 16 ∧ J 36 y = nI s) (hp : p < 240) (hact : d_act J p 14 i1 i2 i3 B) {v3 v4 : Int32} : WP V 164 70 [.ref 27, .int (nI u), .int (nI (150 + 154 * u)), .int v3, .int v4, .int (nI p), m_u, m_u, m_u, m_u] [] t (mM J a g h o) L (m_RR e a b) Q = Q (some (.int (d_do J L g h o u 14 i1 i2 i3 d k c cx wx dx kx B).1)) t (mM J a (d_do J L g h o u 14 i1 i2 i3 d k c cx wx dx kx B).2.1 (d_do J L g h o u 14 i1 i2 i3 d k c cx wx dx kx B).2.2.1 (d_do J L g h o u 14 i1 i2 i3 d k c cx wx dx kx B).2.2.2) L (m_RR e a b) := by
  have hA := mA_of ha
  have hat := mA_lt ha ht
  obtain ⟨a0, a2, a1, ab, ac⟩ := hact
  obtain ⟨A1, ea⟩ : ∃ z, z = J 31 p := ⟨_, rfl⟩
  have h1 := (a1 (by decide)).1
  have h1l : i1 < 41 := (a1 (by decide)).2
  rw [← ea] at h1
  have pre : WP V 164 70 [.ref 27, .int (nI u), .int (nI (150 + 154 * u)), .int v3, .int v4, .int (nI p), m_u, m_u, m_u, m_u] [] t (mM J a g h o) L (m_RR e a b) Q = WP V 164 100 [.ref 27, .int (nI u), .int (nI (150 + 154 * u)), .int v3, .int v4, .int (nI p), .int (nI i1), .int B, .int (nI (150 + 154 * u + 3)), .int (if g (150 + 154 * u + 101) = nI 1 then nI 1 else nI 0)] [.int (nI 14)] t (mM J a g h o) L (m_RR e a b) Q := by
    simp (disch := first | assumption | omega | decide) only [nI_add, n_mul, n_sub, n_le, n_lt, n_eq, n_ne1, n_0, m_bl_t, m_bl_f, if_true, if_false, Nat.reduceAdd, Nat.reduceMul, Nat.reduceSub, Nat.reduceLeDiff, Nat.reduceEqDiff, Nat.add_zero, Nat.add_sub_cancel, Option.toList, List.cons_append, List.nil_append, i164_70, i164_71, i164_72, i164_73, i164_74, i164_75, i164_76, i164_77, i164_78, i164_79, i164_80, i164_81, i164_82, i164_83, i164_84, i164_85, i164_86, i164_87, i164_88, i164_89, i164_90, rv_27_0, rv_27_8, rv_27_9, mM_a, mM_j, a0, a2, ← ea, h1]
    by_cases hi1 : g (150 + 154 * u + 101) = nI 1
    · simp (disch := first | assumption | omega | decide) only [nI_add, n_mul, n_sub, n_le, n_lt, n_eq, n_ne1, n_0, m_bl_t, m_bl_f, if_true, if_false, Nat.reduceAdd, Nat.reduceMul, Nat.reduceSub, Nat.reduceLeDiff, Nat.reduceEqDiff, Nat.add_zero, Nat.add_sub_cancel, Option.toList, List.cons_append, List.nil_append, hi1, i164_91, i164_92, i164_93, i164_94, i164_95, i164_96, i164_97, i164_98, i164_99, rv_27_7, mM_j, a0, a2, ← ea, h1]
    · simp (disch := first | assumption | omega | decide) only [nI_add, n_mul, n_sub, n_le, n_lt, n_eq, n_ne1, n_0, m_bl_t, m_bl_f, if_true, if_false, Nat.reduceAdd, Nat.reduceMul, Nat.reduceSub, Nat.reduceLeDiff, Nat.reduceEqDiff, Nat.add_zero, Nat.add_sub_cancel, Option.toList, List.cons_append, List.nil_append, hi1, i164_91, i164_92, i164_93, i164_94, i164_95, i164_96, i164_97, i164_98, i164_99, rv_27_7, mM_j, a0, a2, ← ea, h1]
  rw [pre]
  simp only [d_do]
  have h01 : ¬ nI 0 = nI 1 := by decide
  have h10 : ¬ nI 1 = nI 0 := by decide
  have hz3 : 0 < 3 := by decide
  by_cases hi1 : g (150 + 154 * u + 101) = nI 1
  · simp (disch := first | assumption | omega | decide) only [nI_add, n_mul, n_sub, n_le, n_lt, n_eq, n_ne1, n_0, m_bl_t, m_bl_f, if_true, if_false, Nat.reduceAdd, Nat.reduceMul, Nat.reduceSub, Nat.reduceLeDiff, Nat.reduceEqDiff, Nat.add_zero, Nat.add_sub_cancel, Option.toList, List.cons_append, List.nil_append, i164_100s14, hi1, h10, i164_257, i164_258, i164_259, i164_260, i164_261, i164_262, i164_263, i164_264, i164_265, rv_27_0, mM_a, decide_true, Bool.true_and]
    by_cases h3 : g (150 + 154 * u + 102) = nI 2
    · simp (disch := first | assumption | omega | decide) only [nI_add, n_mul, n_sub, n_le, n_lt, n_eq, n_ne1, n_0, m_bl_t, m_bl_f, if_true, if_false, Nat.reduceAdd, Nat.reduceMul, Nat.reduceSub, Nat.reduceLeDiff, Nat.reduceEqDiff, Nat.add_zero, Nat.add_sub_cancel, Option.toList, List.cons_append, List.nil_append, h3, i164_266, i164_267, i164_268, i164_269, i164_270, i164_271, i164_272, c156 (v := 0) ht hu ha hz3 hd hg, b_0, not_false_iff, decide_true, Bool.true_and]
      cases h4 : (d_push g u 0 i1 d).1
      · simp (disch := first | assumption | omega | decide) only [nI_add, n_mul, n_sub, n_le, n_lt, n_eq, n_ne1, n_0, m_bl_t, m_bl_f, if_true, if_false, Nat.reduceAdd, Nat.reduceMul, Nat.reduceSub, Nat.reduceLeDiff, Nat.reduceEqDiff, Nat.add_zero, Nat.add_sub_cancel, Option.toList, List.cons_append, List.nil_append, d_push_f h4, Bool.false_eq_true, i164_273, i164_274, i164_275, i164_276, i164_277, i164_281, c155 (k := k) ht hu ha hn hn2 hd hg hk hg2]
      · simp (disch := first | assumption | omega | decide) only [nI_add, n_mul, n_sub, n_le, n_lt, n_eq, n_ne1, n_0, m_bl_t, m_bl_f, if_true, if_false, Nat.reduceAdd, Nat.reduceMul, Nat.reduceSub, Nat.reduceLeDiff, Nat.reduceEqDiff, Nat.add_zero, Nat.add_sub_cancel, Option.toList, List.cons_append, List.nil_append, Bool.true_eq_false, i164_278, i164_279, i164_280, i164_281, c162]
    · simp (disch := first | assumption | omega | decide) only [nI_add, n_mul, n_sub, n_le, n_lt, n_eq, n_ne1, n_0, m_bl_t, m_bl_f, if_true, if_false, Nat.reduceAdd, Nat.reduceMul, Nat.reduceSub, Nat.reduceLeDiff, Nat.reduceEqDiff, Nat.add_zero, Nat.add_sub_cancel, Option.toList, List.cons_append, List.nil_append, h3, i164_266, i164_273, i164_274, i164_275, i164_276, i164_277, i164_281, c155 (k := k) ht hu ha hn hn2 hd hg hk hg2, not_true, decide_false, Bool.false_and, Bool.false_eq_true]
  · simp (disch := first | assumption | omega | decide) only [nI_add, n_mul, n_sub, n_le, n_lt, n_eq, n_ne1, n_0, m_bl_t, m_bl_f, if_true, if_false, Nat.reduceAdd, Nat.reduceMul, Nat.reduceSub, Nat.reduceLeDiff, Nat.reduceEqDiff, Nat.add_zero, Nat.add_sub_cancel, Option.toList, List.cons_append, List.nil_append, i164_100s14, hi1, i164_257, i164_258, i164_273, i164_274, i164_275, i164_276, i164_277, i164_281, c155 (k := k) ht hu ha hn hn2 hd hg hk hg2, decide_false, Bool.false_and, Bool.false_eq_true]
theorem w164_k15 (ht : 55 ≤ t) (hu : u < 3) (ha : m_aa a) {p i1 i2 i3 d c : Nat} {cx wx dx kx : Nat → Nat} {B : Int32} (hi : g (150 + 154 * u + 101) = nI 1 ∨ g (150 + 154 * u + 101) = nI 0) (hn : h 17 = nI c) (hn2 : c ≤ 60) (hd : d ≤ 4) (hg : g (150 + 154 * u + 8) = nI d) (hk : k ≤ d) (hg2 : g (150 + 154 * u + 110) = nI k) (hc : ∀ x, x < 8 → g (18 * x + 15) = nI (cx x) ∧ cx x ≤ 4) (hw : ∀ x, x < 8 → d_own g h u x (wx x) (dx x) (kx x)) (hs : ∀ y, y < 6 → ∃ s, s ≤ 16 ∧ J 36 y = nI s) (hp : p < 240) (hact : d_act J p 15 i1 i2 i3 B) {v3 v4 : Int32} : WP V 164 70 [.ref 27, .int (nI u), .int (nI (150 + 154 * u)), .int v3, .int v4, .int (nI p), m_u, m_u, m_u, m_u] [] t (mM J a g h o) L (m_RR e a b) Q = Q (some (.int (d_do J L g h o u 15 i1 i2 i3 d k c cx wx dx kx B).1)) t (mM J a (d_do J L g h o u 15 i1 i2 i3 d k c cx wx dx kx B).2.1 (d_do J L g h o u 15 i1 i2 i3 d k c cx wx dx kx B).2.2.1 (d_do J L g h o u 15 i1 i2 i3 d k c cx wx dx kx B).2.2.2) L (m_RR e a b) := by
  have hA := mA_of ha
  have hat := mA_lt ha ht
  obtain ⟨a0, a2, a1, ab, ac⟩ := hact
  obtain ⟨A1, ea⟩ : ∃ z, z = J 31 p := ⟨_, rfl⟩
  have h1 := (a1 (by decide)).1
  have h1l : i1 < 41 := (a1 (by decide)).2
  rw [← ea] at h1
  have pre : WP V 164 70 [.ref 27, .int (nI u), .int (nI (150 + 154 * u)), .int v3, .int v4, .int (nI p), m_u, m_u, m_u, m_u] [] t (mM J a g h o) L (m_RR e a b) Q = WP V 164 100 [.ref 27, .int (nI u), .int (nI (150 + 154 * u)), .int v3, .int v4, .int (nI p), .int (nI i1), .int B, .int (nI (150 + 154 * u + 3)), .int (if g (150 + 154 * u + 101) = nI 1 then nI 1 else nI 0)] [.int (nI 15)] t (mM J a g h o) L (m_RR e a b) Q := by
    simp (disch := first | assumption | omega | decide) only [nI_add, n_mul, n_sub, n_le, n_lt, n_eq, n_ne1, n_0, m_bl_t, m_bl_f, if_true, if_false, Nat.reduceAdd, Nat.reduceMul, Nat.reduceSub, Nat.reduceLeDiff, Nat.reduceEqDiff, Nat.add_zero, Nat.add_sub_cancel, Option.toList, List.cons_append, List.nil_append, i164_70, i164_71, i164_72, i164_73, i164_74, i164_75, i164_76, i164_77, i164_78, i164_79, i164_80, i164_81, i164_82, i164_83, i164_84, i164_85, i164_86, i164_87, i164_88, i164_89, i164_90, rv_27_0, rv_27_8, rv_27_9, mM_a, mM_j, a0, a2, ← ea, h1]
    by_cases hi1 : g (150 + 154 * u + 101) = nI 1
    · simp (disch := first | assumption | omega | decide) only [nI_add, n_mul, n_sub, n_le, n_lt, n_eq, n_ne1, n_0, m_bl_t, m_bl_f, if_true, if_false, Nat.reduceAdd, Nat.reduceMul, Nat.reduceSub, Nat.reduceLeDiff, Nat.reduceEqDiff, Nat.add_zero, Nat.add_sub_cancel, Option.toList, List.cons_append, List.nil_append, hi1, i164_91, i164_92, i164_93, i164_94, i164_95, i164_96, i164_97, i164_98, i164_99, rv_27_7, mM_j, a0, a2, ← ea, h1]
    · simp (disch := first | assumption | omega | decide) only [nI_add, n_mul, n_sub, n_le, n_lt, n_eq, n_ne1, n_0, m_bl_t, m_bl_f, if_true, if_false, Nat.reduceAdd, Nat.reduceMul, Nat.reduceSub, Nat.reduceLeDiff, Nat.reduceEqDiff, Nat.add_zero, Nat.add_sub_cancel, Option.toList, List.cons_append, List.nil_append, hi1, i164_91, i164_92, i164_93, i164_94, i164_95, i164_96, i164_97, i164_98, i164_99, rv_27_7, mM_j, a0, a2, ← ea, h1]
  rw [pre]
  simp only [d_do]
  have h01 : ¬ nI 0 = nI 1 := by decide
  have h10 : ¬ nI 1 = nI 0 := by decide
  have hz3 : 0 < 3 := by decide
  by_cases hi1 : g (150 + 154 * u + 101) = nI 1
  · simp (disch := first | assumption | omega | decide) only [nI_add, n_mul, n_sub, n_le, n_lt, n_eq, n_ne1, n_0, m_bl_t, m_bl_f, if_true, if_false, Nat.reduceAdd, Nat.reduceMul, Nat.reduceSub, Nat.reduceLeDiff, Nat.reduceEqDiff, Nat.add_zero, Nat.add_sub_cancel, Option.toList, List.cons_append, List.nil_append, i164_100s15, hi1, h10, i164_282, i164_283, i164_284, i164_285, i164_286, i164_287, i164_288, c157 (v := 0) ht hu ha hz3 hd hg hk hg2, b_0, decide_true, Bool.true_and]
    cases h4 : (d_pop g u 0 (d_fl g u k) d).1
    · simp (disch := first | assumption | omega | decide) only [nI_add, n_mul, n_sub, n_le, n_lt, n_eq, n_ne1, n_0, m_bl_t, m_bl_f, if_true, if_false, Nat.reduceAdd, Nat.reduceMul, Nat.reduceSub, Nat.reduceLeDiff, Nat.reduceEqDiff, Nat.add_zero, Nat.add_sub_cancel, Option.toList, List.cons_append, List.nil_append, d_pop_f h4, Bool.false_eq_true, i164_294, i164_295, i164_296, i164_297, i164_298, c155 (k := k) ht hu ha hn hn2 hd hg hk hg2]
    · simp (disch := first | assumption | omega | decide) only [nI_add, n_mul, n_sub, n_le, n_lt, n_eq, n_ne1, n_0, m_bl_t, m_bl_f, if_true, if_false, Nat.reduceAdd, Nat.reduceMul, Nat.reduceSub, Nat.reduceLeDiff, Nat.reduceEqDiff, Nat.add_zero, Nat.add_sub_cancel, Option.toList, List.cons_append, List.nil_append, Bool.true_eq_false, i164_289, i164_290, i164_291, i164_292, i164_293, i164_298, c162, c163]
  · simp (disch := first | assumption | omega | decide) only [nI_add, n_mul, n_sub, n_le, n_lt, n_eq, n_ne1, n_0, m_bl_t, m_bl_f, if_true, if_false, Nat.reduceAdd, Nat.reduceMul, Nat.reduceSub, Nat.reduceLeDiff, Nat.reduceEqDiff, Nat.add_zero, Nat.add_sub_cancel, Option.toList, List.cons_append, List.nil_append, i164_100s15, hi1, i164_282, i164_283, i164_294, i164_295, i164_296, i164_297, i164_298, c155 (k := k) ht hu ha hn hn2 hd hg hk hg2, decide_false, Bool.false_and, Bool.false_eq_true]
theorem w164_k16 (ht : 55 ≤ t) (hu : u < 3) (ha : m_aa a) {p i1 i2 i3 d c : Nat} {cx wx dx kx : Nat → Nat} {B : Int32} (hi : g (150 + 154 * u + 101) = nI 1 ∨ g (150 + 154 * u + 101) = nI 0) (hn : h 17 = nI c) (hn2 : c ≤ 60) (hd : d ≤ 4) (hg : g (150 + 154 * u + 8) = nI d) (hk : k ≤ d) (hg2 : g (150 + 154 * u + 110) = nI k) (hc : ∀ x, x < 8 → g (18 * x + 15) = nI (cx x) ∧ cx x ≤ 4) (hw : ∀ x, x < 8 → d_own g h u x (wx x) (dx x) (kx x)) (hs : ∀ y, y < 6 → ∃ s, s ≤ 16 ∧ J 36 y = nI s) (hp : p < 240) (hact : d_act J p 16 i1 i2 i3 B) {v3 v4 : Int32} : WP V 164 70 [.ref 27, .int (nI u), .int (nI (150 + 154 * u)), .int v3, .int v4, .int (nI p), m_u, m_u, m_u, m_u] [] t (mM J a g h o) L (m_RR e a b) Q = Q (some (.int (d_do J L g h o u 16 i1 i2 i3 d k c cx wx dx kx B).1)) t (mM J a (d_do J L g h o u 16 i1 i2 i3 d k c cx wx dx kx B).2.1 (d_do J L g h o u 16 i1 i2 i3 d k c cx wx dx kx B).2.2.1 (d_do J L g h o u 16 i1 i2 i3 d k c cx wx dx kx B).2.2.2) L (m_RR e a b) := by
  have hA := mA_of ha
  have hat := mA_lt ha ht
  obtain ⟨a0, a2, a1, ab, ac⟩ := hact
  obtain ⟨A1, ea⟩ : ∃ z, z = J 31 p := ⟨_, rfl⟩
  have h1 := (a1 (by decide)).1
  have h1l : i1 < 41 := (a1 (by decide)).2
  rw [← ea] at h1
  have pre : WP V 164 70 [.ref 27, .int (nI u), .int (nI (150 + 154 * u)), .int v3, .int v4, .int (nI p), m_u, m_u, m_u, m_u] [] t (mM J a g h o) L (m_RR e a b) Q = WP V 164 100 [.ref 27, .int (nI u), .int (nI (150 + 154 * u)), .int v3, .int v4, .int (nI p), .int (nI i1), .int B, .int (nI (150 + 154 * u + 3)), .int (if g (150 + 154 * u + 101) = nI 1 then nI 1 else nI 0)] [.int (nI 16)] t (mM J a g h o) L (m_RR e a b) Q := by
    simp (disch := first | assumption | omega | decide) only [nI_add, n_mul, n_sub, n_le, n_lt, n_eq, n_ne1, n_0, m_bl_t, m_bl_f, if_true, if_false, Nat.reduceAdd, Nat.reduceMul, Nat.reduceSub, Nat.reduceLeDiff, Nat.reduceEqDiff, Nat.add_zero, Nat.add_sub_cancel, Option.toList, List.cons_append, List.nil_append, i164_70, i164_71, i164_72, i164_73, i164_74, i164_75, i164_76, i164_77, i164_78, i164_79, i164_80, i164_81, i164_82, i164_83, i164_84, i164_85, i164_86, i164_87, i164_88, i164_89, i164_90, rv_27_0, rv_27_8, rv_27_9, mM_a, mM_j, a0, a2, ← ea, h1]
    by_cases hi1 : g (150 + 154 * u + 101) = nI 1
    · simp (disch := first | assumption | omega | decide) only [nI_add, n_mul, n_sub, n_le, n_lt, n_eq, n_ne1, n_0, m_bl_t, m_bl_f, if_true, if_false, Nat.reduceAdd, Nat.reduceMul, Nat.reduceSub, Nat.reduceLeDiff, Nat.reduceEqDiff, Nat.add_zero, Nat.add_sub_cancel, Option.toList, List.cons_append, List.nil_append, hi1, i164_91, i164_92, i164_93, i164_94, i164_95, i164_96, i164_97, i164_98, i164_99, rv_27_7, mM_j, a0, a2, ← ea, h1]
    · simp (disch := first | assumption | omega | decide) only [nI_add, n_mul, n_sub, n_le, n_lt, n_eq, n_ne1, n_0, m_bl_t, m_bl_f, if_true, if_false, Nat.reduceAdd, Nat.reduceMul, Nat.reduceSub, Nat.reduceLeDiff, Nat.reduceEqDiff, Nat.add_zero, Nat.add_sub_cancel, Option.toList, List.cons_append, List.nil_append, hi1, i164_91, i164_92, i164_93, i164_94, i164_95, i164_96, i164_97, i164_98, i164_99, rv_27_7, mM_j, a0, a2, ← ea, h1]
  rw [pre]
  simp only [d_do]
  have h01 : ¬ nI 0 = nI 1 := by decide
  have h10 : ¬ nI 1 = nI 0 := by decide
  have hz3 : 1 < 3 := by decide
  by_cases hi1 : g (150 + 154 * u + 101) = nI 1
  · simp (disch := first | assumption | omega | decide) only [nI_add, n_mul, n_sub, n_le, n_lt, n_eq, n_ne1, n_0, m_bl_t, m_bl_f, if_true, if_false, Nat.reduceAdd, Nat.reduceMul, Nat.reduceSub, Nat.reduceLeDiff, Nat.reduceEqDiff, Nat.add_zero, Nat.add_sub_cancel, Option.toList, List.cons_append, List.nil_append, i164_100s16, hi1, h10, i164_299, i164_300, i164_301, i164_302, i164_303, i164_304, i164_305, i164_306, i164_307, rv_27_0, mM_a, decide_true, Bool.true_and]
    by_cases h3 : g (150 + 154 * u + 102) = nI 3
    · simp (disch := first | assumption | omega | decide) only [nI_add, n_mul, n_sub, n_le, n_lt, n_eq, n_ne1, n_0, m_bl_t, m_bl_f, if_true, if_false, Nat.reduceAdd, Nat.reduceMul, Nat.reduceSub, Nat.reduceLeDiff, Nat.reduceEqDiff, Nat.add_zero, Nat.add_sub_cancel, Option.toList, List.cons_append, List.nil_append, h3, i164_308, i164_315, i164_316, i164_317, i164_318, i164_319, i164_323, c155 (k := k) ht hu ha hn hn2 hd hg hk hg2, not_true, decide_false, Bool.false_and, Bool.false_eq_true]
    · simp (disch := first | assumption | omega | decide) only [nI_add, n_mul, n_sub, n_le, n_lt, n_eq, n_ne1, n_0, m_bl_t, m_bl_f, if_true, if_false, Nat.reduceAdd, Nat.reduceMul, Nat.reduceSub, Nat.reduceLeDiff, Nat.reduceEqDiff, Nat.add_zero, Nat.add_sub_cancel, Option.toList, List.cons_append, List.nil_append, h3, i164_308, i164_309, i164_310, i164_311, i164_312, i164_313, i164_314, c156 (v := 1) ht hu ha hz3 hd hg, b_0, not_false_iff, decide_true, Bool.true_and]
      cases h4 : (d_push g u 1 i1 d).1
      · simp (disch := first | assumption | omega | decide) only [nI_add, n_mul, n_sub, n_le, n_lt, n_eq, n_ne1, n_0, m_bl_t, m_bl_f, if_true, if_false, Nat.reduceAdd, Nat.reduceMul, Nat.reduceSub, Nat.reduceLeDiff, Nat.reduceEqDiff, Nat.add_zero, Nat.add_sub_cancel, Option.toList, List.cons_append, List.nil_append, d_push_f h4, Bool.false_eq_true, i164_315, i164_316, i164_317, i164_318, i164_319, i164_323, c155 (k := k) ht hu ha hn hn2 hd hg hk hg2]
      · simp (disch := first | assumption | omega | decide) only [nI_add, n_mul, n_sub, n_le, n_lt, n_eq, n_ne1, n_0, m_bl_t, m_bl_f, if_true, if_false, Nat.reduceAdd, Nat.reduceMul, Nat.reduceSub, Nat.reduceLeDiff, Nat.reduceEqDiff, Nat.add_zero, Nat.add_sub_cancel, Option.toList, List.cons_append, List.nil_append, Bool.true_eq_false, i164_320, i164_321, i164_322, i164_323, c162]
  · simp (disch := first | assumption | omega | decide) only [nI_add, n_mul, n_sub, n_le, n_lt, n_eq, n_ne1, n_0, m_bl_t, m_bl_f, if_true, if_false, Nat.reduceAdd, Nat.reduceMul, Nat.reduceSub, Nat.reduceLeDiff, Nat.reduceEqDiff, Nat.add_zero, Nat.add_sub_cancel, Option.toList, List.cons_append, List.nil_append, i164_100s16, hi1, i164_299, i164_300, i164_315, i164_316, i164_317, i164_318, i164_319, i164_323, c155 (k := k) ht hu ha hn hn2 hd hg hk hg2, decide_false, Bool.false_and, Bool.false_eq_true]
theorem w164_k17 (ht : 55 ≤ t) (hu : u < 3) (ha : m_aa a) {p i1 i2 i3 d c : Nat} {cx wx dx kx : Nat → Nat} {B : Int32} (hi : g (150 + 154 * u + 101) = nI 1 ∨ g (150 + 154 * u + 101) = nI 0) (hn : h 17 = nI c) (hn2 : c ≤ 60) (hd : d ≤ 4) (hg : g (150 + 154 * u + 8) = nI d) (hk : k ≤ d) (hg2 : g (150 + 154 * u + 110) = nI k) (hc : ∀ x, x < 8 → g (18 * x + 15) = nI (cx x) ∧ cx x ≤ 4) (hw : ∀ x, x < 8 → d_own g h u x (wx x) (dx x) (kx x)) (hs : ∀ y, y < 6 → ∃ s, s ≤ 16 ∧ J 36 y = nI s) (hp : p < 240) (hact : d_act J p 17 i1 i2 i3 B) {v3 v4 : Int32} : WP V 164 70 [.ref 27, .int (nI u), .int (nI (150 + 154 * u)), .int v3, .int v4, .int (nI p), m_u, m_u, m_u, m_u] [] t (mM J a g h o) L (m_RR e a b) Q = Q (some (.int (d_do J L g h o u 17 i1 i2 i3 d k c cx wx dx kx B).1)) t (mM J a (d_do J L g h o u 17 i1 i2 i3 d k c cx wx dx kx B).2.1 (d_do J L g h o u 17 i1 i2 i3 d k c cx wx dx kx B).2.2.1 (d_do J L g h o u 17 i1 i2 i3 d k c cx wx dx kx B).2.2.2) L (m_RR e a b) := by
  have hA := mA_of ha
  have hat := mA_lt ha ht
  obtain ⟨a0, a2, a1, ab, ac⟩ := hact
  obtain ⟨A1, ea⟩ : ∃ z, z = J 31 p := ⟨_, rfl⟩
  have pre : WP V 164 70 [.ref 27, .int (nI u), .int (nI (150 + 154 * u)), .int v3, .int v4, .int (nI p), m_u, m_u, m_u, m_u] [] t (mM J a g h o) L (m_RR e a b) Q = WP V 164 100 [.ref 27, .int (nI u), .int (nI (150 + 154 * u)), .int v3, .int v4, .int (nI p), .int A1, .int B, .int (nI (150 + 154 * u + 3)), .int (if g (150 + 154 * u + 101) = nI 1 then nI 1 else nI 0)] [.int (nI 17)] t (mM J a g h o) L (m_RR e a b) Q := by
    simp (disch := first | assumption | omega | decide) only [nI_add, n_mul, n_sub, n_le, n_lt, n_eq, n_ne1, n_0, m_bl_t, m_bl_f, if_true, if_false, Nat.reduceAdd, Nat.reduceMul, Nat.reduceSub, Nat.reduceLeDiff, Nat.reduceEqDiff, Nat.add_zero, Nat.add_sub_cancel, Option.toList, List.cons_append, List.nil_append, i164_70, i164_71, i164_72, i164_73, i164_74, i164_75, i164_76, i164_77, i164_78, i164_79, i164_80, i164_81, i164_82, i164_83, i164_84, i164_85, i164_86, i164_87, i164_88, i164_89, i164_90, rv_27_0, rv_27_8, rv_27_9, mM_a, mM_j, a0, a2, ← ea]
    by_cases hi1 : g (150 + 154 * u + 101) = nI 1
    · simp (disch := first | assumption | omega | decide) only [nI_add, n_mul, n_sub, n_le, n_lt, n_eq, n_ne1, n_0, m_bl_t, m_bl_f, if_true, if_false, Nat.reduceAdd, Nat.reduceMul, Nat.reduceSub, Nat.reduceLeDiff, Nat.reduceEqDiff, Nat.add_zero, Nat.add_sub_cancel, Option.toList, List.cons_append, List.nil_append, hi1, i164_91, i164_92, i164_93, i164_94, i164_95, i164_96, i164_97, i164_98, i164_99, rv_27_7, mM_j, a0, a2, ← ea]
    · simp (disch := first | assumption | omega | decide) only [nI_add, n_mul, n_sub, n_le, n_lt, n_eq, n_ne1, n_0, m_bl_t, m_bl_f, if_true, if_false, Nat.reduceAdd, Nat.reduceMul, Nat.reduceSub, Nat.reduceLeDiff, Nat.reduceEqDiff, Nat.add_zero, Nat.add_sub_cancel, Option.toList, List.cons_append, List.nil_append, hi1, i164_91, i164_92, i164_93, i164_94, i164_95, i164_96, i164_97, i164_98, i164_99, rv_27_7, mM_j, a0, a2, ← ea]
  rw [pre]
  simp only [d_do]
  have h01 : ¬ nI 0 = nI 1 := by decide
  have h10 : ¬ nI 1 = nI 0 := by decide
  have hz3 : 1 < 3 := by decide
  by_cases hi1 : g (150 + 154 * u + 101) = nI 1
  · simp (disch := first | assumption | omega | decide) only [nI_add, n_mul, n_sub, n_le, n_lt, n_eq, n_ne1, n_0, m_bl_t, m_bl_f, if_true, if_false, Nat.reduceAdd, Nat.reduceMul, Nat.reduceSub, Nat.reduceLeDiff, Nat.reduceEqDiff, Nat.add_zero, Nat.add_sub_cancel, Option.toList, List.cons_append, List.nil_append, i164_100s17, hi1, h10, i164_324, i164_325, i164_326, i164_327, i164_328, i164_329, i164_330, c157 (v := 1) ht hu ha hz3 hd hg hk hg2, b_0, decide_true, Bool.true_and]
    cases h4 : (d_pop g u 1 (d_fl g u k) d).1
    · simp (disch := first | assumption | omega | decide) only [nI_add, n_mul, n_sub, n_le, n_lt, n_eq, n_ne1, n_0, m_bl_t, m_bl_f, if_true, if_false, Nat.reduceAdd, Nat.reduceMul, Nat.reduceSub, Nat.reduceLeDiff, Nat.reduceEqDiff, Nat.add_zero, Nat.add_sub_cancel, Option.toList, List.cons_append, List.nil_append, d_pop_f h4, Bool.false_eq_true, i164_335, i164_336, i164_337, i164_338, i164_339, c155 (k := k) ht hu ha hn hn2 hd hg hk hg2]
    · simp (disch := first | assumption | omega | decide) only [nI_add, n_mul, n_sub, n_le, n_lt, n_eq, n_ne1, n_0, m_bl_t, m_bl_f, if_true, if_false, Nat.reduceAdd, Nat.reduceMul, Nat.reduceSub, Nat.reduceLeDiff, Nat.reduceEqDiff, Nat.add_zero, Nat.add_sub_cancel, Option.toList, List.cons_append, List.nil_append, Bool.true_eq_false, i164_331, i164_332, i164_333, i164_334, i164_339, c162, c163]
  · simp (disch := first | assumption | omega | decide) only [nI_add, n_mul, n_sub, n_le, n_lt, n_eq, n_ne1, n_0, m_bl_t, m_bl_f, if_true, if_false, Nat.reduceAdd, Nat.reduceMul, Nat.reduceSub, Nat.reduceLeDiff, Nat.reduceEqDiff, Nat.add_zero, Nat.add_sub_cancel, Option.toList, List.cons_append, List.nil_append, i164_100s17, hi1, i164_324, i164_325, i164_335, i164_336, i164_337, i164_338, i164_339, c155 (k := k) ht hu ha hn hn2 hd hg hk hg2, decide_false, Bool.false_and, Bool.false_eq_true]
theorem w164_k18 (ht : 55 ≤ t) (hu : u < 3) (ha : m_aa a) {p i1 i2 i3 d c : Nat} {cx wx dx kx : Nat → Nat} {B : Int32} (hi : g (150 + 154 * u + 101) = nI 1 ∨ g (150 + 154 * u + 101) = nI 0) (hn : h 17 = nI c) (hn2 : c ≤ 60) (hd : d ≤ 4) (hg : g (150 + 154 * u + 8) = nI d) (hk : k ≤ d) (hg2 : g (150 + 154 * u + 110) = nI k) (hc : ∀ x, x < 8 → g (18 * x + 15) = nI (cx x) ∧ cx x ≤ 4) (hw : ∀ x, x < 8 → d_own g h u x (wx x) (dx x) (kx x)) (hs : ∀ y, y < 6 → ∃ s, s ≤ 16 ∧ J 36 y = nI s) (hp : p < 240) (hact : d_act J p 18 i1 i2 i3 B) {v3 v4 : Int32} : WP V 164 70 [.ref 27, .int (nI u), .int (nI (150 + 154 * u)), .int v3, .int v4, .int (nI p), m_u, m_u, m_u, m_u] [] t (mM J a g h o) L (m_RR e a b) Q = Q (some (.int (d_do J L g h o u 18 i1 i2 i3 d k c cx wx dx kx B).1)) t (mM J a (d_do J L g h o u 18 i1 i2 i3 d k c cx wx dx kx B).2.1 (d_do J L g h o u 18 i1 i2 i3 d k c cx wx dx kx B).2.2.1 (d_do J L g h o u 18 i1 i2 i3 d k c cx wx dx kx B).2.2.2) L (m_RR e a b) := by
  have hA := mA_of ha
  have hat := mA_lt ha ht
  obtain ⟨a0, a2, a1, ab, ac⟩ := hact
  obtain ⟨A1, ea⟩ : ∃ z, z = J 31 p := ⟨_, rfl⟩
  have h1 := (a1 (by decide)).1
  have h1l : i1 < 41 := (a1 (by decide)).2
  rw [← ea] at h1
  have pre : WP V 164 70 [.ref 27, .int (nI u), .int (nI (150 + 154 * u)), .int v3, .int v4, .int (nI p), m_u, m_u, m_u, m_u] [] t (mM J a g h o) L (m_RR e a b) Q = WP V 164 100 [.ref 27, .int (nI u), .int (nI (150 + 154 * u)), .int v3, .int v4, .int (nI p), .int (nI i1), .int B, .int (nI (150 + 154 * u + 3)), .int (if g (150 + 154 * u + 101) = nI 1 then nI 1 else nI 0)] [.int (nI 18)] t (mM J a g h o) L (m_RR e a b) Q := by
    simp (disch := first | assumption | omega | decide) only [nI_add, n_mul, n_sub, n_le, n_lt, n_eq, n_ne1, n_0, m_bl_t, m_bl_f, if_true, if_false, Nat.reduceAdd, Nat.reduceMul, Nat.reduceSub, Nat.reduceLeDiff, Nat.reduceEqDiff, Nat.add_zero, Nat.add_sub_cancel, Option.toList, List.cons_append, List.nil_append, i164_70, i164_71, i164_72, i164_73, i164_74, i164_75, i164_76, i164_77, i164_78, i164_79, i164_80, i164_81, i164_82, i164_83, i164_84, i164_85, i164_86, i164_87, i164_88, i164_89, i164_90, rv_27_0, rv_27_8, rv_27_9, mM_a, mM_j, a0, a2, ← ea, h1]
    by_cases hi1 : g (150 + 154 * u + 101) = nI 1
    · simp (disch := first | assumption | omega | decide) only [nI_add, n_mul, n_sub, n_le, n_lt, n_eq, n_ne1, n_0, m_bl_t, m_bl_f, if_true, if_false, Nat.reduceAdd, Nat.reduceMul, Nat.reduceSub, Nat.reduceLeDiff, Nat.reduceEqDiff, Nat.add_zero, Nat.add_sub_cancel, Option.toList, List.cons_append, List.nil_append, hi1, i164_91, i164_92, i164_93, i164_94, i164_95, i164_96, i164_97, i164_98, i164_99, rv_27_7, mM_j, a0, a2, ← ea, h1]
    · simp (disch := first | assumption | omega | decide) only [nI_add, n_mul, n_sub, n_le, n_lt, n_eq, n_ne1, n_0, m_bl_t, m_bl_f, if_true, if_false, Nat.reduceAdd, Nat.reduceMul, Nat.reduceSub, Nat.reduceLeDiff, Nat.reduceEqDiff, Nat.add_zero, Nat.add_sub_cancel, Option.toList, List.cons_append, List.nil_append, hi1, i164_91, i164_92, i164_93, i164_94, i164_95, i164_96, i164_97, i164_98, i164_99, rv_27_7, mM_j, a0, a2, ← ea, h1]
  rw [pre]
  simp only [d_do]
  have hz3 : 2 < 3 := by decide
  simp (disch := first | assumption | omega | decide) only [nI_add, n_mul, n_sub, n_le, n_lt, n_eq, n_ne1, n_0, m_bl_t, m_bl_f, if_true, if_false, Nat.reduceAdd, Nat.reduceMul, Nat.reduceSub, Nat.reduceLeDiff, Nat.reduceEqDiff, Nat.add_zero, Nat.add_sub_cancel, Option.toList, List.cons_append, List.nil_append, i164_100s18, i164_340, i164_341, i164_342, i164_343, i164_344, i164_345, c156 (v := 2) ht hu ha hz3 hd hg, b_0]
  cases h4 : (d_push g u 2 i1 d).1
  · simp (disch := first | assumption | omega | decide) only [nI_add, n_mul, n_sub, n_le, n_lt, n_eq, n_ne1, n_0, m_bl_t, m_bl_f, if_true, if_false, Nat.reduceAdd, Nat.reduceMul, Nat.reduceSub, Nat.reduceLeDiff, Nat.reduceEqDiff, Nat.add_zero, Nat.add_sub_cancel, Option.toList, List.cons_append, List.nil_append, d_push_f h4, Bool.false_eq_true, i164_350, i164_351, i164_352, i164_353, i164_354, c155 (k := k) ht hu ha hn hn2 hd hg hk hg2]
  · simp (disch := first | assumption | omega | decide) only [nI_add, n_mul, n_sub, n_le, n_lt, n_eq, n_ne1, n_0, m_bl_t, m_bl_f, if_true, if_false, Nat.reduceAdd, Nat.reduceMul, Nat.reduceSub, Nat.reduceLeDiff, Nat.reduceEqDiff, Nat.add_zero, Nat.add_sub_cancel, Option.toList, List.cons_append, List.nil_append, Bool.true_eq_false, i164_346, i164_347, i164_348, i164_349, i164_354, c162]
theorem w164_k19 (ht : 55 ≤ t) (hu : u < 3) (ha : m_aa a) {p i1 i2 i3 d c : Nat} {cx wx dx kx : Nat → Nat} {B : Int32} (hi : g (150 + 154 * u + 101) = nI 1 ∨ g (150 + 154 * u + 101) = nI 0) (hn : h 17 = nI c) (hn2 : c ≤ 60) (hd : d ≤ 4) (hg : g (150 + 154 * u + 8) = nI d) (hk : k ≤ d) (hg2 : g (150 + 154 * u + 110) = nI k) (hc : ∀ x, x < 8 → g (18 * x + 15) = nI (cx x) ∧ cx x ≤ 4) (hw : ∀ x, x < 8 → d_own g h u x (wx x) (dx x) (kx x)) (hs : ∀ y, y < 6 → ∃ s, s ≤ 16 ∧ J 36 y = nI s) (hp : p < 240) (hact : d_act J p 19 i1 i2 i3 B) {v3 v4 : Int32} : WP V 164 70 [.ref 27, .int (nI u), .int (nI (150 + 154 * u)), .int v3, .int v4, .int (nI p), m_u, m_u, m_u, m_u] [] t (mM J a g h o) L (m_RR e a b) Q = Q (some (.int (d_do J L g h o u 19 i1 i2 i3 d k c cx wx dx kx B).1)) t (mM J a (d_do J L g h o u 19 i1 i2 i3 d k c cx wx dx kx B).2.1 (d_do J L g h o u 19 i1 i2 i3 d k c cx wx dx kx B).2.2.1 (d_do J L g h o u 19 i1 i2 i3 d k c cx wx dx kx B).2.2.2) L (m_RR e a b) := by
  have hA := mA_of ha
  have hat := mA_lt ha ht
  obtain ⟨a0, a2, a1, ab, ac⟩ := hact
  obtain ⟨A1, ea⟩ : ∃ z, z = J 31 p := ⟨_, rfl⟩
  have pre : WP V 164 70 [.ref 27, .int (nI u), .int (nI (150 + 154 * u)), .int v3, .int v4, .int (nI p), m_u, m_u, m_u, m_u] [] t (mM J a g h o) L (m_RR e a b) Q = WP V 164 100 [.ref 27, .int (nI u), .int (nI (150 + 154 * u)), .int v3, .int v4, .int (nI p), .int A1, .int B, .int (nI (150 + 154 * u + 3)), .int (if g (150 + 154 * u + 101) = nI 1 then nI 1 else nI 0)] [.int (nI 19)] t (mM J a g h o) L (m_RR e a b) Q := by
    simp (disch := first | assumption | omega | decide) only [nI_add, n_mul, n_sub, n_le, n_lt, n_eq, n_ne1, n_0, m_bl_t, m_bl_f, if_true, if_false, Nat.reduceAdd, Nat.reduceMul, Nat.reduceSub, Nat.reduceLeDiff, Nat.reduceEqDiff, Nat.add_zero, Nat.add_sub_cancel, Option.toList, List.cons_append, List.nil_append, i164_70, i164_71, i164_72, i164_73, i164_74, i164_75, i164_76, i164_77, i164_78, i164_79, i164_80, i164_81, i164_82, i164_83, i164_84, i164_85, i164_86, i164_87, i164_88, i164_89, i164_90, rv_27_0, rv_27_8, rv_27_9, mM_a, mM_j, a0, a2, ← ea]
    by_cases hi1 : g (150 + 154 * u + 101) = nI 1
    · simp (disch := first | assumption | omega | decide) only [nI_add, n_mul, n_sub, n_le, n_lt, n_eq, n_ne1, n_0, m_bl_t, m_bl_f, if_true, if_false, Nat.reduceAdd, Nat.reduceMul, Nat.reduceSub, Nat.reduceLeDiff, Nat.reduceEqDiff, Nat.add_zero, Nat.add_sub_cancel, Option.toList, List.cons_append, List.nil_append, hi1, i164_91, i164_92, i164_93, i164_94, i164_95, i164_96, i164_97, i164_98, i164_99, rv_27_7, mM_j, a0, a2, ← ea]
    · simp (disch := first | assumption | omega | decide) only [nI_add, n_mul, n_sub, n_le, n_lt, n_eq, n_ne1, n_0, m_bl_t, m_bl_f, if_true, if_false, Nat.reduceAdd, Nat.reduceMul, Nat.reduceSub, Nat.reduceLeDiff, Nat.reduceEqDiff, Nat.add_zero, Nat.add_sub_cancel, Option.toList, List.cons_append, List.nil_append, hi1, i164_91, i164_92, i164_93, i164_94, i164_95, i164_96, i164_97, i164_98, i164_99, rv_27_7, mM_j, a0, a2, ← ea]
  rw [pre]
  simp only [d_do]
  have hz3 : 2 < 3 := by decide
  simp (disch := first | assumption | omega | decide) only [nI_add, n_mul, n_sub, n_le, n_lt, n_eq, n_ne1, n_0, m_bl_t, m_bl_f, if_true, if_false, Nat.reduceAdd, Nat.reduceMul, Nat.reduceSub, Nat.reduceLeDiff, Nat.reduceEqDiff, Nat.add_zero, Nat.add_sub_cancel, Option.toList, List.cons_append, List.nil_append, i164_100s19, i164_355, i164_356, i164_357, i164_358, i164_359, c157 (v := 2) ht hu ha hz3 hd hg hk hg2, b_0]
  cases h4 : (d_pop g u 2 (d_fl g u k) d).1
  · simp (disch := first | assumption | omega | decide) only [nI_add, n_mul, n_sub, n_le, n_lt, n_eq, n_ne1, n_0, m_bl_t, m_bl_f, if_true, if_false, Nat.reduceAdd, Nat.reduceMul, Nat.reduceSub, Nat.reduceLeDiff, Nat.reduceEqDiff, Nat.add_zero, Nat.add_sub_cancel, Option.toList, List.cons_append, List.nil_append, d_pop_f h4, Bool.false_eq_true, i164_364, i164_365, i164_366, i164_367, i164_368, c155 (k := k) ht hu ha hn hn2 hd hg hk hg2]
  · simp (disch := first | assumption | omega | decide) only [nI_add, n_mul, n_sub, n_le, n_lt, n_eq, n_ne1, n_0, m_bl_t, m_bl_f, if_true, if_false, Nat.reduceAdd, Nat.reduceMul, Nat.reduceSub, Nat.reduceLeDiff, Nat.reduceEqDiff, Nat.add_zero, Nat.add_sub_cancel, Option.toList, List.cons_append, List.nil_append, Bool.true_eq_false, i164_360, i164_361, i164_362, i164_363, i164_368, c162]
theorem w164_k20 (ht : 55 ≤ t) (hu : u < 3) (ha : m_aa a) {p i1 i2 i3 d c : Nat} {cx wx dx kx : Nat → Nat} {B : Int32} (hi : g (150 + 154 * u + 101) = nI 1 ∨ g (150 + 154 * u + 101) = nI 0) (hn : h 17 = nI c) (hn2 : c ≤ 60) (hd : d ≤ 4) (hg : g (150 + 154 * u + 8) = nI d) (hk : k ≤ d) (hg2 : g (150 + 154 * u + 110) = nI k) (hc : ∀ x, x < 8 → g (18 * x + 15) = nI (cx x) ∧ cx x ≤ 4) (hw : ∀ x, x < 8 → d_own g h u x (wx x) (dx x) (kx x)) (hs : ∀ y, y < 6 → ∃ s, s ≤ 16 ∧ J 36 y = nI s) (hp : p < 240) (hact : d_act J p 20 i1 i2 i3 B) {v3 v4 : Int32} : WP V 164 70 [.ref 27, .int (nI u), .int (nI (150 + 154 * u)), .int v3, .int v4, .int (nI p), m_u, m_u, m_u, m_u] [] t (mM J a g h o) L (m_RR e a b) Q = Q (some (.int (d_do J L g h o u 20 i1 i2 i3 d k c cx wx dx kx B).1)) t (mM J a (d_do J L g h o u 20 i1 i2 i3 d k c cx wx dx kx B).2.1 (d_do J L g h o u 20 i1 i2 i3 d k c cx wx dx kx B).2.2.1 (d_do J L g h o u 20 i1 i2 i3 d k c cx wx dx kx B).2.2.2) L (m_RR e a b) := by
  have hA := mA_of ha
  have hat := mA_lt ha ht
  obtain ⟨a0, a2, a1, ab, ac⟩ := hact
  obtain ⟨A1, ea⟩ : ∃ z, z = J 31 p := ⟨_, rfl⟩
  have h1 := (a1 (by decide)).1
  have h1l : i1 < 4 := (a1 (by decide)).2
  rw [← ea] at h1
  have pre : WP V 164 70 [.ref 27, .int (nI u), .int (nI (150 + 154 * u)), .int v3, .int v4, .int (nI p), m_u, m_u, m_u, m_u] [] t (mM J a g h o) L (m_RR e a b) Q = WP V 164 100 [.ref 27, .int (nI u), .int (nI (150 + 154 * u)), .int v3, .int v4, .int (nI p), .int (nI i1), .int B, .int (nI (150 + 154 * u + 3)), .int (if g (150 + 154 * u + 101) = nI 1 then nI 1 else nI 0)] [.int (nI 20)] t (mM J a g h o) L (m_RR e a b) Q := by
    simp (disch := first | assumption | omega | decide) only [nI_add, n_mul, n_sub, n_le, n_lt, n_eq, n_ne1, n_0, m_bl_t, m_bl_f, if_true, if_false, Nat.reduceAdd, Nat.reduceMul, Nat.reduceSub, Nat.reduceLeDiff, Nat.reduceEqDiff, Nat.add_zero, Nat.add_sub_cancel, Option.toList, List.cons_append, List.nil_append, i164_70, i164_71, i164_72, i164_73, i164_74, i164_75, i164_76, i164_77, i164_78, i164_79, i164_80, i164_81, i164_82, i164_83, i164_84, i164_85, i164_86, i164_87, i164_88, i164_89, i164_90, rv_27_0, rv_27_8, rv_27_9, mM_a, mM_j, a0, a2, ← ea, h1]
    by_cases hi1 : g (150 + 154 * u + 101) = nI 1
    · simp (disch := first | assumption | omega | decide) only [nI_add, n_mul, n_sub, n_le, n_lt, n_eq, n_ne1, n_0, m_bl_t, m_bl_f, if_true, if_false, Nat.reduceAdd, Nat.reduceMul, Nat.reduceSub, Nat.reduceLeDiff, Nat.reduceEqDiff, Nat.add_zero, Nat.add_sub_cancel, Option.toList, List.cons_append, List.nil_append, hi1, i164_91, i164_92, i164_93, i164_94, i164_95, i164_96, i164_97, i164_98, i164_99, rv_27_7, mM_j, a0, a2, ← ea, h1]
    · simp (disch := first | assumption | omega | decide) only [nI_add, n_mul, n_sub, n_le, n_lt, n_eq, n_ne1, n_0, m_bl_t, m_bl_f, if_true, if_false, Nat.reduceAdd, Nat.reduceMul, Nat.reduceSub, Nat.reduceLeDiff, Nat.reduceEqDiff, Nat.add_zero, Nat.add_sub_cancel, Option.toList, List.cons_append, List.nil_append, hi1, i164_91, i164_92, i164_93, i164_94, i164_95, i164_96, i164_97, i164_98, i164_99, rv_27_7, mM_j, a0, a2, ← ea, h1]
  rw [pre]
  simp only [d_do]
  simp (disch := first | assumption | omega | decide) only [nI_add, n_mul, n_sub, n_le, n_lt, n_eq, n_ne1, n_0, m_bl_t, m_bl_f, if_true, if_false, Nat.reduceAdd, Nat.reduceMul, Nat.reduceSub, Nat.reduceLeDiff, Nat.reduceEqDiff, Nat.add_zero, Nat.add_sub_cancel, Option.toList, List.cons_append, List.nil_append, i164_100s20, i164_369, i164_370, i164_371, i164_372, i164_373, i164_374, i164_375, i164_376, i164_377, i164_378, i164_379, i164_380, i164_381, i164_382, rv_27_0, mM_a, c155 (k := k) ht hu ha hn hn2 hd hg hk hg2]
theorem w164_k21 (ht : 55 ≤ t) (hu : u < 3) (ha : m_aa a) {p i1 i2 i3 d c : Nat} {cx wx dx kx : Nat → Nat} {B : Int32} (hi : g (150 + 154 * u + 101) = nI 1 ∨ g (150 + 154 * u + 101) = nI 0) (hn : h 17 = nI c) (hn2 : c ≤ 60) (hd : d ≤ 4) (hg : g (150 + 154 * u + 8) = nI d) (hk : k ≤ d) (hg2 : g (150 + 154 * u + 110) = nI k) (hc : ∀ x, x < 8 → g (18 * x + 15) = nI (cx x) ∧ cx x ≤ 4) (hw : ∀ x, x < 8 → d_own g h u x (wx x) (dx x) (kx x)) (hs : ∀ y, y < 6 → ∃ s, s ≤ 16 ∧ J 36 y = nI s) (hp : p < 240) (hact : d_act J p 21 i1 i2 i3 B) {v3 v4 : Int32} : WP V 164 70 [.ref 27, .int (nI u), .int (nI (150 + 154 * u)), .int v3, .int v4, .int (nI p), m_u, m_u, m_u, m_u] [] t (mM J a g h o) L (m_RR e a b) Q = Q (some (.int (d_do J L g h o u 21 i1 i2 i3 d k c cx wx dx kx B).1)) t (mM J a (d_do J L g h o u 21 i1 i2 i3 d k c cx wx dx kx B).2.1 (d_do J L g h o u 21 i1 i2 i3 d k c cx wx dx kx B).2.2.1 (d_do J L g h o u 21 i1 i2 i3 d k c cx wx dx kx B).2.2.2) L (m_RR e a b) := by
  have hA := mA_of ha
  have hat := mA_lt ha ht
  obtain ⟨a0, a2, a1, ab, ac⟩ := hact
  obtain ⟨A1, ea⟩ : ∃ z, z = J 31 p := ⟨_, rfl⟩
  have h1 := (a1 (by decide)).1
  have h1l : i1 < 4 := (a1 (by decide)).2
  rw [← ea] at h1
  have hb := (ab (by decide)).1
  have hbl : i2 < 4 := (ab (by decide)).2
  have pre : WP V 164 70 [.ref 27, .int (nI u), .int (nI (150 + 154 * u)), .int v3, .int v4, .int (nI p), m_u, m_u, m_u, m_u] [] t (mM J a g h o) L (m_RR e a b) Q = WP V 164 100 [.ref 27, .int (nI u), .int (nI (150 + 154 * u)), .int v3, .int v4, .int (nI p), .int (nI i1), .int (nI i2), .int (nI (150 + 154 * u + 3)), .int (if g (150 + 154 * u + 101) = nI 1 then nI 1 else nI 0)] [.int (nI 21)] t (mM J a g h o) L (m_RR e a b) Q := by
    simp (disch := first | assumption | omega | decide) only [nI_add, n_mul, n_sub, n_le, n_lt, n_eq, n_ne1, n_0, m_bl_t, m_bl_f, if_true, if_false, Nat.reduceAdd, Nat.reduceMul, Nat.reduceSub, Nat.reduceLeDiff, Nat.reduceEqDiff, Nat.add_zero, Nat.add_sub_cancel, Option.toList, List.cons_append, List.nil_append, i164_70, i164_71, i164_72, i164_73, i164_74, i164_75, i164_76, i164_77, i164_78, i164_79, i164_80, i164_81, i164_82, i164_83, i164_84, i164_85, i164_86, i164_87, i164_88, i164_89, i164_90, rv_27_0, rv_27_8, rv_27_9, mM_a, mM_j, a0, a2, ← ea, h1, hb]
    by_cases hi1 : g (150 + 154 * u + 101) = nI 1
    · simp (disch := first | assumption | omega | decide) only [nI_add, n_mul, n_sub, n_le, n_lt, n_eq, n_ne1, n_0, m_bl_t, m_bl_f, if_true, if_false, Nat.reduceAdd, Nat.reduceMul, Nat.reduceSub, Nat.reduceLeDiff, Nat.reduceEqDiff, Nat.add_zero, Nat.add_sub_cancel, Option.toList, List.cons_append, List.nil_append, hi1, i164_91, i164_92, i164_93, i164_94, i164_95, i164_96, i164_97, i164_98, i164_99, rv_27_7, mM_j, a0, a2, ← ea, h1, hb]
    · simp (disch := first | assumption | omega | decide) only [nI_add, n_mul, n_sub, n_le, n_lt, n_eq, n_ne1, n_0, m_bl_t, m_bl_f, if_true, if_false, Nat.reduceAdd, Nat.reduceMul, Nat.reduceSub, Nat.reduceLeDiff, Nat.reduceEqDiff, Nat.add_zero, Nat.add_sub_cancel, Option.toList, List.cons_append, List.nil_append, hi1, i164_91, i164_92, i164_93, i164_94, i164_95, i164_96, i164_97, i164_98, i164_99, rv_27_7, mM_j, a0, a2, ← ea, h1, hb]
  rw [pre]
  simp only [d_do, hb]
  simp (disch := first | assumption | omega | decide) only [nI_add, n_mul, n_sub, n_le, n_lt, n_eq, n_ne1, n_0, m_bl_t, m_bl_f, if_true, if_false, Nat.reduceAdd, Nat.reduceMul, Nat.reduceSub, Nat.reduceLeDiff, Nat.reduceEqDiff, Nat.add_zero, Nat.add_sub_cancel, Option.toList, List.cons_append, List.nil_append, i164_100sd, i164_383, i164_384, i164_385, i164_386, i164_387, i164_388, i164_389, i164_390, i164_391, i164_392, i164_393, i164_394, i164_395, i164_396, i164_397, i164_398, i164_399, i164_400, i164_401, i164_402, i164_403, i164_404, i164_405, i164_406, i164_407, i164_408, rv_27_0, mM_a, mM_sa, c162, c163]
  by_cases h3 : g (150 + 154 * u + 3 + i1) < g (150 + 154 * u + 3 + i2)
  · simp [h3, Int32.not_le.mpr h3]
  · simp [h3, Int32.not_lt.mp h3]
def d_take (J : m_I) (L : m_L) (g h : Nat → Int32) (o : m_I) (u : Nat) (w : Bool) (kk i1 i2 i3 d k c : Nat) (cx wx dx kx : Nat → Nat) (B : Int32) : d_R :=
  if g (150 + 154 * u) = nI 4 then d_wakes g h o u d k
  else if w then d_do J L g h o u kk i1 i2 i3 d k c cx wx dx kx B
  else if decide (g (150 + 154 * u + 101) = nI 1) || decide (0 < d) then d_fails g h o u (nI 2) d k c
  else (nI 4, m_sc g (150 + 154 * u) (nI 2), h, o)
theorem w164_k (ht : 55 ≤ t) (hu : u < 3) (ha : m_aa a) {p i1 i2 i3 d c : Nat} {cx wx dx kx : Nat → Nat} {B : Int32} (hi : g (150 + 154 * u + 101) = nI 1 ∨ g (150 + 154 * u + 101) = nI 0) (hn : h 17 = nI c) (hn2 : c ≤ 60) (hd : d ≤ 4) (hg : g (150 + 154 * u + 8) = nI d) (hk : k ≤ d) (hg2 : g (150 + 154 * u + 110) = nI k) (hc : ∀ x, x < 8 → g (18 * x + 15) = nI (cx x) ∧ cx x ≤ 4) (hw : ∀ x, x < 8 → d_own g h u x (wx x) (dx x) (kx x)) (hs : ∀ y, y < 6 → ∃ s, s ≤ 16 ∧ J 36 y = nI s) (hp : p < 240) {kk : Nat} (hkk : kk ≤ 21) (hact : d_act J p kk i1 i2 i3 B) (hrow : kk = 8 → (d_reads g h u i2 (cx i2) d k (wx i2) (dx i2) (kx i2)).1 = nI 0 → (d_reads g h u i2 (cx i2) d k (wx i2) (dx i2) (kx i2)).2.2 22 = nI 2 → ∃ y, y < 6 ∧ (d_reads g h u i2 (cx i2) d k (wx i2) (dx i2) (kx i2)).2.2 23 = nI y) {v3 v4 : Int32} : WP V 164 70 [.ref 27, .int (nI u), .int (nI (150 + 154 * u)), .int v3, .int v4, .int (nI p), m_u, m_u, m_u, m_u] [] t (mM J a g h o) L (m_RR e a b) Q = Q (some (.int (d_do J L g h o u kk i1 i2 i3 d k c cx wx dx kx B).1)) t (mM J a (d_do J L g h o u kk i1 i2 i3 d k c cx wx dx kx B).2.1 (d_do J L g h o u kk i1 i2 i3 d k c cx wx dx kx B).2.2.1 (d_do J L g h o u kk i1 i2 i3 d k c cx wx dx kx B).2.2.2) L (m_RR e a b) := by
  obtain rfl | rfl | rfl | rfl | rfl | rfl | rfl | rfl | rfl | rfl | rfl | rfl | rfl | rfl | rfl | rfl | rfl | rfl | rfl | rfl | rfl | rfl : kk = 0 ∨ kk = 1 ∨ kk = 2 ∨ kk = 3 ∨ kk = 4 ∨ kk = 5 ∨ kk = 6 ∨ kk = 7 ∨ kk = 8 ∨ kk = 9 ∨ kk = 10 ∨ kk = 11 ∨ kk = 12 ∨ kk = 13 ∨ kk = 14 ∨ kk = 15 ∨ kk = 16 ∨ kk = 17 ∨ kk = 18 ∨ kk = 19 ∨ kk = 20 ∨ kk = 21 := by omega
  · exact w164_k0 ht hu ha hi hn hn2 hd hg hk hg2 hc hw hs hp hact
  · exact w164_k1 ht hu ha hi hn hn2 hd hg hk hg2 hc hw hs hp hact
  · exact w164_k2 ht hu ha hi hn hn2 hd hg hk hg2 hc hw hs hp hact
  · exact w164_k3 ht hu ha hi hn hn2 hd hg hk hg2 hc hw hs hp hact
  · exact w164_k4 ht hu ha hi hn hn2 hd hg hk hg2 hc hw hs hp hact
  · exact w164_k5 ht hu ha hi hn hn2 hd hg hk hg2 hc hw hs hp hact
  · exact w164_k6 ht hu ha hi hn hn2 hd hg hk hg2 hc hw hs hp hact
  · exact w164_k7 ht hu ha hi hn hn2 hd hg hk hg2 hc hw hs hp hact
  · exact w164_k8 ht hu ha hi hn hn2 hd hg hk hg2 hc hw hs hp hact (hrow rfl)
  · exact w164_k9 ht hu ha hi hn hn2 hd hg hk hg2 hc hw hs hp hact
  · exact w164_k10 ht hu ha hi hn hn2 hd hg hk hg2 hc hw hs hp hact
  · exact w164_k11 ht hu ha hi hn hn2 hd hg hk hg2 hc hw hs hp hact
  · exact w164_k12 ht hu ha hi hn hn2 hd hg hk hg2 hc hw hs hp hact
  · exact w164_k13 ht hu ha hi hn hn2 hd hg hk hg2 hc hw hs hp hact
  · exact w164_k14 ht hu ha hi hn hn2 hd hg hk hg2 hc hw hs hp hact
  · exact w164_k15 ht hu ha hi hn hn2 hd hg hk hg2 hc hw hs hp hact
  · exact w164_k16 ht hu ha hi hn hn2 hd hg hk hg2 hc hw hs hp hact
  · exact w164_k17 ht hu ha hi hn hn2 hd hg hk hg2 hc hw hs hp hact
  · exact w164_k18 ht hu ha hi hn hn2 hd hg hk hg2 hc hw hs hp hact
  · exact w164_k19 ht hu ha hi hn hn2 hd hg hk hg2 hc hw hs hp hact
  · exact w164_k20 ht hu ha hi hn hn2 hd hg hk hg2 hc hw hs hp hact
  · exact w164_k21 ht hu ha hi hn hn2 hd hg hk hg2 hc hw hs hp hact
theorem w164 (ht : 55 ≤ t) (hu : u < 3) (ha : m_aa a) {cc pp i1 i2 i3 d c s : Nat} {cx wx dx kx : Nat → Nat} {B : Int32} (hi : g (150 + 154 * u + 101) = nI 1 ∨ g (150 + 154 * u + 101) = nI 0) (hn : h 17 = nI c) (hn2 : c ≤ 60) (hd : d ≤ 4) (hg : g (150 + 154 * u + 8) = nI d) (hk : k ≤ d) (hg2 : g (150 + 154 * u + 110) = nI k) (hc : ∀ x, x < 8 → g (18 * x + 15) = nI (cx x) ∧ cx x ≤ 4) (hw : ∀ x, x < 8 → d_own g h u x (wx x) (dx x) (kx x)) (hs : ∀ y, y < 6 → ∃ s, s ≤ 16 ∧ J 36 y = nI s) {kk : Nat} (hcc : g (150 + 154 * u + 7) = nI cc) (hcc2 : cc < 6) (hpp : g (150 + 154 * u + 1) = nI pp) (hpp2 : pp < 1000) (hsz : J 29 cc = nI s) (hs2 : s ≤ 40) (hact : pp < s → kk ≤ 21 ∧ d_act J (40 * cc + pp) kk i1 i2 i3 B) (hrow : kk = 8 → (d_reads g h u i2 (cx i2) d k (wx i2) (dx i2) (kx i2)).1 = nI 0 → (d_reads g h u i2 (cx i2) d k (wx i2) (dx i2) (kx i2)).2.2 22 = nI 2 → ∃ y, y < 6 ∧ (d_reads g h u i2 (cx i2) d k (wx i2) (dx i2) (kx i2)).2.2 23 = nI y): WP V 164 0 (m_loc 164 [.ref 27, .int (nI u)]) [] t (mM J a g h o) L (m_RR e a b) Q = Q (some (.int (d_take J L g h o u (decide (pp < s)) kk i1 i2 i3 d k c cx wx dx kx B).1)) t (mM J a (d_take J L g h o u (decide (pp < s)) kk i1 i2 i3 d k c cx wx dx kx B).2.1 (d_take J L g h o u (decide (pp < s)) kk i1 i2 i3 d k c cx wx dx kx B).2.2.1 (d_take J L g h o u (decide (pp < s)) kk i1 i2 i3 d k c cx wx dx kx B).2.2.2) L (m_RR e a b) := by
  have hA := mA_of ha
  have hat := mA_lt ha ht
  rw [show m_loc 164 [.ref 27, .int (nI u)] = [.ref 27, .int (nI u), m_u, m_u, m_u, m_u, m_u, m_u, m_u, m_u] from rfl]
  unfold d_take
  simp (disch := first | assumption | omega | decide) only [nI_add, n_mul, n_sub, n_le, n_lt, n_eq, n_ne1, n_0, m_bl_t, m_bl_f, if_true, if_false, Nat.reduceAdd, Nat.reduceMul, Nat.reduceSub, Nat.reduceLeDiff, Nat.reduceEqDiff, Nat.add_zero, Nat.add_sub_cancel, Option.toList, List.cons_append, List.nil_append, i164_0, i164_1, i164_2, i164_3, i164_4, i164_5, i164_6, i164_7, i164_8, i164_9, rv_27_0, mM_a, c113]
  by_cases h4 : g (150 + 154 * u) = nI 4
  · simp (disch := first | assumption | omega | decide) only [nI_add, n_mul, n_sub, n_le, n_lt, n_eq, n_ne1, n_0, m_bl_t, m_bl_f, if_true, if_false, Nat.reduceAdd, Nat.reduceMul, Nat.reduceSub, Nat.reduceLeDiff, Nat.reduceEqDiff, Nat.add_zero, Nat.add_sub_cancel, Option.toList, List.cons_append, List.nil_append, h4, i164_10, i164_11, i164_12, i164_13, i164_14, c161 ht hu ha hd hg hk hg2]
  · simp (disch := first | assumption | omega | decide) only [nI_add, n_mul, n_sub, n_le, n_lt, n_eq, n_ne1, n_0, m_bl_t, m_bl_f, if_true, if_false, Nat.reduceAdd, Nat.reduceMul, Nat.reduceSub, Nat.reduceLeDiff, Nat.reduceEqDiff, Nat.add_zero, Nat.add_sub_cancel, Option.toList, List.cons_append, List.nil_append, h4, i164_10, i164_15, i164_16, i164_17, i164_18, i164_19, i164_20, i164_21, i164_22, i164_23, i164_24, i164_25, i164_26, i164_27, i164_28, i164_29, i164_30, i164_31, i164_32, i164_33, rv_27_0, rv_27_6, mM_a, mM_j, hcc, hpp, hsz]
    by_cases h5 : pp < s
    · have hp9 : 40 * cc + pp < 240 := by omega
      obtain ⟨hk1, hk2⟩ := hact h5
      simp (disch := first | assumption | omega | decide) only [nI_add, n_mul, n_sub, n_le, n_lt, n_eq, n_ne1, n_0, m_bl_t, m_bl_f, if_true, if_false, Nat.reduceAdd, Nat.reduceMul, Nat.reduceSub, Nat.reduceLeDiff, Nat.reduceEqDiff, Nat.add_zero, Nat.add_sub_cancel, Option.toList, List.cons_append, List.nil_append, h5, i164_34, i164_64, i164_65, i164_66, i164_67, i164_68, i164_69, decide_true, w164_k ht hu ha hi hn hn2 hd hg hk hg2 hc hw hs hp9 hk1 hk2 hrow]
    · have h10 : ¬ nI 1 = nI 0 := by decide
      have h01 : ¬ nI 0 = nI 1 := by decide
      simp (disch := first | assumption | omega | decide) only [nI_add, n_mul, n_sub, n_le, n_lt, n_eq, n_ne1, n_0, m_bl_t, m_bl_f, if_true, if_false, Nat.reduceAdd, Nat.reduceMul, Nat.reduceSub, Nat.reduceLeDiff, Nat.reduceEqDiff, Nat.add_zero, Nat.add_sub_cancel, Option.toList, List.cons_append, List.nil_append, h5, i164_34, i164_35, i164_36, i164_37, i164_38, i164_39, i164_40, i164_41, rv_27_0, mM_a, decide_false, Bool.false_eq_true]
      by_cases h6 : g (150 + 154 * u + 101) = nI 1
      · simp (disch := first | assumption | omega | decide) only [nI_add, n_mul, n_sub, n_le, n_lt, n_eq, n_ne1, n_0, m_bl_t, m_bl_f, if_true, if_false, Nat.reduceAdd, Nat.reduceMul, Nat.reduceSub, Nat.reduceLeDiff, Nat.reduceEqDiff, Nat.add_zero, Nat.add_sub_cancel, Option.toList, List.cons_append, List.nil_append, h6, i164_42, i164_50, i164_51, i164_52, i164_53, i164_54, decide_true, Bool.true_or, c155 (k := k) ht hu ha hn hn2 hd hg hk hg2]
      · simp (disch := first | assumption | omega | decide) only [nI_add, n_mul, n_sub, n_le, n_lt, n_eq, n_ne1, n_0, m_bl_t, m_bl_f, if_true, if_false, Nat.reduceAdd, Nat.reduceMul, Nat.reduceSub, Nat.reduceLeDiff, Nat.reduceEqDiff, Nat.add_zero, Nat.add_sub_cancel, Option.toList, List.cons_append, List.nil_append, h6, i164_42, i164_43, i164_44, i164_45, i164_46, i164_47, i164_48, rv_27_0, mM_a, hg, decide_false, Bool.false_or]
        by_cases h7 : d = 0
        · subst h7
          simp (disch := first | assumption | omega | decide) only [nI_add, n_mul, n_sub, n_le, n_lt, n_eq, n_ne1, n_0, m_bl_t, m_bl_f, if_true, if_false, Nat.reduceAdd, Nat.reduceMul, Nat.reduceSub, Nat.reduceLeDiff, Nat.reduceEqDiff, Nat.add_zero, Nat.add_sub_cancel, Option.toList, List.cons_append, List.nil_append, i164_49, i164_55, i164_56, i164_57, i164_58, i164_59, i164_60, i164_61, i164_62, i164_63, rv_27_0, mM_a, mM_sa, Nat.le_refl, Nat.lt_irrefl, decide_false, Bool.false_eq_true]
        · have h8 : 0 < d := by omega
          have h9 : ¬ d ≤ 0 := by omega
          simp (disch := first | assumption | omega | decide) only [nI_add, n_mul, n_sub, n_le, n_lt, n_eq, n_ne1, n_0, m_bl_t, m_bl_f, if_true, if_false, Nat.reduceAdd, Nat.reduceMul, Nat.reduceSub, Nat.reduceLeDiff, Nat.reduceEqDiff, Nat.add_zero, Nat.add_sub_cancel, Option.toList, List.cons_append, List.nil_append, h8, h9, i164_49, i164_50, i164_51, i164_52, i164_53, i164_54, decide_true, c155 (k := k) ht hu ha hn hn2 hd hg hk hg2]
theorem c164 (ht : 55 ≤ t) (hu : u < 3) (ha : m_aa a) {cc pp i1 i2 i3 d c s : Nat} {cx wx dx kx : Nat → Nat} {B : Int32} (hi : g (150 + 154 * u + 101) = nI 1 ∨ g (150 + 154 * u + 101) = nI 0) (hn : h 17 = nI c) (hn2 : c ≤ 60) (hd : d ≤ 4) (hg : g (150 + 154 * u + 8) = nI d) (hk : k ≤ d) (hg2 : g (150 + 154 * u + 110) = nI k) (hc : ∀ x, x < 8 → g (18 * x + 15) = nI (cx x) ∧ cx x ≤ 4) (hw : ∀ x, x < 8 → d_own g h u x (wx x) (dx x) (kx x)) (hs : ∀ y, y < 6 → ∃ s, s ≤ 16 ∧ J 36 y = nI s) {kk : Nat} (hcc : g (150 + 154 * u + 7) = nI cc) (hcc2 : cc < 6) (hpp : g (150 + 154 * u + 1) = nI pp) (hpp2 : pp < 1000) (hsz : J 29 cc = nI s) (hs2 : s ≤ 40) (hact : pp < s → kk ≤ 21 ∧ d_act J (40 * cc + pp) kk i1 i2 i3 B) (hrow : kk = 8 → (d_reads g h u i2 (cx i2) d k (wx i2) (dx i2) (kx i2)).1 = nI 0 → (d_reads g h u i2 (cx i2) d k (wx i2) (dx i2) (kx i2)).2.2 22 = nI 2 → ∃ y, y < 6 ∧ (d_reads g h u i2 (cx i2) d k (wx i2) (dx i2) (kx i2)).2.2 23 = nI y) : WPC V 164 [.ref 27, .int (nI u)] m n ls st t (mM J a g h o) L (m_RR e a b) Q = WP V m n ls ((.int (d_take J L g h o u (decide (pp < s)) kk i1 i2 i3 d k c cx wx dx kx B).1) :: st) t (mM J a (d_take J L g h o u (decide (pp < s)) kk i1 i2 i3 d k c cx wx dx kx B).2.1 (d_take J L g h o u (decide (pp < s)) kk i1 i2 i3 d k c cx wx dx kx B).2.2.1 (d_take J L g h o u (decide (pp < s)) kk i1 i2 i3 d k c cx wx dx kx B).2.2.2) L (m_RR e a b) Q := wpc_of (fun Q => w164 ht hu ha hi hn hn2 hd hg hk hg2 hc hw hs hcc hcc2 hpp hpp2 hsz hs2 hact hrow)
theorem w169 (ht : 55 ≤ t) (hu : u < 3) (ha : m_aa a) {cc pp i1 i2 i3 d c s : Nat} {cx wx dx kx : Nat → Nat} {B : Int32} (hi : g (150 + 154 * u + 101) = nI 1 ∨ g (150 + 154 * u + 101) = nI 0) (hn : h 17 = nI c) (hn2 : c ≤ 60) (hd : d ≤ 4) (hg : g (150 + 154 * u + 8) = nI d) (hk : k ≤ d) (hg2 : g (150 + 154 * u + 110) = nI k) (hc : ∀ x, x < 8 → g (18 * x + 15) = nI (cx x) ∧ cx x ≤ 4) (hw : ∀ x, x < 8 → d_own g h u x (wx x) (dx x) (kx x)) (hs : ∀ y, y < 6 → ∃ s, s ≤ 16 ∧ J 36 y = nI s) {kk : Nat} (hcc : g (150 + 154 * u + 7) = nI cc) (hcc2 : cc < 6) (hpp : g (150 + 154 * u + 1) = nI pp) (hpp2 : pp < 1000) (hsz : J 29 cc = nI s) (hs2 : s ≤ 40) (hact : pp < s → kk ≤ 21 ∧ d_act J (40 * cc + pp) kk i1 i2 i3 B) (hrow : kk = 8 → (d_reads g h u i2 (cx i2) d k (wx i2) (dx i2) (kx i2)).1 = nI 0 → (d_reads g h u i2 (cx i2) d k (wx i2) (dx i2) (kx i2)).2.2 22 = nI 2 → ∃ y, y < 6 ∧ (d_reads g h u i2 (cx i2) d k (wx i2) (dx i2) (kx i2)).2.2 23 = nI y) : WP V 169 0 (m_loc 169 [.ref 27, .int (nI u)]) [] t (mM J a g h o) L (m_RR e a b) Q = Q (some (.int (d_std (d_take J L g h o u (decide (pp < s)) kk i1 i2 i3 d k c cx wx dx kx B) u).1)) t (mM J a (d_std (d_take J L g h o u (decide (pp < s)) kk i1 i2 i3 d k c cx wx dx kx B) u).2.1 (d_std (d_take J L g h o u (decide (pp < s)) kk i1 i2 i3 d k c cx wx dx kx B) u).2.2.1 (d_std (d_take J L g h o u (decide (pp < s)) kk i1 i2 i3 d k c cx wx dx kx B) u).2.2.2) L (m_RR e a b) := by
  have hA := mA_of ha
  have hat := mA_lt ha ht
  rw [show m_loc 169 [.ref 27, .int (nI u)] = [.ref 27, .int (nI u), m_u] from rfl]
  simp (disch := first | assumption | omega | decide) only [nI_add, n_mul, n_sub, n_le, n_lt, n_eq, n_ne1, n_0, m_bl_t, m_bl_f, if_true, if_false, Nat.reduceAdd, Nat.reduceMul, Nat.reduceSub, Nat.reduceLeDiff, Nat.reduceEqDiff, Nat.add_zero, Nat.add_sub_cancel, Option.toList, List.cons_append, List.nil_append, i169_0, i169_1, i169_2, c164 ht hu ha hi hn hn2 hd hg hk hg2 hc hw hs hcc hcc2 hpp hpp2 hsz hs2 hact hrow]
  obtain ⟨q, hq⟩ : ∃ q, q = (d_take J L g h o u (decide (pp < s)) kk i1 i2 i3 d k c cx wx dx kx B) := ⟨_, rfl⟩
  rw [← hq]
  unfold d_std
  simp (disch := first | assumption | omega | decide) only [nI_add, n_mul, n_sub, n_le, n_lt, n_eq, n_ne1, n_0, m_bl_t, m_bl_f, if_true, if_false, Nat.reduceAdd, Nat.reduceMul, Nat.reduceSub, Nat.reduceLeDiff, Nat.reduceEqDiff, Nat.add_zero, Nat.add_sub_cancel, Option.toList, List.cons_append, List.nil_append, i169_3, i169_4, i169_5, i169_6, i169_7, i169_8, rv_27_0, mM_a, c113]
  by_cases h1 : q.1 = nI 0
  · simp (disch := first | assumption | omega | decide) only [nI_add, n_mul, n_sub, n_le, n_lt, n_eq, n_ne1, n_0, m_bl_t, m_bl_f, if_true, if_false, Nat.reduceAdd, Nat.reduceMul, Nat.reduceSub, Nat.reduceLeDiff, Nat.reduceEqDiff, Nat.add_zero, Nat.add_sub_cancel, Option.toList, List.cons_append, List.nil_append, h1, i169_9, i169_10, i169_11, i169_13, i169_14, i169_15, i169_16, i169_17, i169_18, i169_19, i169_20, mM_a, mM_sa]
  · simp (disch := first | assumption | omega | decide) only [nI_add, n_mul, n_sub, n_le, n_lt, n_eq, n_ne1, n_0, m_bl_t, m_bl_f, if_true, if_false, Nat.reduceAdd, Nat.reduceMul, Nat.reduceSub, Nat.reduceLeDiff, Nat.reduceEqDiff, Nat.add_zero, Nat.add_sub_cancel, Option.toList, List.cons_append, List.nil_append, h1, i169_9, i169_12, i169_13, i169_14, i169_15, i169_16, i169_17, i169_18, i169_19, i169_20, mM_a, mM_sa]
theorem c169 (ht : 55 ≤ t) (hu : u < 3) (ha : m_aa a) {cc pp i1 i2 i3 d c s : Nat} {cx wx dx kx : Nat → Nat} {B : Int32} (hi : g (150 + 154 * u + 101) = nI 1 ∨ g (150 + 154 * u + 101) = nI 0) (hn : h 17 = nI c) (hn2 : c ≤ 60) (hd : d ≤ 4) (hg : g (150 + 154 * u + 8) = nI d) (hk : k ≤ d) (hg2 : g (150 + 154 * u + 110) = nI k) (hc : ∀ x, x < 8 → g (18 * x + 15) = nI (cx x) ∧ cx x ≤ 4) (hw : ∀ x, x < 8 → d_own g h u x (wx x) (dx x) (kx x)) (hs : ∀ y, y < 6 → ∃ s, s ≤ 16 ∧ J 36 y = nI s) {kk : Nat} (hcc : g (150 + 154 * u + 7) = nI cc) (hcc2 : cc < 6) (hpp : g (150 + 154 * u + 1) = nI pp) (hpp2 : pp < 1000) (hsz : J 29 cc = nI s) (hs2 : s ≤ 40) (hact : pp < s → kk ≤ 21 ∧ d_act J (40 * cc + pp) kk i1 i2 i3 B) (hrow : kk = 8 → (d_reads g h u i2 (cx i2) d k (wx i2) (dx i2) (kx i2)).1 = nI 0 → (d_reads g h u i2 (cx i2) d k (wx i2) (dx i2) (kx i2)).2.2 22 = nI 2 → ∃ y, y < 6 ∧ (d_reads g h u i2 (cx i2) d k (wx i2) (dx i2) (kx i2)).2.2 23 = nI y) : WPC V 169 [.ref 27, .int (nI u)] m n ls st t (mM J a g h o) L (m_RR e a b) Q = WP V m n ls ((.int (d_std (d_take J L g h o u (decide (pp < s)) kk i1 i2 i3 d k c cx wx dx kx B) u).1) :: st) t (mM J a (d_std (d_take J L g h o u (decide (pp < s)) kk i1 i2 i3 d k c cx wx dx kx B) u).2.1 (d_std (d_take J L g h o u (decide (pp < s)) kk i1 i2 i3 d k c cx wx dx kx B) u).2.2.1 (d_std (d_take J L g h o u (decide (pp < s)) kk i1 i2 i3 d k c cx wx dx kx B) u).2.2.2) L (m_RR e a b) Q := wpc_of (fun Q => w169 ht hu ha hi hn hn2 hd hg hk hg2 hc hw hs hcc hcc2 hpp hpp2 hsz hs2 hact hrow)
end T36
