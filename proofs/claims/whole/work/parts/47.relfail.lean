/-! class and model alike: failures -/
theorem c_bring_sc {f : Nat → Int32} {u s : Nat} {y : Int32} (hu : u < 3) : c_bring (m_sc f (12 + u) y) u s = m_sc (c_bring f u s) (12 + u) y := by
  funext j
  by_cases h1 : j = 12 + u
  · subst h1
    rw [c_bring_o (by omega) (by omega), m_sc_self, m_sc_self]
  · rw [m_sc_ne h1]
    by_cases h2 : 21 + 4 * u ≤ j ∧ j < 25 + 4 * u
    · obtain ⟨r, rfl⟩ : ∃ r, j = 21 + 4 * u + r := ⟨j - (21 + 4 * u), by omega⟩
      rw [c_bring_r hu (by omega), c_bring_r hu (by omega), m_sc_ne (by omega)]
    · by_cases h3 : 176 + 47 * u ≤ j ∧ j < 184 + 47 * u
      · obtain ⟨r, rfl⟩ : ∃ r, j = 176 + 47 * u + r := ⟨j - (176 + 47 * u), by omega⟩
        rw [c_bring_l hu (by omega), c_bring_l hu (by omega), m_sc_ne (by omega)]
      · by_cases h4 : 184 + 47 * u ≤ j ∧ j < 192 + 47 * u
        · obtain ⟨r, rfl⟩ : ∃ r, j = 184 + 47 * u + r := ⟨j - (184 + 47 * u), by omega⟩
          rw [c_bring_m hu (by omega), c_bring_m hu (by omega), m_sc_ne (by omega)]
        · rw [c_bring_o (by omega) (by omega), c_bring_o (by omega) (by omega), m_sc_ne h1]
/-- what steps leave to the outer house -/
def rl_O (f g h : Nat → Int32) : Prop := f 560 = h 3 ∧ ∀ u, u < 3 → f (550 + u) = g (150 + 154 * u + 151) ∧ f (553 + u) = g (150 + 154 * u + 152) ∧ f (556 + u) = g (150 + 154 * u + 153) ∧ (f (3 + u) = nI 0 → f (550 + u) = nI 0 ∧ f (553 + u) = nI 0 ∧ f (556 + u) = nI 0)
def rl_E (ex : Bool) (f0 nn0 ww0 h0 : Nat → Int32) (o0 : m_I) (f g h nn ww : Nat → Int32) (oo : m_I) (b b2 k n : Nat) : Prop :=
  (∀ j, 561 ≤ j → f j = f0 j) ∧ (∀ j, j ≠ 2 → nn j = nn0 j) ∧ (∀ j, j ≠ 2 → j ≠ 3 → j ≠ 4 → j ≠ 17 → j ≠ 22 → j ≠ 23 → h j = h0 j) ∧ (nn 2 = nI k ∧ h 17 = nI n ∧ n ≤ 60) ∧ (ex = false → nn0 3 = nI 0 ∧ h0 5 = nI 0 ∧ rl_Nt nn ww h oo k n ∧ b = b2 ∧ rl_O f g h) ∧ (ex = true → nn 2 = nn0 2 ∧ ww = ww0 ∧ oo = o0 ∧ h 3 = h0 3 ∧ h 4 = h0 4 ∧ h 17 = h0 17 ∧ ¬ nn0 3 = nI 0 ∧ ¬ h0 5 = nI 0) ∧ ∀ u, u < 3 → f (3 + u) = nI 0 → f0 (3 + u) = nI 0
section RLS
variable {ex : Bool} {f g h f' g' h' nn ww f0 nn0 ww0 h0 g26 : Nat → Int32} {oo o0 : m_I} {u v x k r c b b2 d o n p j : Nat} {y z va : Int32}
theorem rl_O_fr (h0 : rl_O f g h) (hf : ∀ j, 550 ≤ j → j < 561 → j ≠ 559 → f' j = f j) (hg : ∀ u, u < 3 → ∀ i, 151 ≤ i → i < 154 → g' (150 + 154 * u + i) = g (150 + 154 * u + i)) (hh : h' 3 = h 3) (hs : ∀ u, u < 3 → f' (3 + u) = nI 0 → f (3 + u) = nI 0) : rl_O f' g' h' := by
  obtain ⟨a1, a2⟩ := h0
  refine ⟨by rw [hf 560 (by omega) (by omega) (by omega), hh]; exact a1, fun u hu => ?_⟩
  rw [hf (550 + u) (by omega) (by omega) (by omega), hf (553 + u) (by omega) (by omega) (by omega), hf (556 + u) (by omega) (by omega) (by omega), hg u hu 151 (by omega) (by omega), hg u hu 152 (by omega) (by omega), hg u hu 153 (by omega) (by omega)]
  obtain ⟨b1, b3, b4, b5⟩ := a2 u hu
  exact ⟨b1, b3, b4, fun q => b5 (hs u hu q)⟩
theorem rl_Nt_h (hN : rl_Nt nn ww h oo k n) (h4 : h' 4 = h 4) (h17 : h' 17 = h 17) : rl_Nt nn ww h' oo k n := by
  obtain ⟨a1, a2, a3, a4, a5⟩ := hN
  exact ⟨a1, h4.trans a2, h17.trans a3, a4, a5⟩
theorem rl_E_fr (hE : rl_E ex f0 nn0 ww0 h0 o0 f g h nn ww oo b b2 k n) (hf : ∀ j, 550 ≤ j → j ≠ 559 → f' j = f j) (hg : ∀ u, u < 3 → ∀ i, 151 ≤ i → i < 154 → g' (150 + 154 * u + i) = g (150 + 154 * u + i)) (hh : ∀ j, j ≠ 2 → j ≠ 22 → j ≠ 23 → h' j = h j) (hs : ∀ u, u < 3 → f' (3 + u) = nI 0 → f (3 + u) = nI 0) : rl_E ex f0 nn0 ww0 h0 o0 f' g' h' nn ww oo b b2 k n := by
  obtain ⟨e1, e2, e3, e4, e5, e6, e7⟩ := hE
  refine ⟨fun j hj => (hf j (by omega) (by omega)).trans (e1 j hj), e2, fun j j1 j2 j3 j4 j5 j6 => (hh j j1 j5 j6).trans (e3 j j1 j2 j3 j4 j5 j6), ⟨e4.1, (hh 17 (by omega) (by omega) (by omega)).trans e4.2.1, e4.2.2⟩, fun q => ?_, fun q => ?_, fun v hv q => e7 v hv (hs v hv q)⟩
  · obtain ⟨a1, a2, a3, a4, a5⟩ := e5 q
    exact ⟨a1, a2, rl_Nt_h a3 (hh 4 (by omega) (by omega) (by omega)) (hh 17 (by omega) (by omega) (by omega)), a4, rl_O_fr a5 (fun j j1 j2 j3 => hf j j1 j3) hg (hh 3 (by omega) (by omega) (by omega)) hs⟩
  · obtain ⟨a1, a2, a3, a4, a5, a6, a7, a8⟩ := e6 q
    exact ⟨a1, a2, a3, (hh 3 (by omega) (by omega) (by omega)).trans a4, (hh 4 (by omega) (by omega) (by omega)).trans a5, (hh 17 (by omega) (by omega) (by omega)).trans a6, a7, a8⟩
/-- begun anew: the counts -/
theorem rl_E_anew (hE : rl_E ex f0 nn0 ww0 h0 o0 f g h nn ww oo b b2 k n) (hu : u < 3) (hk : o ≤ d) (hd : d ≤ 4) (hst : ¬ f (3 + u) = nI 0) : rl_E ex f0 nn0 ww0 h0 o0 (c_anew f u) (d_anew g u d o) (d_anh h) nn ww oo b b2 k n := by
  obtain ⟨e1, e2, e3, e4, e5, e6, e7⟩ := hE
  have H : ∀ j, j ≠ 3 → d_anh h j = h j := fun j hj => m_sc_ne hj
  have F : ∀ j, 550 ≤ j → j ≠ 560 → j ≠ 550 + u → c_anew f u j = f j := fun j j1 j2 j3 => c_anew_o (by omega) (by omega) (by omega) (by omega)
  refine ⟨fun j hj => (F j (by omega) (by omega) (by omega)).trans (e1 j hj), e2, fun j j1 j2 j3 j4 j5 j6 => (H j j2).trans (e3 j j1 j2 j3 j4 j5 j6), ⟨e4.1, (H 17 (by omega)).trans e4.2.1, e4.2.2⟩, fun q => ?_, fun q => ?_, fun v hv q => e7 v hv ((c_anew_o (by omega) (by omega) (by omega) (by omega)).symm.trans q)⟩
  · obtain ⟨a1, a2, a3, a4, a5⟩ := e5 q
    refine ⟨a1, a2, rl_Nt_h a3 (H 4 (by omega)) (H 17 (by omega)), a4, ?_, fun v hv => ?_⟩
    · rw [c_anew_n hu, a5.1]
      unfold d_anh
      rw [m_sc_self, if_pos ((e3 5 (by omega) (by omega) (by omega) (by omega) (by omega) (by omega)).trans a2)]
    · obtain ⟨b1, b3, b4, b5⟩ := a5.2 v hv
      rw [F (553 + v) (by omega) (by omega) (by omega), F (556 + v) (by omega) (by omega) (by omega), d_anew_o (j := 150 + 154 * v + 152) hk hd (by omega) (by omega), d_anew_o (j := 150 + 154 * v + 153) hk hd (by omega) (by omega)]
      have q3 : c_anew f u (3 + v) = f (3 + v) := c_anew_o (by omega) (by omega) (by omega) (by omega)
      by_cases hvu : v = u
      · subst hvu
        rw [c_anew_c hu, d_anew_c hk hd, b1, q3]
        exact ⟨rfl, b3, b4, fun z => absurd z hst⟩
      · rw [F (550 + v) (by omega) (by omega) (by omega), d_anew_o hk hd (by omega) (by omega), q3]
        exact ⟨b1, b3, b4, b5⟩
  · obtain ⟨a1, a2, a3, a4, a5, a6, a7, a8⟩ := e6 q
    refine ⟨a1, a2, a3, ?_, (H 4 (by omega)).trans a5, (H 17 (by omega)).trans a6, a7, a8⟩
    unfold d_anh
    rw [m_sc_self, if_neg (fun z => a8 ((e3 5 (by omega) (by omega) (by omega) (by omega) (by omega) (by omega)).symm.trans z)), ← n_0, Int32.add_zero]
    exact a4
theorem c_cau_o {fl : Nat} (h1 : j ≠ 12 + u ∧ j ≠ 6 + u) (h2 : j < 21 + 4 * u ∨ 25 + 4 * u ≤ j) (h3 : j < 176 + 47 * u ∨ 192 + 47 * u ≤ j) : ∀ (d : Nat) (f : Nat → Int32), (c_cau u fl y d f).2 j = f j := by
  intro d
  induction d with
  | zero => intro f; rfl
  | succ d ih =>
    intro f
    rw [c_cau]
    split
    · rfl
    · split
      · rw [ih, m_sc_ne h1.1]
      · dsimp only
        rw [m_sc_ne h1.2, m_sc_ne (by omega)]
        split
        · rw [c_bring_o h2 h3, m_sc_ne h1.1]
        · rw [m_sc_ne h1.1]
theorem rl_cau (hu : u < 3) : ∀ (d : Nat) (f g : Nat → Int32), rl_L f g h c b b2 → rl_tb f g u c d o → ¬ f (3 + u) = nI 0 → (c_cau u o y d f).1 = (d_cau u o y d g).1 ∧ rl_L (c_cau u o y d f).2 (d_cau u o y d g).2 h c b b2 ∧ ∃ d', rl_tb (c_cau u o y d f).2 (d_cau u o y d g).2 u c d' o ∧ ((c_cau u o y d f).1 = false → d' = o) := by
  intro d
  induction d with
  | zero =>
    intro f g hL ht hst
    exact ⟨rfl, hL, 0, ht, fun _ => by have := ht.2.2.2.1.2.2.2.1; omega⟩
  | succ d ih =>
    intro f g hL ht hst
    have ho := ht.2.2.2.1.2.2.2.1
    have hd4 := ht.2.2.2.1.2.2.1
    rw [c_cau, d_cau]
    by_cases h1 : d < o
    · rw [if_pos h1, if_pos h1]
      exact ⟨rfl, hL, d + 1, ht, fun _ => by omega⟩
    · rw [if_neg h1, if_neg h1]
      obtain ⟨s1, s2, s3, s4, s5, s6, s7⟩ := (ht.2.2.2.2.2.2.1 d (by omega)).1 (Nat.lt_succ_self d)
      have e := c_sc_def u d
      have fin : ∀ f2 g2 : Nat → Int32, rl_L f2 g2 h c b b2 → rl_tb f2 g2 u c d o → ¬ f2 (3 + u) = nI 0 → f2 (287 + c_sc u d) = f (287 + c_sc u d) → rl_L (m_sc (m_sc f2 (21 + 4 * u) y) (6 + u) (f2 (287 + c_sc u d))) (m_sc (m_sc g2 (150 + 154 * u + 3) y) (150 + 154 * u + 1) (g (150 + 154 * u + 9 + 23 * d + 1))) h c b b2 ∧ rl_tb (m_sc (m_sc f2 (21 + 4 * u) y) (6 + u) (f2 (287 + c_sc u d))) (m_sc (m_sc g2 (150 + 154 * u + 3) y) (150 + 154 * u + 1) (g (150 + 154 * u + 9 + 23 * d + 1))) u c d o := by
        intro f2 g2 q1 q2 q3 q4
        have r1 : rl_L (m_sc f2 (21 + 4 * u) y) (m_sc g2 (150 + 154 * u + 3) y) h c b b2 := rl_reg (r := 0) q1 hu (by omega) q3
        have r2 : rl_tb (m_sc f2 (21 + 4 * u) y) (m_sc g2 (150 + 154 * u + 3) y) u c d o := rl_tb_reg (r := 0) q2 hu (by omega) q3
        have q5 : ¬ m_sc f2 (21 + 4 * u) y (3 + u) = nI 0 := by rw [m_sc_ne (by omega)]; exact q3
        rw [q4, ← s2]
        exact ⟨rl_plc r1 hu s3 q5, rl_tb_plc r2 hu s3 q5⟩
      rcases s1 with ⟨k1, k2⟩ | ⟨k1, k2⟩ | ⟨k1, k2⟩
      · have e1 : d_ld g u d = d_drop g u (d + 1) d := by
          unfold d_ld
          rw [if_neg (by rw [k2]; decide)]
        rw [if_pos k1, if_pos k2, e1]
        obtain ⟨r1, r2⟩ := rl_drop hL ht hu (Nat.le_succ d) (by omega) hst
        exact ih _ _ r1 r2 (by rw [m_sc_ne (by omega)]; exact hst)
      · have e1 : d_ld g u d = d_drop (d_load g u d) u (d + 1) d := by
          unfold d_ld
          rw [if_pos k2]
        have hin : ¬ f (15 + u) = -1 := by
          rcases s7 with q | q
          · exact q.2
          · rw [k1] at q; exact absurd q (by decide)
        have n14 : ¬ f (286 + c_sc u d) = nI 14 := by rw [k1]; decide
        have nz : ¬ g (150 + 154 * u + 9 + 23 * d) = nI 0 := by rw [k2]; decide
        simp only [if_neg n14, if_neg nz, if_pos k1, e1, c_bring_sc hu]
        obtain ⟨r1, r2⟩ := rl_load hL ht hu (Nat.lt_succ_self d) hin hst
        have r3 : ¬ c_bring f u (c_sc u d) (3 + u) = nI 0 := by rw [c_bring_o (by omega) (by omega)]; exact hst
        obtain ⟨r4, r5⟩ := rl_drop r1 r2 hu (Nat.le_succ d) (by omega) r3
        obtain ⟨r6, r7⟩ := fin _ _ r4 r5 (by rw [m_sc_ne (by omega)]; exact r3) (by rw [m_sc_ne (by omega), c_bring_o (by omega) (by omega)])
        exact ⟨trivial, r6, d, r7, fun q => by cases q⟩
      · have e1 : d_ld g u d = d_drop g u (d + 1) d := by
          unfold d_ld
          rw [if_neg (by rw [k2]; decide)]
        have n14 : ¬ f (286 + c_sc u d) = nI 14 := by rw [k1]; decide
        have n16 : ¬ f (286 + c_sc u d) = nI 16 := by rw [k1]; decide
        have nz : ¬ g (150 + 154 * u + 9 + 23 * d) = nI 0 := by rw [k2]; decide
        simp only [if_neg n14, if_neg nz, if_neg n16, e1]
        obtain ⟨r4, r5⟩ := rl_drop hL ht hu (Nat.le_succ d) (by omega) hst
        obtain ⟨r6, r7⟩ := fin _ _ r4 r5 (by rw [m_sc_ne (by omega)]; exact hst) (by rw [m_sc_ne (by omega)])
        exact ⟨trivial, r6, d, r7, fun q => by cases q⟩
theorem c_fl3_o2 (hu : u < 3) (h : 550 ≤ j) : (c_fl3 f u y d).2 j = f j := by
  unfold c_fl3
  split
  · exact c_cau_o (by omega) (by omega) (by omega) d f
  · dsimp only
    rw [m_sc_ne (by omega), m_sc_ne (by omega)]
    exact c_cau_o (by omega) (by omega) (by omega) d f
theorem c_fl3_s (hu : u < 3) (hv : v < 3) (h : (c_fl3 f u y d).2 (3 + v) = nI 0) : f (3 + v) = nI 0 := by
  have e : (c_cau u 0 y d f).2 (3 + v) = f (3 + v) := c_cau_o (by omega) (by omega) (by omega) d f
  unfold c_fl3 at h
  split at h
  · rw [e] at h; exact h
  · dsimp only at h
    rw [m_sc_ne (by omega)] at h
    by_cases hvu : v = u
    · subst hvu; rw [m_sc_self] at h; exact absurd h (by decide)
    · rw [m_sc_ne (by omega), e] at h; exact h
theorem d_fl3_o (hd : d ≤ 4) (hv : v < 3) (hu : u < 3) {i : Nat} (h1 : 151 ≤ i) (h2 : i < 154) : (d_fl3 g u y d).2 (150 + 154 * v + i) = g (150 + 154 * v + i) := by
  have e : (d_cau u 0 y d g).2 (150 + 154 * v + i) = g (150 + 154 * v + i) := d_cau_o (by omega) (by omega) (by omega) d g hd
  unfold d_fl3
  split
  · exact e
  · dsimp only
    rw [m_sc_ne (by omega), m_sc_ne (by omega), e]
theorem rl_fl3 (hL : rl_L f g h c b b2) (ht : rl_tb f g u c d 0) (hu : u < 3) (hi : f (15 + u) = -1) (hst : ¬ f (3 + u) = nI 0) : (c_fl3 f u y d).1 = (d_fl3 g u y d).1 ∧ rl_L (c_fl3 f u y d).2 (d_fl3 g u y d).2 h c b b2 := by
  obtain ⟨r1, r2, d', r3, r4⟩ := rl_cau (y := y) hu d f g hL ht hst
  unfold c_fl3 d_fl3
  rw [← r1]
  cases h1 : (c_cau u 0 y d f).1
  · rw [if_neg (by decide), if_neg (by decide)]
    have e15 : (c_cau u 0 y d f).2 (15 + u) = -1 := by rw [c_cau_o (by omega) (by omega) (by omega) d f]; exact hi
    refine ⟨rfl, rl_stands r2 hu e15 (fun j j1 j2 => ?_) (fun j j1 j2 => ?_) ?_ ?_ ?_⟩
    · dsimp only; rw [m_sc_ne j2, m_sc_ne j1]
    · dsimp only; rw [m_sc_ne j2, m_sc_ne j1]
    · dsimp only; rw [m_sc_ne (by omega), m_sc_self, m_sc_ne (by omega), m_sc_self]
    · dsimp only; rw [m_sc_self, m_sc_self]
    · dsimp only; rw [m_sc_ne (by omega), m_sc_self]; decide
  · rw [if_pos rfl, if_pos rfl]
    exact ⟨rfl, r2⟩
theorem rl_stale (hL : rl_L f g h c b b2) (hu : u < 3) : c_stale f u = d_ch g u := by
  obtain ⟨d, o, ht⟩ := hL.2.1 u hu
  refine s_any_cg 8 0 (fun j _ hj => ?_)
  obtain ⟨n, a1, a2, a3, a4, a5, a6, a7, a8, a9⟩ := hL.2.2.1 j (by omega)
  unfold s_stale d_ch1
  rw [(ht.2.2.2.2.2.1 j (by omega)).1, a8]
theorem d_cno_h (h4 : j ≠ 4) (h17 : j ≠ 17) : (d_cno g h oo u n).1 j = h j := by
  unfold d_cno
  split
  · unfold d_note
    split
    · dsimp only; rw [m_sc_ne h4]
    · dsimp only; rw [m_sc_ne h17, m_sc_ne h4]
  · rfl
theorem c_note_3 (h2 : j ≠ 2) : (c_note f nn ww u k y).1 j = nn j := by
  unfold c_note
  split
  · rfl
  · split
    · dsimp only; rw [m_sc_ne h2]
    · dsimp only; rw [m_sc_ne h2]
/-- it counts, and is left -/
theorem rl_cnt (hL : rl_L f g h c b b2) (hE : rl_E ex f0 nn0 ww0 h0 o0 f g h nn ww oo b b2 k n) (ht : rl_tb f g u c d d) (hu : u < 3) (hi : ¬ f (15 + u) = -1) (hr : ¬ f (3 + u) = nI 4) (hc : c < 1000000000) (hk : k < 1000000) (hb2 : b2 < 1000000000) : ∃ c' k' n', c ≤ c' ∧ c' ≤ c + 1 ∧ k' ≤ k + 1 ∧ rl_L (c_leave (c_mk f u).1 u) (d_end (d_ct g u) u) (d_cno g h oo u n).1 c' b b2 ∧ rl_tb (c_leave (c_mk f u).1 u) (d_end (d_ct g u) u) u c' d 0 ∧ rl_E ex f0 nn0 ww0 h0 o0 (c_leave (c_mk f u).1 u) (d_end (d_ct g u) u) (d_cno g h oo u n).1 (c_note (c_mk f u).1 nn ww u k (c_mk f u).2).1 (c_note (c_mk f u).1 nn ww u k (c_mk f u).2).2 (d_cno g h oo u n).2 b b2 k' n' := by
  obtain ⟨c', q1, q2, hM, ht2, hmade⟩ := rl_count hL ht hu hi hr hc
  have hst := rl_started ht hi
  have hin2 : ¬ (c_mk f u).1 (15 + u) = -1 := by rw [c_mk_o (by omega) (by omega)]; exact hi
  obtain ⟨l1, l2⟩ := rl_leave hM ht2 hu hin2
  have l1' : rl_L (c_leave (c_mk f u).1 u) (d_end (d_ct g u) u) (d_cno g h oo u n).1 c' b b2 := rl_h2 l1 (d_cno_h (by omega) (by omega)) ((d_cno_h (by omega) (by omega)).trans hL.2.2.2.2.2.2.1) (Nat.le_refl _) (by omega)
  have FF : ∀ j, 550 ≤ j → c_leave (c_mk f u).1 u j = f j := fun j hj => by rw [c_leave_o (by omega) (by omega) (by omega) (by omega) (by omega), c_mk_o (by omega) (by omega)]
  have F3 : ∀ v, v < 3 → c_leave (c_mk f u).1 u (3 + v) = f (3 + v) := fun v hv => by rw [c_leave_o (by omega) (by omega) (by omega) (by omega) (by omega), c_mk_o (by omega) (by omega)]
  have GG : ∀ v, v < 3 → ∀ i, 151 ≤ i → i < 154 → d_end (d_ct g u) u (150 + 154 * v + i) = g (150 + 154 * v + i) := fun v hv i i1 i2 => by rw [d_end_o (by omega) (by omega), d_ct_o (by omega)]
  obtain ⟨e1, e2, e3, e4, e5, e6, e7⟩ := hE
  cases hx : ex
  · obtain ⟨a1, a2, a3, a4, a5⟩ := e5 hx
    have hnn3 : nn 3 = nI 0 := (e2 3 (by omega)).trans a1
    have hh5 : h 5 = nI 0 := (e3 5 (by omega) (by omega) (by omega) (by omega) (by omega) (by omega)).trans a2
    obtain ⟨s, s1, s2⟩ := ht2.2.2.2.2.2.2.2.2.2.2 hin2
    have s3 := (ht2.2.2.2.2.1.2 hin2).1
    have hkd : (c_mk f u).1 (15 + u) = d_ct g u (150 + 154 * u + 102) := by
      rcases ht2.2.2.1 with ⟨k1, _⟩ | ⟨kk, k1, k2, k3, k4⟩
      · exact absurd k1 hin2
      · rw [k2, k4]
    have hmk : rl_mk (c_mk f u).2 (if d_any g u then d_ct g u 144 else -1) := by
      rcases hmade with ⟨m1, m2⟩ | ⟨m1, m2, m3⟩
      · rw [m1, m2]; exact Or.inr ⟨rfl, rfl⟩
      · rw [m1, m2, m3]; exact Or.inl rfl
    obtain ⟨n', hN⟩ := rl_note a3 hnn3 hk hkd ht2.2.2.2.2.2.1 s2 (s3.symm.trans s2) (by omega) hM.1.2.2.2.2.1 hmk
    have ed : d_cno g h oo u n = d_note (d_ct g u) h oo (d_ct g u) u (d_ct g u (150 + 154 * u + 102)) (if d_any g u then d_ct g u 144 else -1) n (150 + 154 * u + 119) (150 + 154 * u + 135) := if_pos hh5
    have hn60 : n' ≤ 60 := by have := hN.2.2.2.1; omega
    refine ⟨c', k + 1, n', q1, q2, Nat.le_refl _, l1', l2, fun j hj => (FF j (by omega)).trans (e1 j hj), fun j hj => (c_note_3 hj).trans (e2 j hj), fun j j1 j2 j3 j4 j5 j6 => (d_cno_h j3 j4).trans (e3 j j1 j2 j3 j4 j5 j6), ⟨hN.1, by rw [ed]; exact hN.2.2.1, hn60⟩, fun _ => ⟨a1, a2, by rw [ed]; exact hN, a4, ?_⟩, (fun q => by cases q), fun v hv q => e7 v hv ((F3 v hv).symm.trans q)⟩
    exact rl_O_fr a5 (fun j j1 j2 j3 => FF j j1) GG (d_cno_h (by omega) (by omega)) (fun v hv q => (F3 v hv).symm.trans q)
  · obtain ⟨a1, a2, a3, a4, a5, a6, a7, a8⟩ := e6 hx
    have hnn3 : ¬ nn 3 = nI 0 := fun q => a7 ((e2 3 (by omega)).symm.trans q)
    have hh5 : ¬ h 5 = nI 0 := fun q => a8 ((e3 5 (by omega) (by omega) (by omega) (by omega) (by omega) (by omega)).symm.trans q)
    have ed : d_cno g h oo u n = (h, oo) := if_neg hh5
    have ec : c_note (c_mk f u).1 nn ww u k (c_mk f u).2 = (nn, ww) := if_pos hnn3
    rw [ed] at l1' ⊢
    rw [ec]
    exact ⟨c', k, n, q1, q2, Nat.le_succ _, l1', l2, fun j hj => (FF j (by omega)).trans (e1 j hj), e2, e3, e4, (fun q => by cases q), (fun _ => ⟨a1, a2, a3, a4, a5, a6, a7, a8⟩), fun v hv q => e7 v hv ((F3 v hv).symm.trans q)⟩
/-- what a step comes to, alike -/
def rl_R (ex : Bool) (f0 nn0 ww0 h0 : Nat → Int32) (o0 : m_I) (c b b2 k : Nat) (p : c_R) (q : d_R) : Prop :=
  p.1 = q.1 ∧ ∃ c' b' b2' k' n', c' ≤ c + 1 ∧ b' ≤ b + 1 ∧ b2' ≤ b2 + 1 ∧ k' ≤ k + 1 ∧ rl_L p.2.1 q.2.1 q.2.2.1 c' b' b2' ∧ rl_E ex f0 nn0 ww0 h0 o0 p.2.1 q.2.1 q.2.2.1 p.2.2.2.1 p.2.2.2.2 q.2.2.2 b' b2' k' n'
def c_fR (g26 : Nat → Int32) (q : c_P) : c_R := (q.1, q.2.1, g26, q.2.2.1, q.2.2.2)
theorem c_fail2_out (h1 : f (15 + u) = -1) : c_fail2 f nn ww u k y 0 = (nI 3, m_sc (m_sc f (3 + u) (nI 3)) (9 + u) y, nn, ww) := by
  unfold c_fail2
  rw [if_neg (by rw [h1]; decide), if_pos h1]
  rfl
theorem rl_fails (hL : rl_L f g h c b b2) (hE : rl_E ex f0 nn0 ww0 h0 o0 f g h nn ww oo b b2 k n) (ht : rl_tb f g u c d o) (hu : u < 3) (hst : ¬ f (3 + u) = nI 0) (hr : ¬ f (3 + u) = nI 4) (hc : c < 1000000000) (hk : k < 1000000) (hb2 : b2 < 1000000000) : rl_R ex f0 nn0 ww0 h0 o0 c b b2 k (c_ad2 (c_fR g26 (c_fail f nn ww u k y d o)) u) (d_fails g h oo u y d o n) := by
  obtain ⟨r1, r2, d', r3, r4⟩ := rl_cau (y := y) hu d f g hL ht hst
  have hd4 := ht.2.2.2.1.2.2.1
  have n21 : ¬ nI 1 = nI 2 := by decide
  have ff : ¬ (false = true) := by decide
  have tt : true = true := rfl
  have n23 : ¬ nI 3 = nI 2 := by decide
  have C0 : ∀ j, (j ≠ 12 + u ∧ j ≠ 6 + u) → (j < 21 + 4 * u ∨ 25 + 4 * u ≤ j) → (j < 176 + 47 * u ∨ 192 + 47 * u ≤ j) → (c_cau u o y d f).2 j = f j := fun j j1 j2 j3 => c_cau_o j1 j2 j3 d f
  have hE1 : rl_E ex f0 nn0 ww0 h0 o0 (c_cau u o y d f).2 (d_cau u o y d g).2 h nn ww oo b b2 k n := rl_E_fr hE (fun j j1 j2 => C0 j (by omega) (by omega) (by omega)) (fun v hv i i1 i2 => d_cau_o (by omega) (by omega) (by omega) d g hd4) (fun _ _ _ _ => rfl) (fun v hv q => (C0 _ (by omega) (by omega) (by omega)).symm.trans q)
  have q15 : (c_cau u o y d f).2 (15 + u) = f (15 + u) := C0 _ (by omega) (by omega) (by omega)
  have q3 : (c_cau u o y d f).2 (3 + u) = f (3 + u) := C0 _ (by omega) (by omega) (by omega)
  have base : ∀ (p : c_R) (q : d_R), ¬ p.1 = nI 2 → rl_R ex f0 nn0 ww0 h0 o0 c b b2 k p q → rl_R ex f0 nn0 ww0 h0 o0 c b b2 k (c_ad2 p u) q := fun p q hp hq => by
    unfold c_ad2; rw [if_neg hp]; exact hq
  unfold c_fail d_fails
  by_cases hi : f (15 + u) = -1
  · have hg101 : g (150 + 154 * u + 101) = nI 0 := by
      rcases ht.2.2.1 with ⟨_, k2, _⟩ | ⟨kk, kk4, k2, _⟩
      · exact k2
      · rw [hi] at k2; exact absurd k2.symm (n_ne1' (by omega))
    have ho0 : o = 0 := by
      have h5 := ht.2.2.2.1.2.2.2.2.1
      unfold c_outer at h5
      rw [if_pos hi, n_eq (by omega) (by have := ht.2.2.2.1.2.2.2.1; omega)] at h5
      exact h5.symm
    subst ho0
    have ng : ¬ g (150 + 154 * u + 101) = nI 1 := by rw [hg101]; decide
    rw [if_neg ng]
    unfold d_fl3
    rw [← r1, c_fail2_out (q15.trans hi)]
    cases h1 : (c_cau u 0 y d f).1
    · rw [if_neg ff, if_neg ff]
      refine base _ _ n23 ⟨rfl, c, b, b2, k, n, Nat.le_succ _, Nat.le_succ _, Nat.le_succ _, Nat.le_succ _, ?_, ?_⟩
      · refine rl_stands r2 hu (q15.trans hi) (fun j j1 j2 => ?_) (fun j j1 j2 => ?_) ?_ ?_ ?_
        · dsimp only [c_fR]; rw [m_sc_ne j2, m_sc_ne j1]
        · dsimp only; rw [m_sc_ne j2, m_sc_ne j1]
        · dsimp only [c_fR]; rw [m_sc_ne (by omega), m_sc_self, m_sc_ne (by omega), m_sc_self]
        · dsimp only [c_fR]; rw [m_sc_self, m_sc_self]
        · dsimp only [c_fR]; rw [m_sc_ne (by omega), m_sc_self]; decide
      · refine rl_E_fr hE1 (fun j j1 j2 => ?_) (fun v hv i i1 i2 => ?_) (fun _ _ _ _ => rfl) (fun v hv q => ?_)
        · dsimp only [c_fR]; rw [m_sc_ne (by omega), m_sc_ne (by omega)]
        · dsimp only; rw [m_sc_ne (by omega), m_sc_ne (by omega)]
        · dsimp only [c_fR] at q
          rw [m_sc_ne (by omega)] at q
          by_cases hvu : v = u
          · subst hvu; rw [m_sc_self] at q; exact absurd q (by decide)
          · rw [m_sc_ne (by omega)] at q; exact q
    · rw [if_pos tt, if_pos tt]
      refine base _ _ n21 ⟨rfl, c, b, b2, k, n, Nat.le_succ _, Nat.le_succ _, Nat.le_succ _, Nat.le_succ _, r2, hE1⟩
  · obtain ⟨kk, kk4, k2, k3, k4⟩ : ∃ k, k < 4 ∧ f (15 + u) = nI k ∧ g (150 + 154 * u + 101) = nI 1 ∧ g (150 + 154 * u + 102) = nI k := ht.2.2.1.resolve_left (fun q => hi q.1)
    rw [if_pos k3, ← r1]
    cases h1 : (c_cau u o y d f).1
    · obtain rfl : d' = o := r4 h1
      rw [if_neg ff, if_neg ff]
      have hin1 : ¬ (c_cau u d' y d f).2 (15 + u) = -1 := by rw [q15]; exact hi
      have hst1 : ¬ (c_cau u d' y d f).2 (3 + u) = nI 0 := by rw [q3]; exact hst
      have e102 : (d_cau u d' y d g).2 (150 + 154 * u + 102) = nI kk := by rw [d_cau_o (by omega) (by omega) (by omega) d g hd4, k4]
      obtain ⟨f1, hf1⟩ : ∃ f1, f1 = (c_cau u d' y d f).2 := ⟨_, rfl⟩
      obtain ⟨g1, hg1⟩ : ∃ g1, g1 = (d_cau u d' y d g).2 := ⟨_, rfl⟩
      rw [← hf1] at r2 r3 hE1 q15 q3 hin1 hst1 ⊢
      rw [← hg1] at r2 r3 hE1 e102 ⊢
      rw [k2] at q15
      have hd'4 := r3.2.2.2.1.2.2.1
      unfold c_fail2 d_fail2
      by_cases hs3 : kk = 3
      · have c3 : f1 (15 + u) = nI 3 := by rw [q15, hs3]
        have m3 : g1 (150 + 154 * u + 102) = nI 3 := by rw [e102, hs3]
        rw [if_pos c3, if_pos m3]
        obtain ⟨c', k', n', p1, p2, p3, p4, p5, p6⟩ := rl_cnt r2 hE1 r3 hu hin1 (by rw [q3]; exact hr) hc hk hb2
        have e15 : c_leave (c_mk f1 u).1 u (15 + u) = -1 := c_leave_k hu
        have e3 : ¬ c_leave (c_mk f1 u).1 u (3 + u) = nI 0 := by rw [c_leave_o (by omega) (by omega) (by omega) (by omega) (by omega), c_mk_o (by omega) (by omega)]; exact hst1
        obtain ⟨t1, t2⟩ := rl_fl3 (y := y) p4 p5 hu e15 e3
        have t3 : ¬ (c_fl3 (c_leave (c_mk f1 u).1 u) u y d').1 = nI 2 := by
          unfold c_fl3
          split
          · exact n21
          · exact n23
        refine base _ _ t3 ⟨t1, c', b, b2, k', n', p2, Nat.le_succ _, Nat.le_succ _, p3, t2, rl_E_fr p6 (fun j j1 j2 => c_fl3_o2 hu j1) (fun v hv i i1 i2 => d_fl3_o hd'4 hv hu i1 i2) (fun _ _ _ _ => rfl) (fun v hv q => c_fl3_s hu hv q)⟩
      · have nk3 : ¬ nI kk = nI 3 := by rw [n_eq (by omega) (by omega)]; exact hs3
        have c3 : ¬ f1 (15 + u) = nI 3 := by rw [q15]; exact nk3
        have m3 : ¬ g1 (150 + 154 * u + 102) = nI 3 := by rw [e102]; exact nk3
        rw [if_neg c3, if_neg m3, if_neg hin1, rl_stale r2 hu]
        cases h2 : d_ch g1 u
        · rw [if_neg ff, if_neg ff]
          have w1 := rl_old r2 hu hin1 hst1
          have w2 := rl_tb_old r3 hu hin1 hst1
          have w15 : ¬ va_cpy f1 f1 (148 + 47 * u) (21 + 4 * u) 4 (15 + u) = -1 := by rw [pk_cpy_out (by omega)]; exact hin1
          obtain ⟨p4, p5⟩ := rl_leave (rl_toM w1) w2 hu w15
          have L3 : ∀ v, v < 3 → c_leave (va_cpy f1 f1 (148 + 47 * u) (21 + 4 * u) 4) u (3 + v) = f1 (3 + v) := fun v hv => by rw [c_leave_o (by omega) (by omega) (by omega) (by omega) (by omega), pk_cpy_out (by omega)]
          obtain ⟨t1, t2⟩ := rl_fl3 (y := y) p4 p5 hu (c_leave_k hu) (by rw [L3 u hu]; exact hst1)
          have t3 : ¬ (c_fl3 (c_leave (va_cpy f1 f1 (148 + 47 * u) (21 + 4 * u) 4) u) u y d').1 = nI 2 := by
            unfold c_fl3
            split
            · exact n21
            · exact n23
          have p6 := rl_E_fr hE1 (f' := c_leave (va_cpy f1 f1 (148 + 47 * u) (21 + 4 * u) 4) u) (g' := d_end (d_cp g1 (150 + 154 * u + 106) (150 + 154 * u + 3) 4) u) (h' := h) (fun j j1 j2 => by rw [c_leave_o (by omega) (by omega) (by omega) (by omega) (by omega), pk_cpy_out (by omega)]) (fun v hv i i1 i2 => by rw [d_end_o (by omega) (by omega), d_cp_o (by omega)]) (fun _ _ _ _ => rfl) (fun v hv q => (L3 v hv).symm.trans q)
          refine base _ _ t3 ⟨t1, c, b, b2, k, n, Nat.le_succ _, Nat.le_succ _, Nat.le_succ _, Nat.le_succ _, t2, rl_E_fr p6 (fun j j1 j2 => c_fl3_o2 hu j1) (fun v hv i i1 i2 => d_fl3_o hd'4 hv hu i1 i2) (fun _ _ _ _ => rfl) (fun v hv q => c_fl3_s hu hv q)⟩
        · rw [if_pos tt, if_pos tt]
          obtain ⟨p4, p5⟩ := rl_anew (rl_toM r2) r3 hu hin1
          unfold c_ad2 c_fR
          rw [if_pos rfl]
          exact ⟨rfl, c, b, b2, k, n, Nat.le_succ _, Nat.le_succ _, Nat.le_succ _, Nat.le_succ _, p4, rl_E_anew hE1 hu (Nat.le_refl _) hd'4 hst1⟩
    · rw [if_pos tt, if_pos tt]
      refine base _ _ n21 ⟨rfl, c, b, b2, k, n, Nat.le_succ _, Nat.le_succ _, Nat.le_succ _, Nat.le_succ _, r2, hE1⟩
end RLS
