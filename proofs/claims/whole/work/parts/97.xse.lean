/-! explore: one step of both; the model's memory while it explores -/
section RBI
variable {V : m_V} {t m n : Nat} {ls st : List Value} {J J0 J1 I : m_I} {L : m_L} {R : m_R} {e : Option Nat} {bb : Nat} {Q : Option Value → Nat → m_I → m_L → m_R → Prop} {f g h f' g' h' nn ww g26 hu fe ag X F : Nat → Int32} {u k c b b2 : Nat}
theorem rl_xse (hro : rl_ro J0 L) (hcd : rl_cd J0) (hL : rl_L f g h c b b2) (hnn2 : nn 2 = nI k) (hnn3 : ¬ nn 3 = nI 0) (h17 : h 17 = nI n) (hn : n ≤ 60) (h5 : ¬ h 5 = nI 0) (hu : u < 3) (hs : f (3 + u) = nI 1 ∨ f (3 + u) = nI 4) (hc : c < 1000000000) (hb : b < 1000000000) (hb2 : b2 < 1000000000) (hk : k < 1000000) (ht : 55 ≤ t) :
    ∃ v f' g26' g' h', (∀ Q, WP V 70 0 (m_loc 70 [.ref 25, .int (nI u)]) [] t (mC J0 f g26 nn ww) L (m_RR e 28 bb) Q = Q (some (.int v)) t (mC J0 f' g26' nn ww) L (m_RR e 28 bb)) ∧ (∀ J1, st_eq J1 J0 → ∀ Q, WP V 164 0 (m_loc 164 [.ref 27, .int (nI u)]) [] t (mM J1 48 g h J0) L (m_RR e 48 bb) Q = Q (some (.int v)) t (mM J1 48 g' h' J0) L (m_RR e 48 bb)) ∧ (∃ c' b' b2', c' ≤ c + 1 ∧ b' ≤ b + 1 ∧ b2' ≤ b2 + 1 ∧ rl_L f' g' h' c' b' b2') ∧ (∀ j, 561 ≤ j → f' j = f j) ∧ ∀ j, j ≠ 2 → j ≠ 22 → j ≠ 23 → h' j = h j := by
  have hE : rl_E true f nn ww h J0 f g h nn ww J0 b b2 k n := ⟨fun _ _ => rfl, fun _ _ => rfl, fun _ _ _ _ _ _ _ => rfl, ⟨hnn2, h17, hn⟩, (fun q => by cases q), fun _ => ⟨rfl, rfl, rfl, rfl, rfl, rfl, hnn3, h5⟩, fun _ _ q => q⟩
  have a28 : m_aa 28 := Or.inl rfl
  have a48 : m_aa 48 := Or.inr rfl
  obtain ⟨r1, _, _, r4⟩ := rl_st (V := V) (e := e) (bb := bb) (g26 := g26) hro hcd hL hE hu hs hc hb hb2 hk ht a28
  obtain ⟨p, hp⟩ : ∃ p, p = c_st3 J0 L f g26 nn ww u := ⟨_, rfl⟩
  obtain ⟨q, hq⟩ : ∃ q, q = d_stq J0 L g h J0 u := ⟨_, rfl⟩
  have e1 : c_stp J0 L f g26 nn ww u = c_ad4 p u := by rw [hp]; rfl
  rw [e1] at r1
  rw [← hp, ← hq] at r4
  obtain ⟨w1, c', b', b2', k', n', z1, z2, z3, z4, L2, E2⟩ := r4
  obtain ⟨y1, y2, y3, y4, y5, y6, y7⟩ := E2
  obtain ⟨x1, x2, x3, x4, x5, x6, x7, x8⟩ := y6 rfl
  have en : p.2.2.2.1 = nn := by
    funext j
    by_cases hj : j = 2
    · subst hj; exact x1
    · exact y2 j hj
  have ad : (c_ad4 p u).2.2.2.1 = p.2.2.2.1 ∧ (c_ad4 p u).2.2.2.2 = p.2.2.2.2 ∧ (∀ j, j ≠ 553 + u → j ≠ 556 + u → (c_ad4 p u).2.1 j = p.2.1 j) ∧ (c_ad4 p u).1 = p.1 := by
    unfold c_ad4
    by_cases hz : p.1 = nI 0
    · rw [if_pos hz]; exact ⟨rfl, rfl, fun j _ j2 => m_sc_ne j2, rfl⟩
    · rw [if_neg hz]; exact ⟨rfl, rfl, fun j j1 _ => m_sc_ne j1, rfl⟩
  obtain ⟨d1, d2, d3, d4⟩ := ad
  refine ⟨(c_ad4 p u).1, (c_ad4 p u).2.1, (c_ad4 p u).2.2.1, q.2.1, q.2.2.1, ?_, ?_, ⟨c', b', b2', z1, z2, z3, ?_⟩, ?_, ?_⟩
  · intro Q
    have := r1 Q
    rw [d1, d2, en, x2] at this
    exact this
  · intro J1 hs0 Q
    obtain ⟨a1, a2, a3, a4, a5, a6, a7, a8, a9, a10, a11, a12⟩ := id hs0
    obtain ⟨_, s2, _, _⟩ := rl_st (V := V) (e := e) (bb := bb) (g26 := g26) (rl_ro_cg hs0 hro) (rl_cd_cg hs0 hcd) hL hE hu hs hc hb hb2 hk ht a48
    rw [d_stq_cg a5 a6 a7 a8 a9 a10 a12, ← hq] at s2
    have := s2 Q
    rw [x3] at this
    rw [d4, w1]
    exact this
  · exact rl_L_fr L2 (fun j hj => d3 j (by omega) (by omega)) (fun j _ => rfl)
  · intro j hj
    rw [d3 j (by omega) (by omega)]
    exact y1 j hj
  · intro j j1 j2 j3
    by_cases q3 : j = 3
    · subst q3; exact x4
    · by_cases q4 : j = 4
      · subst q4; exact x5
      · by_cases q17 : j = 17
        · subst q17; exact x6
        · exact y3 j j1 q3 q4 q17 j2 j3
theorem rl_ags2 {b3 : Nat} (hL : rl_L f g h c b b2) (hb : b < 2147483648) (hb2 : b3 < 2147483648) (hb3 : 3 ≤ b3) (g1 : h' 1 = h 1) (g2 : h' 2 = nI b3) : rl_L (z_ags f) (d_ags g) h' c b b3 := by
  have hd := rl_dist hL
  have A := hL.2.2.2.2.2
  refine rl_L_ag hL (fun j hj => z_ags_o hj) (fun j j1 j2 j3 => d_ags_o ⟨j1, j2, j3⟩) g1 ⟨(z_ags_o (by omega)).trans A.1, g2, fun u hu iu => ?_⟩
  rw [z_ags_o (by omega)] at iu
  have r1 := z_rk_3 (f := f) hu
  have hle := z_le hu iu (fun v hv iv => (A.2.2 v hv iv).1.1) hd
  have hlt := (A.2.2 u hu iu).1.2
  rw [Int32.lt_iff_toInt_lt, nI_toInt hb] at hlt
  rw [z_ags_i hu, d_ags_i hu, z_d_rk hL hu]
  refine ⟨⟨by rw [n_le (by omega) (by omega)]; omega, by rw [n_lt (by omega) hb]; omega⟩, by rw [n_lt (by omega) hb2]; omega, fun v hv iv => ?_⟩
  rw [z_ags_o (by omega)] at iv
  rw [z_ags_i hv, d_ags_i hv, z_d_rk hL hv]
  refine ⟨Iff.rfl, fun huv q => ?_⟩
  by_cases e2 : f (18 + u) < f (18 + v)
  · have := (z_ord hd hu hv iu iv).mpr e2
    rw [q] at this
    exact (Int32.lt_irrefl this).elim
  · have := (z_ord hd hv hu iv iu).mpr (n_tri (hd u v hu hv iu iv huv) e2)
    rw [q] at this
    exact (Int32.lt_irrefl this).elim
/-- the model's memory while it explores -/
def eM (J : m_I) (g h hu fe ag : Nat → Int32) : m_I := fun k => if k = 48 then g else if k = 27 then h else if k = 45 then hu else if k = 47 then fe else if k = 49 then ag else J k
theorem eM_48 : eM J g h hu fe ag 48 = g := rfl
theorem eM_27 : eM J g h hu fe ag 27 = h := rfl
theorem eM_45 : eM J g h hu fe ag 45 = hu := rfl
theorem eM_47 : eM J g h hu fe ag 47 = fe := rfl
theorem eM_49 : eM J g h hu fe ag 49 = ag := rfl
theorem eM_o (h1 : k ≠ 48 ∧ k ≠ 27 ∧ k ≠ 45 ∧ k ≠ 47 ∧ k ≠ 49) : eM J g h hu fe ag k = J k := by simp [eM, h1]
theorem eM_s48 : m_sc (eM J g h hu fe ag) 48 X = eM J X h hu fe ag := by
  funext k
  by_cases q : k = 48
  · subst q; rfl
  · rw [m_sc_ne q]; simp [eM, q]
theorem eM_s27 : m_sc (eM J g h hu fe ag) 27 X = eM J g X hu fe ag := by
  funext k
  by_cases q : k = 27
  · subst q; rfl
  · rw [m_sc_ne q]; simp [eM, q]
theorem eM_s45 : m_sc (eM J g h hu fe ag) 45 X = eM J g h X fe ag := by
  funext k
  by_cases q : k = 45
  · subst q; rfl
  · rw [m_sc_ne q]; simp [eM, q]
theorem eM_s47 : m_sc (eM J g h hu fe ag) 47 X = eM J g h hu X ag := by
  funext k
  by_cases q : k = 47
  · subst q; rfl
  · rw [m_sc_ne q]; simp [eM, q]
theorem eM_s49 : m_sc (eM J g h hu fe ag) 49 X = eM J g h hu fe X := by
  funext k
  by_cases q : k = 49
  · subst q; rfl
  · rw [m_sc_ne q]; simp [eM, q]
theorem eM_self : eM I (I 48) (I 27) (I 45) (I 47) (I 49) = I := by
  funext k
  unfold eM
  split
  · next q => rw [q]
  · split
    · next q => rw [q]
    · split
      · next q => rw [q]
      · split
        · next q => rw [q]
        · split
          · next q => rw [q]
          · rfl
theorem eM_mM (hJ : ∀ k, 40 ≤ k → k ≤ 44 → J1 k = J0 k) : mM (eM J1 g h hu fe ag) 48 g' h' J0 = eM J1 g' h' hu fe ag := by
  funext k
  unfold mM
  by_cases q1 : k = 48
  · subst q1; rfl
  · rw [if_neg q1]
    by_cases q2 : k = 27
    · subst q2; rfl
    · rw [if_neg q2]
      by_cases q3 : 40 ≤ k ∧ k ≤ 44
      · rw [if_pos q3, eM_o (by omega), hJ k q3.1 q3.2]
      · rw [if_neg q3]
        simp [eM, q1, q2]
theorem w168x (ht : 55 ≤ t) (hu : u < 3) : WP V 168 0 (m_loc 168 [.ref 27, .int (nI u)]) [] t I L (m_RR e 48 bb) Q = Q (some (.int (m_bl (d_goon (I 48) u)))) t I L (m_RR e 48 bb) := by
  have := w168 (V := V) (J := I) (g := I 48) (h := I 27) (o := I) (a := 48) (L := L) (e := e) (b := bb) (Q := Q) ht hu (Or.inr rfl)
  rw [mM_self] at this
  exact this
theorem c168x (ht : 55 ≤ t) (hu : u < 3) : WPC V 168 [.ref 27, .int (nI u)] m n ls st t I L (m_RR e 48 bb) Q = WP V m n ls ((.int (m_bl (d_goon (I 48) u))) :: st) t I L (m_RR e 48 bb) Q := wpc_of (fun Q => w168x ht hu)
theorem e_f_eq {row row' : Nat → Nat → Int32} {S S' : Nat → Bool} : ∀ y, (∀ i, i < y → ∀ j, j < 19 → row' i j = row i j) → (∀ i, i < y → S' i = S i) → e_f F row' S' y = e_f F row S y := by
  intro y
  induction y with
  | zero => intro _ _; rfl
  | succ y ih =>
    intro hr hS
    have e1 := ih (fun i hi => hr i (by omega)) (fun i hi => hS i (by omega))
    show (if S' y = true then e_st (row' y) (e_f F row' S' y) else e_f F row' S' y) = (if S y = true then e_st (row y) (e_f F row S y) else e_f F row S y)
    rw [e1, hS y (by omega)]
    have w : ∀ (G : Nat → Int32) (a : Nat), e_wr (row' y) G a = e_wr (row y) G a := fun G a => by
      funext k
      unfold e_wr
      by_cases q : a ≤ k ∧ k < a + 19
      · rw [if_pos q, if_pos q]; exact hr y (by omega) _ (by omega)
      · rw [if_neg q, if_neg q]
    unfold e_st
    rw [w]
end RBI
