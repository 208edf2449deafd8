/-! the whole memory: class and model alike -/
theorem rl_E_o {f0 nn0 ww0 h0 f g h nn ww : Nat → Int32} {o0 o1 oo oo' : m_I} {b b2 k n : Nat} (hE : rl_E false f0 nn0 ww0 h0 o0 f g h nn ww oo b b2 k n) (h40 : oo' 40 = oo 40) (h41 : oo' 41 = oo 41) (h42 : oo' 42 = oo 42) (h43 : oo' 43 = oo 43) : rl_E false f0 nn0 ww0 h0 o1 f g h nn ww oo' b b2 k n := by
  obtain ⟨y1, y2, y3, y4, y5, y6, y7⟩ := hE
  obtain ⟨x1, x2, ⟨n1, n2, n3, n4, n5⟩, x4, x5⟩ := y5 rfl
  refine ⟨y1, y2, y3, y4, fun _ => ⟨x1, x2, ⟨n1, n2, n3, n4, fun i hi => ?_⟩, x4, x5⟩, (fun q => by cases q), y7⟩
  unfold rl_n1
  rw [h40, h41, h42, h43]
  exact n5 i hi
theorem XX_o {f0 nn0 ww0 h0 f g h nn ww : Nat → Int32} {o0 o1 oo oo' : m_I} {N : Nat} (hX : rl_XX f0 nn0 ww0 h0 o0 N f g h nn ww oo) (h40 : oo' 40 = oo 40) (h41 : oo' 41 = oo 41) (h42 : oo' 42 = oo 42) (h43 : oo' 43 = oo 43) : rl_XX f0 nn0 ww0 h0 o1 N f g h nn ww oo' := by
  obtain ⟨c, b, k, n, c1, b1, k1, hL, hE⟩ := hX
  exact ⟨c, b, k, n, c1, b1, k1, hL, rl_E_o hE h40 h41 h42 h43⟩
theorem XX_self {f0 nn0 ww0 h0 f g h nn ww : Nat → Int32} {o0 oo : m_I} {N : Nat} (hX : rl_XX f0 nn0 ww0 h0 o0 N f g h nn ww oo) : rl_XX f nn ww h oo N f g h nn ww oo := by
  obtain ⟨c, b, k, n, c1, b1, k1, hL, hE⟩ := hX
  exact ⟨c, b, k, n, c1, b1, k1, hL, rl_E_self hE⟩
/-- what check() begins with -/
def rl_fs (I : m_I) : Prop := ∀ x, x < 8 → I 2 (565 + x) = I 38 x ∧ I 2 (573 + x) = I 39 x
/-- a house of both -/
def TH (N : Nat) (I : m_I) (L : m_L) : Prop := rl_XX (I 2) (I 10) (I 11) (I 27) I N (I 2) (I 28) (I 27) (I 10) (I 11) I ∧ rl_ro I L ∧ rl_cd I ∧ rl_fs I
def cellS (k : Nat) : Prop := k = 2 ∨ k = 4 ∨ k = 5 ∨ k = 7 ∨ k = 8 ∨ k = 10 ∨ k = 11 ∨ (27 ≤ k ∧ k ≤ 36) ∨ (38 ≤ k ∧ k ≤ 43)
theorem TH_cell {N : Nat} {I I' : m_I} {L L' : m_L} (hT : TH N I L) (h : ∀ k, cellS k → I' k = I k) (h9 : L' 9 = L 9) (h37 : L' 37 = L 37) : TH N I' L' := by
  have e : ∀ k, (k = 2 ∨ k = 4 ∨ k = 5 ∨ k = 7 ∨ k = 8 ∨ k = 10 ∨ k = 11 ∨ (27 ≤ k ∧ k ≤ 36) ∨ (38 ≤ k ∧ k ≤ 43)) → I' k = I k := h
  obtain ⟨a1, a2, a3, a4⟩ := hT
  refine ⟨?_, ?_, ?_, ?_⟩
  · rw [e 2 (by omega), e 10 (by omega), e 11 (by omega), e 27 (by omega), e 28 (by omega)]
    exact XX_o a1 (e 40 (by omega)) (e 41 (by omega)) (e 42 (by omega)) (e 43 (by omega))
  · unfold rl_ro
    rw [e 7 (by omega), e 8 (by omega), e 34 (by omega), e 35 (by omega), e 36 (by omega), h9, h37]
    exact a2
  · unfold rl_cd
    rw [e 4 (by omega), e 5 (by omega), e 29 (by omega), e 30 (by omega), e 31 (by omega), e 32 (by omega), e 33 (by omega)]
    exact a3
  · unfold rl_fs
    rw [e 2 (by omega), e 38 (by omega), e 39 (by omega)]
    exact a4
theorem TH_le {N M : Nat} {I : m_I} {L : m_L} (hT : TH N I L) (hM : N ≤ M) : TH M I L := ⟨rl_XX_le hT.1 hM, hT.2⟩
/-- the kept house, as a memory of its own -/
def vH (q : Nat → Int32) : Nat → Int32 := fun j => if j = 1 then q 3094 else if j = 2 then q 3095 else if j = 3 then q 3096 else if j = 4 then q 3097 else if j = 17 then q 3098 else nI 0
def vO (q : Nat → Int32) (lo : Nat) : Nat → Int32 := fun j => q (lo + j)
def vB (q : Nat → Int32) : Nat → Int32 := fun j => m_bl (decide (q 3099 >>> (nI j &&& 31) &&& nI 1 = nI 1))
def vI (I : m_I) : m_I := fun k => match k with
  | 2 => I 14
  | 4 => I 16
  | 5 => I 17
  | 7 => I 19
  | 8 => I 20
  | 10 => I 22
  | 11 => I 23
  | 27 => vH (I 53)
  | 28 => vO (I 53) 3100
  | 29 => vO (I 53) 0
  | 30 => vO (I 53) 6
  | 31 => vO (I 53) 246
  | 32 => vO (I 53) 486
  | 33 => vO (I 53) 726
  | 34 => vB (I 53)
  | 35 => vO (I 53) 966
  | 36 => vO (I 53) 972
  | 38 => vO (I 53) 978
  | 39 => vO (I 53) 986
  | 40 => vO (I 53) 994
  | 41 => vO (I 53) 1054
  | 42 => vO (I 53) 1114
  | 43 => vO (I 53) 1174
  | k => I k
def vL (L : m_L) : m_L := fun k => if k = 9 then L 21 else if k = 37 then L 54 else L k
def rl_kp (N : Nat) (I : m_I) (L : m_L) : Prop := I 0 3 = I 27 37 ∧ I 22 3 = nI 0 ∧ (I 27 37 = nI 0 ∨ (I 27 37 = nI 1 ∧ TH N (vI I) (vL L)))
def rl_bg (I : m_I) : Prop := I 0 5 = I 27 25 ∧ ∃ m, m ≤ 4000 ∧ I 0 5 = nI m
/-- the ends of the latest explore() that met all -/
def rl_en (e : Option Nat) (I : m_I) : Prop := (e = none ∧ I 27 28 = nI 0) ∨ (e = some 55 ∧ ((I 55 10 = -1 ∧ I 27 28 = nI 0) ∨ ∃ m, m ≤ 400 ∧ I 55 10 = nI m ∧ I 27 28 = nI 1 ∧ I 27 29 = nI m ∧ ∀ j, j < 19 * m → I 61 j = I 46 j))
def TP (N : Nat) (e : Option Nat) (I : m_I) (L : m_L) : Prop := TH N I L ∧ rl_bg I ∧ rl_en e I ∧ rl_kp N I L
def cellK (k : Nat) : Prop := k = 14 ∨ k = 16 ∨ k = 17 ∨ k = 19 ∨ k = 20 ∨ k = 22 ∨ k = 23 ∨ k = 53
theorem kp_cell {N M : Nat} {I I' : m_I} {L L' : m_L} (hK : rl_kp N I L) (h : ∀ k, cellK k → I' k = I k) (h0 : I' 0 3 = I 0 3) (h27 : I' 27 37 = I 27 37) (h21 : L' 21 = L 21) (h54 : L' 54 = L 54) (hM : N ≤ M) : rl_kp M I' L' := by
  have e : ∀ k, (k = 14 ∨ k = 16 ∨ k = 17 ∨ k = 19 ∨ k = 20 ∨ k = 22 ∨ k = 23 ∨ k = 53) → I' k = I k := h
  obtain ⟨a1, a3, a2⟩ := hK
  refine ⟨by rw [h0, h27]; exact a1, by rw [e 22 (by omega)]; exact a3, ?_⟩
  rw [h27]
  rcases a2 with q | ⟨q1, q2⟩
  · exact Or.inl q
  · refine Or.inr ⟨q1, TH_le (TH_cell q2 (fun k hk => ?_) h21 h54) hM⟩
    unfold cellS at hk
    have h53 : I' 53 = I 53 := e 53 (by omega)
    rcases hk with rfl | rfl | rfl | rfl | rfl | rfl | rfl | hk | hk
    · exact e 14 (by omega)
    · exact e 16 (by omega)
    · exact e 17 (by omega)
    · exact e 19 (by omega)
    · exact e 20 (by omega)
    · exact e 22 (by omega)
    · exact e 23 (by omega)
    · obtain rfl | rfl | rfl | rfl | rfl | rfl | rfl | rfl | rfl | rfl : k = 27 ∨ k = 28 ∨ k = 29 ∨ k = 30 ∨ k = 31 ∨ k = 32 ∨ k = 33 ∨ k = 34 ∨ k = 35 ∨ k = 36 := by omega
      all_goals first
        | exact congrArg vH h53
        | exact congrArg vB h53
        | (show vO (I' 53) _ = vO (I 53) _; rw [h53])
    · obtain rfl | rfl | rfl | rfl | rfl | rfl : k = 38 ∨ k = 39 ∨ k = 40 ∨ k = 41 ∨ k = 42 ∨ k = 43 := by omega
      all_goals first
        | exact congrArg vH h53
        | exact congrArg vB h53
        | (show vO (I' 53) _ = vO (I 53) _; rw [h53])
theorem TR_cell {N M : Nat} {e : Option Nat} {I I' : m_I} {L L' : m_L} (hB : rl_bg I) (hN : rl_en e I) (hK : rl_kp N I L) (h0 : I' 0 = I 0) (h27 : ∀ j, 24 < j → I' 27 j = I 27 j) (h55 : I' 55 = I 55) (h61 : I' 61 = I 61) (h46 : I' 46 = I 46) (h : ∀ k, cellK k → I' k = I k) (h21 : L' 21 = L 21) (h54 : L' 54 = L 54) (hM : N ≤ M) : rl_bg I' ∧ rl_en e I' ∧ rl_kp M I' L' := by
  refine ⟨?_, ?_, kp_cell hK h (by rw [h0]) (h27 37 (by omega)) h21 h54 hM⟩
  · unfold rl_bg
    rw [h0, h27 25 (by omega)]
    exact hB
  · unfold rl_en
    rw [h27 28 (by omega), h27 29 (by omega), h55, h61, h46]
    exact hN
/-- a pair of public methods, alike -/
def pair_ok (V : m_V) (t : Nat) (e : Option Nat) (N : Nat) (I : m_I) (L : m_L) (c : Nat) (As : List Value) (d : Nat) (Bs : List Value) : Prop :=
  ∃ v I1 L1 I2 L2, (∀ Q, WP V c 0 (m_loc c (.ref 0 :: As)) [] t I L (m_RR e 28 48) Q = Q (some v) t I1 L1 (m_RR e 28 48)) ∧ (∀ Q, WP V d 0 (m_loc d (.ref 27 :: Bs)) [] t I1 L1 (m_RR e 28 48) Q = Q (some v) t I2 L2 (m_RR e 28 48)) ∧ TP (N + 200) e I2 L2
section RZC
variable {V : m_V} {t N : Nat} {I : m_I} {L : m_L} {e : Option Nat} {Q : Option Value → Nat → m_I → m_L → m_R → Prop} {f g h nn ww g26 : Nat → Int32} {oo : m_I}
theorem TP_le {M : Nat} (hT : TP N e I L) (hM : N ≤ M) : TP M e I L := by
  obtain ⟨a1, a2, a3, a4⟩ := hT
  obtain ⟨b1, b2, b3⟩ := TR_cell (M := M) a2 a3 a4 rfl (fun _ _ => rfl) rfl rfl rfl (fun _ _ => rfl) rfl rfl hM
  exact ⟨TH_le a1 hM, b1, b2, b3⟩
/-- nothing changes: both answer v -/
theorem pair_v {c d : Nat} {As Bs : List Value} {v : Value} (hT : TP N e I L) (h1 : ∀ Q, WP V c 0 (m_loc c (.ref 0 :: As)) [] t I L (m_RR e 28 48) Q = Q (some v) t I L (m_RR e 28 48)) (h2 : ∀ Q, WP V d 0 (m_loc d (.ref 27 :: Bs)) [] t I L (m_RR e 28 48) Q = Q (some v) t I L (m_RR e 28 48)) : pair_ok V t e N I L c As d Bs := ⟨v, I, L, I, L, h1, h2, TP_le hT (Nat.le_add_right _ _)⟩
/-- the memory behind steps -/
def mMC (I : m_I) (f g26 nn ww g h : Nat → Int32) (oo : m_I) : m_I := mM (mC I f g26 nn ww) 28 g h oo
theorem mMC_o {k : Nat} (h1 : k ≠ 2 ∧ k ≠ 26 ∧ k ≠ 10 ∧ k ≠ 11 ∧ k ≠ 27 ∧ k ≠ 28) (h2 : k < 40 ∨ 44 < k) : mMC I f g26 nn ww g h oo k = I k := by
  unfold mMC
  rw [mM_o h1.2.2.2.2.2 h1.2.2.2.2.1 (by omega), mC_o ⟨h1.1, h1.2.1, h1.2.2.1, h1.2.2.2.1⟩]
theorem TP_steps {M : Nat} (hT : TP N e I L) (hX : rl_XX (I 2) (I 10) (I 11) (I 27) I M f g h nn ww oo) (hM : N ≤ M) : TP M e (mMC I f g26 nn ww g h oo) L := by
  obtain ⟨⟨t1, t2, t3, t4⟩, a2, a3, a4⟩ := hT
  have O : ∀ k, (k ≠ 2 ∧ k ≠ 26 ∧ k ≠ 10 ∧ k ≠ 11 ∧ k ≠ 27 ∧ k ≠ 28) → (k < 40 ∨ 44 < k) → mMC I f g26 nn ww g h oo k = I k := fun k h1 h2 => mMC_o h1 h2
  obtain ⟨c, b, k, n, c1, b1, k1, hL, hE⟩ := id hX
  have st : st_eq (mMC I f g26 nn ww g h oo) I := ⟨O _ (by omega) (by omega), O _ (by omega) (by omega), O _ (by omega) (by omega), O _ (by omega) (by omega), O _ (by omega) (by omega), O _ (by omega) (by omega), O _ (by omega) (by omega), O _ (by omega) (by omega), O _ (by omega) (by omega), O _ (by omega) (by omega), O _ (by omega) (by omega), O _ (by omega) (by omega)⟩
  have hh : ∀ j, 24 < j → h j = I 27 j := fun j hj => hE.2.2.1 j (by omega) (by omega) (by omega) (by omega) (by omega) (by omega)
  obtain ⟨r1, r2, r3⟩ := TR_cell (M := M) (I' := mMC I f g26 nn ww g h oo) (L' := L) a2 a3 a4 (O 0 (by omega) (by omega)) (fun j hj => hh j hj) (O 55 (by omega) (by omega)) (O 61 (by omega) (by omega)) (O 46 (by omega) (by omega)) (fun k hk => O k (by unfold cellK at hk; omega) (by unfold cellK at hk; omega)) rfl rfl hM
  refine ⟨⟨?_, rl_ro_cg st t2, rl_cd_cg st t3, fun x hx => ?_⟩, r1, r2, r3⟩
  · exact XX_o (XX_self hX) rfl rfl rfl rfl
  · obtain ⟨q1, q2⟩ := t4 x hx
    have e2 : mMC I f g26 nn ww g h oo 2 = f := rfl
    rw [e2, O 38 (by omega) (by omega), O 39 (by omega) (by omega), hE.1 (565 + x) (by omega), hE.1 (573 + x) (by omega)]
    exact ⟨q1, q2⟩
end RZC
