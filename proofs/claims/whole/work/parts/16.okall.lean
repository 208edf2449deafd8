/-! THE CLAIM OUT OF ONE WALK OF THE LAW'S BODY. Your part is whole_start (and what it stands on); all else here is the same for every law, but numbers. -/
def R_law : String := "TransactionCellsLaw"
def lw_P (b : Addr) (xs : List Int32) (args : Array Value) (s : State) : Prop := args = #[.ref b] ∧ s.IntsAt b xs ∧ xs.length ≤ 3072 ∧ (Jvm.Cond.and given_1 narrow_1).before args s = true
def lw_Q (_ : Array Value) (s : State) (o : Outcome) (t : State) : Prop := o = .returned (some (.int 1)) ∧ Framed s o t [] room_1.cells room_1.slots
def lw_Z (below : List Frame) (a : Array Value) (s : State) : State → Prop := fun t => ∃ o, t.status = .running ∧ Ended t below o ∧ lw_Q a s o t
/-- the law's own end, with 1 on the stack, nothing written that was there before, its room as the claim has it -/
theorem lw_ret {p : Program} {l : Launch} {e : Env} {s : State} {m : MethodId} {below : List Frame} {meth : Method} {c : Code} {b : Nat} (hx : p.tables.exec = Jvm.exec) (hb : c.code = code) (hr : meth.sig.returnType = ret) (hlocks : meth.locks = false) {pc : Nat} {H : Heap} {ls : Array Slot} (hdg : decode code pc = .ok (.ireturn, 1)) : W p l e room_1 s m #[Value.ref b] below meth c H [] room_1.cells room_1.slots (lw_Z below #[Value.ref b] s) (F0 m pc ls [.int 1]) := by
  intro T hT X
  obtain ⟨fs, hret, hrun, hended, hW, hframe⟩ := X.leave (v := some (.int 1)) (hlocks := hlocks) (fun h => by rw [hr] at h; cases h)
  have hmeth' : T.vm.method? m = some meth := X.method'
  refine ⟨T.setFrames fs, ?_, .returned (some (.int 1)), hrun, hended, rfl, ⟨_, rfl⟩, hW, hframe⟩
  jvm_step X.here [X.here.top, hx, hb, hdg, hmeth', hr, ret, narrow_b1]
  (try refine ⟨rfl, ?_⟩); (try refine ⟨rfl, ?_⟩)
  first | (intro acts; rw [hret _ acts rfl rfl rfl]) | rw [hret _ _ rfl rfl rfl]
  exact Steps.refl _
/-- what holds at the law's entry: the machine, the code, the tables' words (any of lw_tbl by 'hts w (by decide +kernel)'), the script of L ints xs at the cell b, what the Statement gives of the start (any of its parts by flat_of_before) -/
def lw_At (p : Program) (s : State) (m : MethodId) (meth : Method) (c : Code) (b L : Nat) (xs : Nat → Int32) : Prop :=
  p.tables.exec = Jvm.exec ∧ c.code = code ∧ meth.sig.returnType = ret ∧ c.maxLocals = 4 ∧ s.vm.findClass R_law = some m.cls ∧ (∀ w ∈ lw_tbl, w.before #[Value.ref b] s = true) ∧ va_X b L xs s s.heap ∧ b < s.heap.size ∧ meth.locks = false ∧ (Jvm.Cond.and given_1 narrow_1).before #[Value.ref b] s = true
/-! all methods are checked; the law out of the small machine -/
theorem m_k0 : 0 ≠ 193 → m_okc 0 := fun _ => ⟨⟨m_c0, m_d0, rfl⟩, m_m0, m_g_at m_w0 rfl⟩
theorem m_k1 : 1 ≠ 193 → m_okc 1 := fun _ => ⟨⟨m_c1, m_d1, rfl⟩, m_m1, m_g_at m_w1 rfl⟩
theorem m_k2 : 2 ≠ 193 → m_okc 2 := fun _ => ⟨⟨m_c2, m_d2, rfl⟩, m_m2, m_g_at m_w2 rfl⟩
theorem m_k3 : 3 ≠ 193 → m_okc 3 := fun _ => ⟨⟨m_c3, m_d3, rfl⟩, m_m3, m_g_at m_w3 rfl⟩
theorem m_k4 : 4 ≠ 193 → m_okc 4 := fun _ => ⟨⟨m_c4, m_d4, rfl⟩, m_m4, m_g_at m_w4 rfl⟩
theorem m_k5 : 5 ≠ 193 → m_okc 5 := fun _ => ⟨⟨m_c5, m_d5, rfl⟩, m_m5, m_g_at m_w5 rfl⟩
theorem m_k6 : 6 ≠ 193 → m_okc 6 := fun _ => ⟨⟨m_c6, m_d6, rfl⟩, m_m6, m_g_at m_w6 rfl⟩
theorem m_k7 : 7 ≠ 193 → m_okc 7 := fun _ => ⟨⟨m_c7, m_d7, rfl⟩, m_m7, m_g_at m_w7 rfl⟩
theorem m_k8 : 8 ≠ 193 → m_okc 8 := fun _ => ⟨⟨m_c8, m_d8, rfl⟩, m_m8, m_g_at m_w8 rfl⟩
theorem m_k9 : 9 ≠ 193 → m_okc 9 := fun _ => ⟨⟨m_c9, m_d9, rfl⟩, m_m9, m_g_at m_w9 rfl⟩
theorem m_k10 : 10 ≠ 193 → m_okc 10 := fun _ => ⟨⟨m_c10, m_d10, rfl⟩, m_m10, m_g_at m_w10 rfl⟩
theorem m_k11 : 11 ≠ 193 → m_okc 11 := fun _ => ⟨⟨m_c11, m_d11, rfl⟩, m_m11, m_g_at m_w11 rfl⟩
theorem m_k12 : 12 ≠ 193 → m_okc 12 := fun _ => ⟨⟨m_c12, m_d12, rfl⟩, m_m12, m_g_at m_w12 rfl⟩
theorem m_k13 : 13 ≠ 193 → m_okc 13 := fun _ => ⟨⟨m_c13, m_d13, rfl⟩, m_m13, m_g_at m_w13 rfl⟩
theorem m_k14 : 14 ≠ 193 → m_okc 14 := fun _ => ⟨⟨m_c14, m_d14, rfl⟩, m_m14, m_g_at m_w14 rfl⟩
theorem m_k15 : 15 ≠ 193 → m_okc 15 := fun _ => ⟨⟨m_c15, m_d15, rfl⟩, m_m15, m_g_at m_w15 rfl⟩
theorem m_k16 : 16 ≠ 193 → m_okc 16 := fun _ => ⟨⟨m_c16, m_d16, rfl⟩, m_m16, m_g_at m_w16 rfl⟩
theorem m_k17 : 17 ≠ 193 → m_okc 17 := fun _ => ⟨⟨m_c17, m_d17, rfl⟩, m_m17, m_g_at m_w17 rfl⟩
theorem m_k18 : 18 ≠ 193 → m_okc 18 := fun _ => ⟨⟨m_c18, m_d18, rfl⟩, m_m18, m_g_at m_w18 rfl⟩
theorem m_k19 : 19 ≠ 193 → m_okc 19 := fun _ => ⟨⟨m_c19, m_d19, rfl⟩, m_m19, m_g_at m_w19 rfl⟩
theorem m_k20 : 20 ≠ 193 → m_okc 20 := fun _ => ⟨⟨m_c20, m_d20, rfl⟩, m_m20, m_g_at m_w20 rfl⟩
theorem m_k21 : 21 ≠ 193 → m_okc 21 := fun _ => ⟨⟨m_c21, m_d21, rfl⟩, m_m21, m_g_at m_w21 rfl⟩
theorem m_k22 : 22 ≠ 193 → m_okc 22 := fun _ => ⟨⟨m_c22, m_d22, rfl⟩, m_m22, m_g_at m_w22 rfl⟩
theorem m_k23 : 23 ≠ 193 → m_okc 23 := fun _ => ⟨⟨m_c23, m_d23, rfl⟩, m_m23, m_g_at m_w23 rfl⟩
theorem m_k24 : 24 ≠ 193 → m_okc 24 := fun _ => ⟨⟨m_c24, m_d24, rfl⟩, m_m24, m_g_at m_w24 rfl⟩
theorem m_k25 : 25 ≠ 193 → m_okc 25 := fun _ => ⟨⟨m_c25, m_d25, rfl⟩, m_m25, m_g_at m_w25 rfl⟩
theorem m_k26 : 26 ≠ 193 → m_okc 26 := fun _ => ⟨⟨m_c26, m_d26, rfl⟩, m_m26, m_g_at m_w26 rfl⟩
theorem m_k27 : 27 ≠ 193 → m_okc 27 := fun _ => ⟨⟨m_c27, m_d27, rfl⟩, m_m27, m_g_at m_w27 rfl⟩
theorem m_k28 : 28 ≠ 193 → m_okc 28 := fun _ => ⟨⟨m_c28, m_d28, rfl⟩, m_m28, m_g_at m_w28 rfl⟩
theorem m_k29 : 29 ≠ 193 → m_okc 29 := fun _ => ⟨⟨m_c29, m_d29, rfl⟩, m_m29, m_g_at m_w29 rfl⟩
theorem m_k30 : 30 ≠ 193 → m_okc 30 := fun _ => ⟨⟨m_c30, m_d30, rfl⟩, m_m30, m_g_at m_w30 rfl⟩
theorem m_k31 : 31 ≠ 193 → m_okc 31 := fun _ => ⟨⟨m_c31, m_d31, rfl⟩, m_m31, m_g_at m_w31 rfl⟩
theorem m_k32 : 32 ≠ 193 → m_okc 32 := fun _ => ⟨⟨m_c32, m_d32, rfl⟩, m_m32, m_g_at m_w32 rfl⟩
theorem m_k33 : 33 ≠ 193 → m_okc 33 := fun _ => ⟨⟨m_c33, m_d33, rfl⟩, m_m33, m_g_at m_w33 rfl⟩
theorem m_k34 : 34 ≠ 193 → m_okc 34 := fun _ => ⟨⟨m_c34, m_d34, rfl⟩, m_m34, m_g_at m_w34 rfl⟩
theorem m_k35 : 35 ≠ 193 → m_okc 35 := fun _ => ⟨⟨m_c35, m_d35, rfl⟩, m_m35, m_g_at m_w35 rfl⟩
theorem m_k36 : 36 ≠ 193 → m_okc 36 := fun _ => ⟨⟨m_c36, m_d36, rfl⟩, m_m36, m_g_at m_w36 rfl⟩
theorem m_k37 : 37 ≠ 193 → m_okc 37 := fun _ => ⟨⟨m_c37, m_d37, rfl⟩, m_m37, m_g_at m_w37 rfl⟩
theorem m_k38 : 38 ≠ 193 → m_okc 38 := fun _ => ⟨⟨m_c38, m_d38, rfl⟩, m_m38, m_g_at m_w38 rfl⟩
theorem m_k39 : 39 ≠ 193 → m_okc 39 := fun _ => ⟨⟨m_c39, m_d39, rfl⟩, m_m39, m_g_at m_w39 rfl⟩
theorem m_k40 : 40 ≠ 193 → m_okc 40 := fun _ => ⟨⟨m_c40, m_d40, rfl⟩, m_m40, m_g_at m_w40 rfl⟩
theorem m_k41 : 41 ≠ 193 → m_okc 41 := fun _ => ⟨⟨m_c41, m_d41, rfl⟩, m_m41, m_g_at m_w41 rfl⟩
theorem m_k42 : 42 ≠ 193 → m_okc 42 := fun _ => ⟨⟨m_c42, m_d42, rfl⟩, m_m42, m_g_at m_w42 rfl⟩
theorem m_k43 : 43 ≠ 193 → m_okc 43 := fun _ => ⟨⟨m_c43, m_d43, rfl⟩, m_m43, m_g_at m_w43 rfl⟩
theorem m_k44 : 44 ≠ 193 → m_okc 44 := fun _ => ⟨⟨m_c44, m_d44, rfl⟩, m_m44, m_g_at m_w44 rfl⟩
theorem m_k45 : 45 ≠ 193 → m_okc 45 := fun _ => ⟨⟨m_c45, m_d45, rfl⟩, m_m45, m_g_at m_w45 rfl⟩
theorem m_k46 : 46 ≠ 193 → m_okc 46 := fun _ => ⟨⟨m_c46, m_d46, rfl⟩, m_m46, m_g_at m_w46 rfl⟩
theorem m_k47 : 47 ≠ 193 → m_okc 47 := fun _ => ⟨⟨m_c47, m_d47, rfl⟩, m_m47, m_g_at m_w47 rfl⟩
theorem m_k48 : 48 ≠ 193 → m_okc 48 := fun _ => ⟨⟨m_c48, m_d48, rfl⟩, m_m48, m_g_at m_w48 rfl⟩
theorem m_k49 : 49 ≠ 193 → m_okc 49 := fun _ => ⟨⟨m_c49, m_d49, rfl⟩, m_m49, m_g_at m_w49 rfl⟩
theorem m_k50 : 50 ≠ 193 → m_okc 50 := fun _ => ⟨⟨m_c50, m_d50, rfl⟩, m_m50, m_g_at m_w50 rfl⟩
theorem m_k51 : 51 ≠ 193 → m_okc 51 := fun _ => ⟨⟨m_c51, m_d51, rfl⟩, m_m51, m_g_at m_w51 rfl⟩
theorem m_k52 : 52 ≠ 193 → m_okc 52 := fun _ => ⟨⟨m_c52, m_d52, rfl⟩, m_m52, m_g_at m_w52 rfl⟩
theorem m_k53 : 53 ≠ 193 → m_okc 53 := fun _ => ⟨⟨m_c53, m_d53, rfl⟩, m_m53, m_g_at m_w53 rfl⟩
theorem m_k54 : 54 ≠ 193 → m_okc 54 := fun _ => ⟨⟨m_c54, m_d54, rfl⟩, m_m54, m_g_at m_w54 rfl⟩
theorem m_k55 : 55 ≠ 193 → m_okc 55 := fun _ => ⟨⟨m_c55, m_d55, rfl⟩, m_m55, m_g_at m_w55 rfl⟩
theorem m_k56 : 56 ≠ 193 → m_okc 56 := fun _ => ⟨⟨m_c56, m_d56, rfl⟩, m_m56, m_g_at m_w56 rfl⟩
theorem m_k57 : 57 ≠ 193 → m_okc 57 := fun _ => ⟨⟨m_c57, m_d57, rfl⟩, m_m57, m_g_at m_w57 rfl⟩
theorem m_k58 : 58 ≠ 193 → m_okc 58 := fun _ => ⟨⟨m_c58, m_d58, rfl⟩, m_m58, m_g_at m_w58 rfl⟩
theorem m_k59 : 59 ≠ 193 → m_okc 59 := fun _ => ⟨⟨m_c59, m_d59, rfl⟩, m_m59, m_g_at m_w59 rfl⟩
theorem m_k60 : 60 ≠ 193 → m_okc 60 := fun _ => ⟨⟨m_c60, m_d60, rfl⟩, m_m60, m_g_at m_w60 rfl⟩
theorem m_k61 : 61 ≠ 193 → m_okc 61 := fun _ => ⟨⟨m_c61, m_d61, rfl⟩, m_m61, m_g_at m_w61 rfl⟩
theorem m_k62 : 62 ≠ 193 → m_okc 62 := fun _ => ⟨⟨m_c62, m_d62, rfl⟩, m_m62, m_g_at m_w62 rfl⟩
theorem m_k63 : 63 ≠ 193 → m_okc 63 := fun _ => ⟨⟨m_c63, m_d63, rfl⟩, m_m63, m_g_at m_w63 rfl⟩
theorem m_k64 : 64 ≠ 193 → m_okc 64 := fun _ => ⟨⟨m_c64, m_d64, rfl⟩, m_m64, m_g_at m_w64 rfl⟩
theorem m_k65 : 65 ≠ 193 → m_okc 65 := fun _ => ⟨⟨m_c65, m_d65, rfl⟩, m_m65, m_g_at m_w65 rfl⟩
theorem m_k66 : 66 ≠ 193 → m_okc 66 := fun _ => ⟨⟨m_c66, m_d66, rfl⟩, m_m66, m_g_at m_w66 rfl⟩
theorem m_k67 : 67 ≠ 193 → m_okc 67 := fun _ => ⟨⟨m_c67, m_d67, rfl⟩, m_m67, m_g_at m_w67 rfl⟩
theorem m_k68 : 68 ≠ 193 → m_okc 68 := fun _ => ⟨⟨m_c68, m_d68, rfl⟩, m_m68, m_g_at m_w68 rfl⟩
theorem m_k69 : 69 ≠ 193 → m_okc 69 := fun _ => ⟨⟨m_c69, m_d69, rfl⟩, m_m69, m_g_at m_w69 rfl⟩
theorem m_k70 : 70 ≠ 193 → m_okc 70 := fun _ => ⟨⟨m_c70, m_d70, rfl⟩, m_m70, m_g_at m_w70 rfl⟩
theorem m_k71 : 71 ≠ 193 → m_okc 71 := fun _ => ⟨⟨m_c71, m_d71, rfl⟩, m_m71, m_g_at m_w71 rfl⟩
theorem m_k72 : 72 ≠ 193 → m_okc 72 := fun _ => ⟨⟨m_c72, m_d72, rfl⟩, m_m72, m_g_at m_w72 rfl⟩
theorem m_k73 : 73 ≠ 193 → m_okc 73 := fun _ => ⟨⟨m_c73, m_d73, rfl⟩, m_m73, m_g_at m_w73 rfl⟩
theorem m_k74 : 74 ≠ 193 → m_okc 74 := fun _ => ⟨⟨m_c74, m_d74, rfl⟩, m_m74, m_g_at m_w74 rfl⟩
theorem m_k75 : 75 ≠ 193 → m_okc 75 := fun _ => ⟨⟨m_c75, m_d75, rfl⟩, m_m75, m_g_at m_w75 rfl⟩
theorem m_k76 : 76 ≠ 193 → m_okc 76 := fun _ => ⟨⟨m_c76, m_d76, rfl⟩, m_m76, m_g_at m_w76 rfl⟩
theorem m_k77 : 77 ≠ 193 → m_okc 77 := fun _ => ⟨⟨m_c77, m_d77, rfl⟩, m_m77, m_g_at m_w77 rfl⟩
theorem m_k78 : 78 ≠ 193 → m_okc 78 := fun _ => ⟨⟨m_c78, m_d78, rfl⟩, m_m78, m_g_at m_w78 rfl⟩
theorem m_k79 : 79 ≠ 193 → m_okc 79 := fun _ => ⟨⟨m_c79, m_d79, rfl⟩, m_m79, m_g_at m_w79 rfl⟩
theorem m_k80 : 80 ≠ 193 → m_okc 80 := fun _ => ⟨⟨m_c80, m_d80, rfl⟩, m_m80, m_g_at m_w80 rfl⟩
theorem m_k81 : 81 ≠ 193 → m_okc 81 := fun _ => ⟨⟨m_c81, m_d81, rfl⟩, m_m81, m_g_at m_w81 rfl⟩
theorem m_k82 : 82 ≠ 193 → m_okc 82 := fun _ => ⟨⟨m_c82, m_d82, rfl⟩, m_m82, m_g_at m_w82 rfl⟩
theorem m_k83 : 83 ≠ 193 → m_okc 83 := fun _ => ⟨⟨m_c83, m_d83, rfl⟩, m_m83, m_g_at m_w83 rfl⟩
theorem m_k84 : 84 ≠ 193 → m_okc 84 := fun _ => ⟨⟨m_c84, m_d84, rfl⟩, m_m84, m_g_at m_w84 rfl⟩
theorem m_k85 : 85 ≠ 193 → m_okc 85 := fun _ => ⟨⟨m_c85, m_d85, rfl⟩, m_m85, m_g_at m_w85 rfl⟩
theorem m_k86 : 86 ≠ 193 → m_okc 86 := fun _ => ⟨⟨m_c86, m_d86, rfl⟩, m_m86, m_g_at m_w86 rfl⟩
theorem m_k87 : 87 ≠ 193 → m_okc 87 := fun _ => ⟨⟨m_c87, m_d87, rfl⟩, m_m87, m_g_at m_w87 rfl⟩
theorem m_k88 : 88 ≠ 193 → m_okc 88 := fun _ => ⟨⟨m_c88, m_d88, rfl⟩, m_m88, m_g_at m_w88 rfl⟩
theorem m_k89 : 89 ≠ 193 → m_okc 89 := fun _ => ⟨⟨m_c89, m_d89, rfl⟩, m_m89, m_g_at m_w89 rfl⟩
theorem m_k90 : 90 ≠ 193 → m_okc 90 := fun _ => ⟨⟨m_c90, m_d90, rfl⟩, m_m90, m_g_at m_w90 rfl⟩
theorem m_k91 : 91 ≠ 193 → m_okc 91 := fun _ => ⟨⟨m_c91, m_d91, rfl⟩, m_m91, m_g_at m_w91 rfl⟩
theorem m_k92 : 92 ≠ 193 → m_okc 92 := fun _ => ⟨⟨m_c92, m_d92, rfl⟩, m_m92, m_g_at m_w92 rfl⟩
theorem m_k93 : 93 ≠ 193 → m_okc 93 := fun _ => ⟨⟨m_c93, m_d93, rfl⟩, m_m93, m_g_at m_w93 rfl⟩
theorem m_k94 : 94 ≠ 193 → m_okc 94 := fun _ => ⟨⟨m_c94, m_d94, rfl⟩, m_m94, m_g_at m_w94 rfl⟩
theorem m_k95 : 95 ≠ 193 → m_okc 95 := fun _ => ⟨⟨m_c95, m_d95, rfl⟩, m_m95, m_g_at m_w95 rfl⟩
theorem m_k96 : 96 ≠ 193 → m_okc 96 := fun _ => ⟨⟨m_c96, m_d96, rfl⟩, m_m96, m_g_at m_w96 rfl⟩
theorem m_k97 : 97 ≠ 193 → m_okc 97 := fun _ => ⟨⟨m_c97, m_d97, rfl⟩, m_m97, m_g_at m_w97 rfl⟩
theorem m_k98 : 98 ≠ 193 → m_okc 98 := fun _ => ⟨⟨m_c98, m_d98, rfl⟩, m_m98, m_g_at m_w98 rfl⟩
theorem m_k99 : 99 ≠ 193 → m_okc 99 := fun _ => ⟨⟨m_c99, m_d99, rfl⟩, m_m99, m_g_at m_w99 rfl⟩
theorem m_k100 : 100 ≠ 193 → m_okc 100 := fun _ => ⟨⟨m_c100, m_d100, rfl⟩, m_m100, m_g_at m_w100 rfl⟩
theorem m_k101 : 101 ≠ 193 → m_okc 101 := fun _ => ⟨⟨m_c101, m_d101, rfl⟩, m_m101, m_g_at m_w101 rfl⟩
theorem m_k102 : 102 ≠ 193 → m_okc 102 := fun _ => ⟨⟨m_c102, m_d102, rfl⟩, m_m102, m_g_at m_w102 rfl⟩
theorem m_k103 : 103 ≠ 193 → m_okc 103 := fun _ => ⟨⟨m_c103, m_d103, rfl⟩, m_m103, m_g_at m_w103 rfl⟩
theorem m_k104 : 104 ≠ 193 → m_okc 104 := fun _ => ⟨⟨m_c104, m_d104, rfl⟩, m_m104, m_g_at m_w104 rfl⟩
theorem m_k105 : 105 ≠ 193 → m_okc 105 := fun _ => ⟨⟨m_c105, m_d105, rfl⟩, m_m105, m_g_at m_w105 rfl⟩
theorem m_k106 : 106 ≠ 193 → m_okc 106 := fun _ => ⟨⟨m_c106, m_d106, rfl⟩, m_m106, m_g_at m_w106 rfl⟩
theorem m_k107 : 107 ≠ 193 → m_okc 107 := fun _ => ⟨⟨m_c107, m_d107, rfl⟩, m_m107, m_g_at m_w107 rfl⟩
theorem m_k108 : 108 ≠ 193 → m_okc 108 := fun _ => ⟨⟨m_c108, m_d108, rfl⟩, m_m108, m_g_at m_w108 rfl⟩
theorem m_k109 : 109 ≠ 193 → m_okc 109 := fun _ => ⟨⟨m_c109, m_d109, rfl⟩, m_m109, m_g_at m_w109 rfl⟩
theorem m_k110 : 110 ≠ 193 → m_okc 110 := fun _ => ⟨⟨m_c110, m_d110, rfl⟩, m_m110, m_g_at m_w110 rfl⟩
theorem m_k111 : 111 ≠ 193 → m_okc 111 := fun _ => ⟨⟨m_c111, m_d111, rfl⟩, m_m111, m_g_at m_w111 rfl⟩
theorem m_k112 : 112 ≠ 193 → m_okc 112 := fun _ => ⟨⟨m_c112, m_d112, rfl⟩, m_m112, m_g_at m_w112 rfl⟩
theorem m_k113 : 113 ≠ 193 → m_okc 113 := fun _ => ⟨⟨m_c113, m_d113, rfl⟩, m_m113, m_g_at m_w113 rfl⟩
theorem m_k114 : 114 ≠ 193 → m_okc 114 := fun _ => ⟨⟨m_c114, m_d114, rfl⟩, m_m114, m_g_at m_w114 rfl⟩
theorem m_k115 : 115 ≠ 193 → m_okc 115 := fun _ => ⟨⟨m_c115, m_d115, rfl⟩, m_m115, m_g_at m_w115 rfl⟩
theorem m_k116 : 116 ≠ 193 → m_okc 116 := fun _ => ⟨⟨m_c116, m_d116, rfl⟩, m_m116, m_g_at m_w116 rfl⟩
theorem m_k117 : 117 ≠ 193 → m_okc 117 := fun _ => ⟨⟨m_c117, m_d117, rfl⟩, m_m117, m_g_at m_w117 rfl⟩
theorem m_k118 : 118 ≠ 193 → m_okc 118 := fun _ => ⟨⟨m_c118, m_d118, rfl⟩, m_m118, m_g_at m_w118 rfl⟩
theorem m_k119 : 119 ≠ 193 → m_okc 119 := fun _ => ⟨⟨m_c119, m_d119, rfl⟩, m_m119, m_g_at m_w119 rfl⟩
theorem m_k120 : 120 ≠ 193 → m_okc 120 := fun _ => ⟨⟨m_c120, m_d120, rfl⟩, m_m120, m_g_at m_w120 rfl⟩
theorem m_k121 : 121 ≠ 193 → m_okc 121 := fun _ => ⟨⟨m_c121, m_d121, rfl⟩, m_m121, m_g_at m_w121 rfl⟩
theorem m_k122 : 122 ≠ 193 → m_okc 122 := fun _ => ⟨⟨m_c122, m_d122, rfl⟩, m_m122, m_g_at m_w122 rfl⟩
theorem m_k123 : 123 ≠ 193 → m_okc 123 := fun _ => ⟨⟨m_c123, m_d123, rfl⟩, m_m123, m_g_at m_w123 rfl⟩
theorem m_k124 : 124 ≠ 193 → m_okc 124 := fun _ => ⟨⟨m_c124, m_d124, rfl⟩, m_m124, m_g_at m_w124 rfl⟩
theorem m_k125 : 125 ≠ 193 → m_okc 125 := fun _ => ⟨⟨m_c125, m_d125, rfl⟩, m_m125, m_g_at m_w125 rfl⟩
theorem m_k126 : 126 ≠ 193 → m_okc 126 := fun _ => ⟨⟨m_c126, m_d126, rfl⟩, m_m126, m_g_at m_w126 rfl⟩
theorem m_k127 : 127 ≠ 193 → m_okc 127 := fun _ => ⟨⟨m_c127, m_d127, rfl⟩, m_m127, m_g_at m_w127 rfl⟩
theorem m_k128 : 128 ≠ 193 → m_okc 128 := fun _ => ⟨⟨m_c128, m_d128, rfl⟩, m_m128, m_g_at m_w128 rfl⟩
theorem m_k129 : 129 ≠ 193 → m_okc 129 := fun _ => ⟨⟨m_c129, m_d129, rfl⟩, m_m129, m_g_at m_w129 rfl⟩
theorem m_k130 : 130 ≠ 193 → m_okc 130 := fun _ => ⟨⟨m_c130, m_d130, rfl⟩, m_m130, m_g_at m_w130 rfl⟩
theorem m_k131 : 131 ≠ 193 → m_okc 131 := fun _ => ⟨⟨m_c131, m_d131, rfl⟩, m_m131, m_g_at m_w131 rfl⟩
theorem m_k132 : 132 ≠ 193 → m_okc 132 := fun _ => ⟨⟨m_c132, m_d132, rfl⟩, m_m132, m_g_at m_w132 rfl⟩
theorem m_k133 : 133 ≠ 193 → m_okc 133 := fun _ => ⟨⟨m_c133, m_d133, rfl⟩, m_m133, m_g_at m_w133 rfl⟩
theorem m_k134 : 134 ≠ 193 → m_okc 134 := fun _ => ⟨⟨m_c134, m_d134, rfl⟩, m_m134, m_g_at m_w134 rfl⟩
theorem m_k135 : 135 ≠ 193 → m_okc 135 := fun _ => ⟨⟨m_c135, m_d135, rfl⟩, m_m135, m_g_at m_w135 rfl⟩
theorem m_k136 : 136 ≠ 193 → m_okc 136 := fun _ => ⟨⟨m_c136, m_d136, rfl⟩, m_m136, m_g_at m_w136 rfl⟩
theorem m_k137 : 137 ≠ 193 → m_okc 137 := fun _ => ⟨⟨m_c137, m_d137, rfl⟩, m_m137, m_g_at m_w137 rfl⟩
theorem m_k138 : 138 ≠ 193 → m_okc 138 := fun _ => ⟨⟨m_c138, m_d138, rfl⟩, m_m138, m_g_at m_w138 rfl⟩
theorem m_k139 : 139 ≠ 193 → m_okc 139 := fun _ => ⟨⟨m_c139, m_d139, rfl⟩, m_m139, m_g_at m_w139 rfl⟩
theorem m_k140 : 140 ≠ 193 → m_okc 140 := fun _ => ⟨⟨m_c140, m_d140, rfl⟩, m_m140, m_g_at m_w140 rfl⟩
theorem m_k141 : 141 ≠ 193 → m_okc 141 := fun _ => ⟨⟨m_c141, m_d141, rfl⟩, m_m141, m_g_at m_w141 rfl⟩
theorem m_k142 : 142 ≠ 193 → m_okc 142 := fun _ => ⟨⟨m_c142, m_d142, rfl⟩, m_m142, m_g_at m_w142 rfl⟩
theorem m_k143 : 143 ≠ 193 → m_okc 143 := fun _ => ⟨⟨m_c143, m_d143, rfl⟩, m_m143, m_g_at m_w143 rfl⟩
theorem m_k144 : 144 ≠ 193 → m_okc 144 := fun _ => ⟨⟨m_c144, m_d144, rfl⟩, m_m144, m_g_at m_w144 rfl⟩
theorem m_k145 : 145 ≠ 193 → m_okc 145 := fun _ => ⟨⟨m_c145, m_d145, rfl⟩, m_m145, m_g_at m_w145 rfl⟩
theorem m_k146 : 146 ≠ 193 → m_okc 146 := fun _ => ⟨⟨m_c146, m_d146, rfl⟩, m_m146, m_g_at m_w146 rfl⟩
theorem m_k147 : 147 ≠ 193 → m_okc 147 := fun _ => ⟨⟨m_c147, m_d147, rfl⟩, m_m147, m_g_at m_w147 rfl⟩
theorem m_k148 : 148 ≠ 193 → m_okc 148 := fun _ => ⟨⟨m_c148, m_d148, rfl⟩, m_m148, m_g_at m_w148 rfl⟩
theorem m_k149 : 149 ≠ 193 → m_okc 149 := fun _ => ⟨⟨m_c149, m_d149, rfl⟩, m_m149, m_g_at m_w149 rfl⟩
theorem m_k150 : 150 ≠ 193 → m_okc 150 := fun _ => ⟨⟨m_c150, m_d150, rfl⟩, m_m150, m_g_at m_w150 rfl⟩
theorem m_k151 : 151 ≠ 193 → m_okc 151 := fun _ => ⟨⟨m_c151, m_d151, rfl⟩, m_m151, m_g_at m_w151 rfl⟩
theorem m_k152 : 152 ≠ 193 → m_okc 152 := fun _ => ⟨⟨m_c152, m_d152, rfl⟩, m_m152, m_g_at m_w152 rfl⟩
theorem m_k153 : 153 ≠ 193 → m_okc 153 := fun _ => ⟨⟨m_c153, m_d153, rfl⟩, m_m153, m_g_at m_w153 rfl⟩
theorem m_k154 : 154 ≠ 193 → m_okc 154 := fun _ => ⟨⟨m_c154, m_d154, rfl⟩, m_m154, m_g_at m_w154 rfl⟩
theorem m_k155 : 155 ≠ 193 → m_okc 155 := fun _ => ⟨⟨m_c155, m_d155, rfl⟩, m_m155, m_g_at m_w155 rfl⟩
theorem m_k156 : 156 ≠ 193 → m_okc 156 := fun _ => ⟨⟨m_c156, m_d156, rfl⟩, m_m156, m_g_at m_w156 rfl⟩
theorem m_k157 : 157 ≠ 193 → m_okc 157 := fun _ => ⟨⟨m_c157, m_d157, rfl⟩, m_m157, m_g_at m_w157 rfl⟩
theorem m_k158 : 158 ≠ 193 → m_okc 158 := fun _ => ⟨⟨m_c158, m_d158, rfl⟩, m_m158, m_g_at m_w158 rfl⟩
theorem m_k159 : 159 ≠ 193 → m_okc 159 := fun _ => ⟨⟨m_c159, m_d159, rfl⟩, m_m159, m_g_at m_w159 rfl⟩
theorem m_k160 : 160 ≠ 193 → m_okc 160 := fun _ => ⟨⟨m_c160, m_d160, rfl⟩, m_m160, m_g_at m_w160 rfl⟩
theorem m_k161 : 161 ≠ 193 → m_okc 161 := fun _ => ⟨⟨m_c161, m_d161, rfl⟩, m_m161, m_g_at m_w161 rfl⟩
theorem m_k162 : 162 ≠ 193 → m_okc 162 := fun _ => ⟨⟨m_c162, m_d162, rfl⟩, m_m162, m_g_at m_w162 rfl⟩
theorem m_k163 : 163 ≠ 193 → m_okc 163 := fun _ => ⟨⟨m_c163, m_d163, rfl⟩, m_m163, m_g_at m_w163 rfl⟩
theorem m_k164 : 164 ≠ 193 → m_okc 164 := fun _ => ⟨⟨m_c164, m_d164, rfl⟩, m_m164, m_g_at m_w164 rfl⟩
theorem m_k165 : 165 ≠ 193 → m_okc 165 := fun _ => ⟨⟨m_c165, m_d165, rfl⟩, m_m165, m_g_at m_w165 rfl⟩
theorem m_k166 : 166 ≠ 193 → m_okc 166 := fun _ => ⟨⟨m_c166, m_d166, rfl⟩, m_m166, m_g_at m_w166 rfl⟩
theorem m_k167 : 167 ≠ 193 → m_okc 167 := fun _ => ⟨⟨m_c167, m_d167, rfl⟩, m_m167, m_g_at m_w167 rfl⟩
theorem m_k168 : 168 ≠ 193 → m_okc 168 := fun _ => ⟨⟨m_c168, m_d168, rfl⟩, m_m168, m_g_at m_w168 rfl⟩
theorem m_k169 : 169 ≠ 193 → m_okc 169 := fun _ => ⟨⟨m_c169, m_d169, rfl⟩, m_m169, m_g_at m_w169 rfl⟩
theorem m_k170 : 170 ≠ 193 → m_okc 170 := fun _ => ⟨⟨m_c170, m_d170, rfl⟩, m_m170, m_g_at m_w170 rfl⟩
theorem m_k171 : 171 ≠ 193 → m_okc 171 := fun _ => ⟨⟨m_c171, m_d171, rfl⟩, m_m171, m_g_at m_w171 rfl⟩
theorem m_k172 : 172 ≠ 193 → m_okc 172 := fun _ => ⟨⟨m_c172, m_d172, rfl⟩, m_m172, m_g_at m_w172 rfl⟩
theorem m_k173 : 173 ≠ 193 → m_okc 173 := fun _ => ⟨⟨m_c173, m_d173, rfl⟩, m_m173, m_g_at m_w173 rfl⟩
theorem m_k174 : 174 ≠ 193 → m_okc 174 := fun _ => ⟨⟨m_c174, m_d174, rfl⟩, m_m174, m_g_at m_w174 rfl⟩
theorem m_k175 : 175 ≠ 193 → m_okc 175 := fun _ => ⟨⟨m_c175, m_d175, rfl⟩, m_m175, m_g_at m_w175 rfl⟩
theorem m_k176 : 176 ≠ 193 → m_okc 176 := fun _ => ⟨⟨m_c176, m_d176, rfl⟩, m_m176, m_g_at m_w176 rfl⟩
theorem m_k177 : 177 ≠ 193 → m_okc 177 := fun _ => ⟨⟨m_c177, m_d177, rfl⟩, m_m177, m_g_at m_w177 rfl⟩
theorem m_k178 : 178 ≠ 193 → m_okc 178 := fun _ => ⟨⟨m_c178, m_d178, rfl⟩, m_m178, m_g_at m_w178 rfl⟩
theorem m_k179 : 179 ≠ 193 → m_okc 179 := fun _ => ⟨⟨m_c179, m_d179, rfl⟩, m_m179, m_g_at m_w179 rfl⟩
theorem m_k180 : 180 ≠ 193 → m_okc 180 := fun _ => ⟨⟨m_c180, m_d180, rfl⟩, m_m180, m_g_at m_w180 rfl⟩
theorem m_k181 : 181 ≠ 193 → m_okc 181 := fun _ => ⟨⟨m_c181, m_d181, rfl⟩, m_m181, m_g_at m_w181 rfl⟩
theorem m_k182 : 182 ≠ 193 → m_okc 182 := fun _ => ⟨⟨m_c182, m_d182, rfl⟩, m_m182, m_g_at m_w182 rfl⟩
theorem m_k183 : 183 ≠ 193 → m_okc 183 := fun _ => ⟨⟨m_c183, m_d183, rfl⟩, m_m183, m_g_at m_w183 rfl⟩
theorem m_k184 : 184 ≠ 193 → m_okc 184 := fun _ => ⟨⟨m_c184, m_d184, rfl⟩, m_m184, m_g_at m_w184 rfl⟩
theorem m_k185 : 185 ≠ 193 → m_okc 185 := fun _ => ⟨⟨m_c185, m_d185, rfl⟩, m_m185, m_g_at m_w185 rfl⟩
theorem m_k186 : 186 ≠ 193 → m_okc 186 := fun _ => ⟨⟨m_c186, m_d186, rfl⟩, m_m186, m_g_at m_w186 rfl⟩
theorem m_k187 : 187 ≠ 193 → m_okc 187 := fun _ => ⟨⟨m_c187, m_d187, rfl⟩, m_m187, m_g_at m_w187 rfl⟩
theorem m_k188 : 188 ≠ 193 → m_okc 188 := fun _ => ⟨⟨m_c188, m_d188, rfl⟩, m_m188, m_g_at m_w188 rfl⟩
theorem m_k189 : 189 ≠ 193 → m_okc 189 := fun _ => ⟨⟨m_c189, m_d189, rfl⟩, m_m189, m_g_at m_w189 rfl⟩
theorem m_k190 : 190 ≠ 193 → m_okc 190 := fun _ => ⟨⟨m_c190, m_d190, rfl⟩, m_m190, m_g_at m_w190 rfl⟩
theorem m_k191 : 191 ≠ 193 → m_okc 191 := fun _ => ⟨⟨m_c191, m_d191, rfl⟩, m_m191, m_g_at m_w191 rfl⟩
theorem m_k192 : 192 ≠ 193 → m_okc 192 := fun _ => ⟨⟨m_c192, m_d192, rfl⟩, m_m192, m_g_at m_w192 rfl⟩
theorem m_k193 : 193 ≠ 193 → m_okc 193 := fun h => absurd rfl h
theorem m_k194 : 194 ≠ 193 → m_okc 194 := fun _ => ⟨⟨m_c194, m_d194, rfl⟩, m_m194, m_g_at m_w194 rfl⟩
theorem m_k195 : 195 ≠ 193 → m_okc 195 := fun _ => ⟨⟨m_c195, m_d195, rfl⟩, m_m195, m_g_at m_w195 rfl⟩
theorem m_k196 : 196 ≠ 193 → m_okc 196 := fun _ => ⟨⟨m_c196, m_d196, rfl⟩, m_m196, m_g_at m_w196 rfl⟩
theorem m_k197 : 197 ≠ 193 → m_okc 197 := fun _ => ⟨⟨m_c197, m_d197, rfl⟩, m_m197, m_g_at m_w197 rfl⟩
theorem m_okall : ∀ a, a < 198 → (a ≠ 193 → m_okc a) := by
  intro a ha
  have hl : ∀ a, a < 198 → a ∈ List.range 198 := fun a h => List.mem_range.mpr h
  exact (lt_s (lt_s (lt_s (lt_s (lt_s (lt_s (lt_s (lt_s (lt_s (lt_s (lt_s (lt_s (lt_s (lt_s (lt_s (lt_s (lt_s (lt_s (lt_s (lt_s (lt_s (lt_s (lt_s (lt_s (lt_s (lt_s (lt_s (lt_s (lt_s (lt_s (lt_s (lt_s (lt_s (lt_s (lt_s (lt_s (lt_s (lt_s (lt_s (lt_s (lt_s (lt_s (lt_s (lt_s (lt_s (lt_s (lt_s (lt_s (lt_s (lt_s (lt_s (lt_s (lt_s (lt_s (lt_s (lt_s (lt_s (lt_s (lt_s (lt_s (lt_s (lt_s (lt_s (lt_s (lt_s (lt_s (lt_s (lt_s (lt_s (lt_s (lt_s (lt_s (lt_s (lt_s (lt_s (lt_s (lt_s (lt_s (lt_s (lt_s (lt_s (lt_s (lt_s (lt_s (lt_s (lt_s (lt_s (lt_s (lt_s (lt_s (lt_s (lt_s (lt_s (lt_s (lt_s (lt_s (lt_s (lt_s (lt_s (lt_s (lt_s (lt_s (lt_s (lt_s (lt_s (lt_s (lt_s (lt_s (lt_s (lt_s (lt_s (lt_s (lt_s (lt_s (lt_s (lt_s (lt_s (lt_s (lt_s (lt_s (lt_s (lt_s (lt_s (lt_s (lt_s (lt_s (lt_s (lt_s (lt_s (lt_s (lt_s (lt_s (lt_s (lt_s (lt_s (lt_s (lt_s (lt_s (lt_s (lt_s (lt_s (lt_s (lt_s (lt_s (lt_s (lt_s (lt_s (lt_s (lt_s (lt_s (lt_s (lt_s (lt_s (lt_s (lt_s (lt_s (lt_s (lt_s (lt_s (lt_s (lt_s (lt_s (lt_s (lt_s (lt_s (lt_s (lt_s (lt_s (lt_s (lt_s (lt_s (lt_s (lt_s (lt_s (lt_s (lt_s (lt_s (lt_s (lt_s (lt_s (lt_s (lt_s (lt_s (lt_s (lt_s (lt_s (lt_s (lt_s (lt_s (lt_s (lt_s (lt_s (lt_s (lt_s (lt_s (lt_s (lt_s (lt_s (lt_0 (p := fun a => a ≠ 193 → m_okc a)) m_k0) m_k1) m_k2) m_k3) m_k4) m_k5) m_k6) m_k7) m_k8) m_k9) m_k10) m_k11) m_k12) m_k13) m_k14) m_k15) m_k16) m_k17) m_k18) m_k19) m_k20) m_k21) m_k22) m_k23) m_k24) m_k25) m_k26) m_k27) m_k28) m_k29) m_k30) m_k31) m_k32) m_k33) m_k34) m_k35) m_k36) m_k37) m_k38) m_k39) m_k40) m_k41) m_k42) m_k43) m_k44) m_k45) m_k46) m_k47) m_k48) m_k49) m_k50) m_k51) m_k52) m_k53) m_k54) m_k55) m_k56) m_k57) m_k58) m_k59) m_k60) m_k61) m_k62) m_k63) m_k64) m_k65) m_k66) m_k67) m_k68) m_k69) m_k70) m_k71) m_k72) m_k73) m_k74) m_k75) m_k76) m_k77) m_k78) m_k79) m_k80) m_k81) m_k82) m_k83) m_k84) m_k85) m_k86) m_k87) m_k88) m_k89) m_k90) m_k91) m_k92) m_k93) m_k94) m_k95) m_k96) m_k97) m_k98) m_k99) m_k100) m_k101) m_k102) m_k103) m_k104) m_k105) m_k106) m_k107) m_k108) m_k109) m_k110) m_k111) m_k112) m_k113) m_k114) m_k115) m_k116) m_k117) m_k118) m_k119) m_k120) m_k121) m_k122) m_k123) m_k124) m_k125) m_k126) m_k127) m_k128) m_k129) m_k130) m_k131) m_k132) m_k133) m_k134) m_k135) m_k136) m_k137) m_k138) m_k139) m_k140) m_k141) m_k142) m_k143) m_k144) m_k145) m_k146) m_k147) m_k148) m_k149) m_k150) m_k151) m_k152) m_k153) m_k154) m_k155) m_k156) m_k157) m_k158) m_k159) m_k160) m_k161) m_k162) m_k163) m_k164) m_k165) m_k166) m_k167) m_k168) m_k169) m_k170) m_k171) m_k172) m_k173) m_k174) m_k175) m_k176) m_k177) m_k178) m_k179) m_k180) m_k181) m_k182) m_k183) m_k184) m_k185) m_k186) m_k187) m_k188) m_k189) m_k190) m_k191) m_k192) m_k193) m_k194) m_k195) m_k196) m_k197) a ha
theorem m_oklaw : m_okm 198 := ⟨m_c198, m_d198, rfl⟩
/-- what the static tables hold -/
def m_Bl (k : Nat) : List Nat := if k = 1000 then [4, 4, 4, 4, 4, 8, 8, 8, 4, 41, 4, 4, 0, 0, 41, 41, 41, 0, 41, 0, 4, 4] else if k = 1001 then [0, 4, 4, 4, 8, 4, 6, 0, 8, 0, 41, 0, 0, 0, 0, 0, 0, 0, 0, 0, 0, 4] else [0, 0, 0, 0, 0, 0, 0, 0, 4, 0, 0, 0, 0, 0, 0, 0, 0, 0, 0, 0, 0, 0]
def m_Bv (k j : Nat) : Int32 := nI ((m_Bl k).getD j 0)
/-- the tables and the script -/
def m_VV (L : Nat) (xs : Nat → Int32) : m_V := (L, fun k j => if k = 1003 then xs j else m_Bv k j)
def m_tm (k : Nat) : Term := .static "TransactionCells$Codes" (m_stn k) "[I"
theorem m_gv1 : ∀ k, 1000 ≤ k → k < 1003 → (Jvm.Cond.arrayOf (m_tm k) .int ∈ flatC (Jvm.Cond.and given_1 narrow_1) ∧ Jvm.Cond.eq (.length (m_tm k)) (.int 22) ∈ flatC (Jvm.Cond.and given_1 narrow_1)) ∧ ∀ j, j < 22 → Jvm.Cond.eq (.elem (m_tm k) (.int (Int32.ofNat j))) (.int (m_Bv k j)) ∈ flatC (Jvm.Cond.and given_1 narrow_1) := by
  intro k h1 h2
  rcases (show k = 1000 ∨ k = 1001 ∨ k = 1002 by omega) with rfl | rfl | rfl
  · exact ⟨⟨by decide +kernel, by decide +kernel⟩, by decide +kernel⟩
  · exact ⟨⟨by decide +kernel, by decide +kernel⟩, by decide +kernel⟩
  · exact ⟨⟨by decide +kernel, by decide +kernel⟩, by decide +kernel⟩
theorem m_gv2 : ∀ k, 1000 ≤ k → k < 1003 → Jvm.Cond.laysStatic "TransactionCells$Codes" (m_stn k) "[I" ∈ lw_tbl ∧ Jvm.Cond.initialized "TransactionCells$Codes" ∈ lw_tbl := by
  intro k h1 h2
  rcases (show k = 1000 ∨ k = 1001 ∨ k = 1002 by omega) with rfl | rfl | rfl
  · exact ⟨by decide +kernel, by decide +kernel⟩
  · exact ⟨by decide +kernel, by decide +kernel⟩
  · exact ⟨by decide +kernel, by decide +kernel⟩
/-- the law's rows from the empty world -/
def m_X0 : m_X := (0, fun _ _ => 0, fun _ _ => 0, fun _ _ => none)
theorem g_static {s : State} {args : Array Value} {A : Nat → Prop} (hgv : (Jvm.Cond.and given_1 narrow_1).before args s = true) (hts : ∀ w ∈ lw_tbl, w.before args s = true) (hA : ∀ a : Nat, a < s.heap.size → ¬ A a) (k : Nat) (h1 : 1000 ≤ k) (h2 : k < 1003) :
    ∃ t : Nat, va_T .int t 22 (fun j => .int (m_Bv k j)) A s s.heap ∧ va_Z "TransactionCells$Codes" (m_stn k) "[I" (.ref t) A s s.heap := by
  have hs := flat_of_before _ hgv
  obtain ⟨⟨g1, g2⟩, g3⟩ := m_gv1 k h1 h2
  obtain ⟨t, ht, hT⟩ := va_Tof (tm := m_tm k) (ty := .int) (N := 22) (f := fun j => .int (m_Bv k j)) (A := A) (by decide) (hs _ g1) (va_eqt (hs _ g2)) (fun j hj => va_eqt (hs _ (g3 j hj))) hA
  exact ⟨t, hT, va_Zref (hts _ (m_gv2 k h1 h2).1) (hts _ (m_gv2 k h1 h2).2) ht hA⟩
theorem g_arr {s : State} {args : Array Value} (hts : ∀ w ∈ m_g, w.before args s = true) (ty : FieldType) (hty : ty = .int ∨ ty = .boolean ∨ ty = .long) : ∃ cA : ClassId, ArrOfT s cA ty ∧ va_RA s cA ty := by
  have hw : (Jvm.Cond.arrayClass ty).before args s = true := by
    rcases hty with rfl | rfl | rfl
    · exact hts _ m_arr_in.1
    · exact hts _ m_arr_in.2.1
    · exact hts _ m_arr_in.2.2
  obtain ⟨cA, kA, comp, h1, h2, h3⟩ := Cond.arrayClass_spec hw
  refine ⟨cA, fun n z => ⟨fun k h => (by cases h), kA, h2, comp, h3⟩, ?_⟩
  rcases hty with rfl | rfl | rfl <;> exact h1
/-- THE LAW, out of its run on the small machine -/
theorem g_law {p : Program} {e : Env} {s : State} {m : MethodId} {below : List Frame} {meth : Method} {c : Code} (l : Launch) {b L : Nat} {xs : Nat → Int32} (C0 : lw_At p s m meth c b L xs)
    (hrun : ∃ (f : Nat) (X1 : m_X), m_ex (m_VV L xs) f (198, 0, m_loc 198 [.ref 1003], [], m_X0) = some (some (.int 1), X1) ∧ X1.1 ≤ 62) :
    W p l e room_1 s m #[Value.ref b] below meth c s.heap [] 0 0 (lw_Z below #[Value.ref b] s) (entryFrame m ([Value.ref b] : List Value).toArray 4) := by
  obtain ⟨hx, hb, hr, hml, hown, hts0, hX, hbl, hlocks, hgv⟩ := C0
  have hts : ∀ w ∈ m_g, w.before #[Value.ref b] s = true := fun w hw => hts0 w (m_g_sub hw)
  have hA : ∀ a : Nat, a < s.heap.size → ¬ (fun q : Nat => s.heap.size ≤ q) a := fun a h => Nat.not_le.mpr h
  obtain ⟨ta, hTa, hZa⟩ := g_static hgv hts0 hA 1000 (by decide) (by decide)
  obtain ⟨tb, hTb, hZb⟩ := g_static hgv hts0 hA 1001 (by decide) (by decide)
  obtain ⟨tc, hTc, hZc⟩ := g_static hgv hts0 hA 1002 (by decide) (by decide)
  obtain ⟨cI, hI1, hI2⟩ := g_arr hts .int (Or.inl rfl)
  obtain ⟨cZ, hz1, hz2⟩ := g_arr hts .boolean (Or.inr (Or.inl rfl))
  obtain ⟨cJ, hJ1, hJ2⟩ := g_arr hts .long (Or.inr (Or.inr rfl))
  have hKn : ∀ a : Nat, ∃ (cC : ClassId) (iS : Nat → Nat), a < 9 → u_Kn s (m_CR a) (m_CT a) (m_CN a) cC iS := by
    intro a
    by_cases ha : a < 9
    · obtain ⟨cC, iS, h⟩ := u_known (C := m_CR a) (T := m_CT a) (N := m_CN a) (n := m_CN a) hts (m_cl_in ha) (hts _ (m_inst_in ha).1)
      exact ⟨cC, iS, fun _ => h⟩
    · exact ⟨0, fun _ => 0, fun h => absurd h ha⟩
  have hc1 : ∀ a : Nat, ∃ q : ClassId × (Nat → Nat), a < 9 → u_Kn s (m_CR a) (m_CT a) (m_CN a) q.1 q.2 := fun a => by
    obtain ⟨cC, iS, h⟩ := hKn a
    exact ⟨(cC, iS), h⟩
  obtain ⟨D, hD⟩ : ∃ D : Nat → ClassId × (Nat → Nat), ∀ a, a < 9 → u_Kn s (m_CR a) (m_CT a) (m_CN a) (D a).1 (D a).2 := ⟨fun a => Classical.choose (hc1 a), fun a ha => Classical.choose_spec (hc1 a) ha⟩
  obtain ⟨G, hG⟩ : ∃ G : g_G, G = (s.heap.size, fun k => if k = 1000 then ta else if k = 1001 then tb else if k = 1002 then tc else b, (fun a => (D a).1, fun a => (D a).2), fun k => if k = 2 then cI else if k = 3 then cZ else cJ) := ⟨_, rfl⟩
  have hK : g_K G s := by
    subst hG
    refine ⟨⟨fun a q hq => ?_, fun k q hq => ?_⟩, fun w hw => va_Nw.of (m_nests_all (P := fun w => w.onTables = true) (fun _ _ _ _ _ => rfl) w hw) (hts0 w (m_nests_in w hw))⟩
    · have ha : a < 9 := (List.getElem?_eq_some_iff.mp hq).1
      rw [m_cl_at a ha] at hq
      cases hq
      exact hD a ha
    · match k, hq with
      | 0, hq => cases hq; exact ⟨hI1, hI2⟩
      | 1, hq => cases hq; exact ⟨hz1, hz2⟩
      | 2, hq => cases hq; exact ⟨hJ1, hJ2⟩
      | k + 3, hq => simp [g_tys] at hq
  have e3 : g_ad G 1003 = b := by subst hG; rfl
  have e0 : g_ad G 1000 = ta := by subst hG; rfl
  have e1 : g_ad G 1001 = tb := by subst hG; rfl
  have e2 : g_ad G 1002 = tc := by subst hG; rfl
  have eB : G.1 = s.heap.size := by subst hG; rfl
  have eA : g_A G = fun q => s.heap.size ≤ q := by subst hG; rfl
  have hO : g_O G (m_VV L xs) s s.heap := by
    refine ⟨⟨⟨by rw [e3]; exact hX, by rw [e3, eB]; exact hbl⟩, fun k h1 h2 => ?_⟩, fun k h1 h2 => ?_⟩
    · rcases (show k = 1000 ∨ k = 1001 ∨ k = 1002 by omega) with rfl | rfl | rfl
      · rw [e0, eA]; exact hTa
      · rw [e1, eA]; exact hTb
      · rw [e2, eA]; exact hTc
    · rcases (show k = 1000 ∨ k = 1001 ∨ k = 1002 by omega) with rfl | rfl | rfl
      · rw [e0, eA]; exact hZa
      · rw [e1, eA]; exact hZb
      · rw [e2, eA]; exact hZc
  have hW : g_Wd G m_X0 s.heap := ⟨by rw [eB]; rfl, by decide, fun k q hq => by simp [g_ws, m_X0] at hq⟩
  obtain ⟨f, X1, hf, hX1⟩ := hrun
  rw [lg_entry_eq]
  have hlay : (m_lay [.ref 1003]).length ≤ m_ml 198 := by decide
  have hl := g_LV_entry (G := G) (a := 198) (vs := [.ref 1003]) hlay
  have ev : [Value.ref 1003].map (g_v G) = [Value.ref b] := by
    show [Value.ref (g_ad G 1003)] = _
    rw [e3]
  rw [ev] at hl
  have hFr : g_Fr p room_1 s m #[Value.ref b] meth c G (m_VV L xs) 198 := ⟨hx, hb, hml, hr, hown, hts, fun z => absurd z (by decide), by decide, by decide, hK, hO⟩
  have hb1 : X1.1 - m_X0.1 ≤ 62 := by show X1.1 - 0 ≤ 62; omega
  have hc62 : 62 ≤ room_1.cells := by decide
  have hb2 : m_sl X1.1 - m_sl m_X0.1 ≤ room_1.slots := Nat.le_trans (Nat.sub_le _ _) (Nat.le_trans (m_sl_mono hX1) (by decide +kernel))
  refine g_sound l G (m_VV L xs) m_okall f 198 0 (m_loc 198 [.ref 1003]) [] m_X0 _ X1 hf m_oklaw p e room_1 s m #[Value.ref b] below meth c hFr s.heap [] 0 0 (lw_Z below #[Value.ref b] s) _ hW va_S.rf hl (m_loc_len hlay) ?_ ?_ (fun H1 locs1 n' e' LS1 hW1 hS1 he' hd' hend hto => ?_)
  · rw [Nat.zero_add]; exact Nat.le_trans hb1 (by decide)
  · rw [Nat.zero_add]; exact hb2
  · have hend : e'.2.1 = .ireturn := hend
    rw [hend] at hd'
    refine va_forget (fun q hq => ?_) ?_
    · have := hS1.2.2 q hq
      rw [eA] at this
      exact this
    · refine W.widen (k := room_1.cells) (n := room_1.slots) (by omega) (by omega) ?_
      exact lw_ret hx hb hr hlocks hd'
