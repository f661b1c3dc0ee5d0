/-! THE CLAIM OUT OF ONE WALK OF THE LAW'S BODY. Your part is whole_start (and what it stands on); all else here is the same for every law, but numbers. -/
def R_law : String := "RightsDeskLaw"
def lw_P (b : Addr) (xs : List Int32) (args : Array Value) (s : State) : Prop := args = #[.ref b] ∧ s.IntsAt b xs ∧ xs.length ≤ 3072 ∧ (Jvm.Cond.and given_1 narrow_1).before args s = true
def lw_Q (_ : Array Value) (s : State) (o : Outcome) (t : State) : Prop := o = .returned (some (.int 1)) ∧ Framed s o t [] 600000 7302250
def lw_Z (below : List Frame) (a : Array Value) (s : State) : State → Prop := fun t => ∃ o, t.status = .running ∧ Ended t below o ∧ lw_Q a s o t
/-- the law's own end, with 1 on the stack, nothing written that was there before, its room as the claim has it -/
theorem lw_ret {p : Program} {l : Launch} {e : Env} {s : State} {m : MethodId} {below : List Frame} {meth : Method} {c : Code} {b : Nat} (hx : p.tables.exec = Jvm.exec) (hb : c.code = code) (hr : meth.sig.returnType = ret) (hlocks : meth.locks = false) {pc : Nat} {H : Heap} {ls : Array Slot} (hdg : decode code pc = .ok (.ireturn, 1)) : W p l e room_1 s m #[Value.ref b] below meth c H [] 600000 7302250 (lw_Z below #[Value.ref b] s) (F0 m pc ls [.int 1]) := by
  intro T hT X
  obtain ⟨fs, hret, hrun, hended, hW, hframe⟩ := X.leave (v := some (.int 1)) (hlocks := hlocks) (fun h => by rw [hr] at h; cases h)
  have hmeth' : T.vm.method? m = some meth := X.method'
  refine ⟨T.setFrames fs, ?_, .returned (some (.int 1)), hrun, hended, rfl, ⟨_, rfl⟩, hW, hframe⟩
  jvm_step X.here [X.here.top, hx, hb, hdg, hmeth', hr, ret, narrow_b1]
  (try refine ⟨rfl, ?_⟩); (try refine ⟨rfl, ?_⟩)
  first | (intro acts; rw [hret _ acts rfl rfl rfl]) | rw [hret _ _ rfl rfl rfl]
  exact Steps.refl _
/-- what holds at the law's entry: the machine, the code, the tables' words (any of lw_tbl by 'hts w (by decide +kernel)'), the script of L ints xs at the cell b, what the Statement gives of the start (any of its parts by flat_of_before) -/
def lw_At (p : Program) (s : State) (m : MethodId) (meth : Method) (c : Code) (b L : Nat) (xs : Nat → Int32) : Prop :=
  p.tables.exec = Jvm.exec ∧ c.code = code ∧ meth.sig.returnType = ret ∧ c.maxLocals = 4 ∧ s.vm.findClass R_law = some m.cls ∧ (∀ w ∈ lw_tbl, w.before #[Value.ref b] s = true) ∧ va_X b L xs s s.heap ∧ b < s.heap.size ∧ meth.locks = false ∧ (Jvm.Cond.and given_1 narrow_1).before #[Value.ref b] s = true
/-! the law's own rows -/
theorem W.triv {p : Program} {l : Launch} {e : Env} {R : Room} {s : State} {m : MethodId} {args : Array Value} {below : List Frame} {meth : Method} {c : Code} {H : Heap} {locs : List Loc} {cells slots : Nat} {Q : State → Prop} {g : JFrame} (h : ∀ t, Q t) : W p l e R s m args below meth c H locs cells slots Q g := fun T _ _ => ⟨T.setTop g, Steps.refl _, h _⟩
theorem W.mono {p : Program} {l : Launch} {e : Env} {R : Room} {s : State} {m : MethodId} {args : Array Value} {below : List Frame} {meth : Method} {c : Code} {H : Heap} {locs : List Loc} {cells slots : Nat} {Q Q' : State → Prop} {g : JFrame} (h : W p l e R s m args below meth c H locs cells slots Q g) (hQ : ∀ t, Q t → Q' t) : W p l e R s m args below meth c H locs cells slots Q' g := fun T hT X => by
  obtain ⟨t, a1, b1⟩ := h T hT X
  exact ⟨t, a1, hQ t b1⟩
def zSta (t1 t2 : Nat) (A : Nat → Prop) (U : State) (H : Heap) : Prop := (va_Z "RightsDesk" "LEAST_NUMBERS" "[I" (.ref t1) A U H ∧ va_T .int t1 4 (fun j => .int (zLow j)) A U H) ∧ va_Z "RightsDesk" "MOST_NUMBERS" "[I" (.ref t2) A U H ∧ va_T .int t2 4 (fun j => .int (zHigh j)) A U H
theorem zSta.go {t1 t2 : Nat} {A B : Nat → Prop} {s U : State} {H : Heap} (h : zSta t1 t2 A s s.heap) (hq : ∀ a : Nat, a < s.heap.size → ¬ A a → H[a]? = s.heap[a]?) (hU : U.heap = H) (hvm : s.vm.Alike U.vm) (hAB : ∀ q, B q → A q) : zSta t1 t2 B U U.heap := by
  rw [hU]
  exact ⟨⟨((h.1.1.kept hq).moved hvm).narrow hAB, ((h.1.2.kept hq).moved hvm).narrow hAB⟩, ((h.2.1.kept hq).moved hvm).narrow hAB, ((h.2.2.kept hq).moved hvm).narrow hAB⟩
abbrev lwA : State → Nat → Prop := fun s q => s.heap.size ≤ q
/-- what the start of the law has besides -/
def lwE (G0 : zG) (b Ls : Nat) (xs : Nat → Int32) (args : Array Value) (s : State) : Prop := args = #[.ref b] ∧ va_X b Ls xs s s.heap ∧ b < s.heap.size ∧ zSta G0.2.2.2.2.1 G0.2.2.2.2.2 (lwA s) s s.heap
abbrev lwF (G0 : zG) (b Ls : Nat) (xs : Nat → Int32) : List Frame → Array Value → State → State → Prop := fun below args s t => lwE G0 b Ls xs args s → lw_Z below #[.ref b] s t
theorem x_callVW {p : Program} {l : Launch} {e : Env} {R : Room} {s : State} {m : MethodId} {args : Array Value} {below : List Frame} {meth : Method} {c : Code} {H : Heap} {locs : List Loc} {Q : State → Prop} {G : zG} {pc cells slots : Nat} {ls : Array Slot} {rest st0 : List Value} {a : Array Value} {A : Nat → Prop} {rv2 : Option Value} {Q2 : zM → Prop}
    (hr : va_Run p l e R s m args below meth c H locs cells slots 0 0 (F0 m pc ls st0) rest (zQ G rv2 Q2 a) (zA G)) (hL : ∀ q, zA G q → A q) (hS : va_S A s.heap H locs)
    (kk : ∀ (m' : zM) (H1 : Heap) (locs1 : List Loc), Q2 m' → va_P G.1 vwCl (va_pl (zL G) (zF G m')) H1 → va_S A s.heap H1 locs1 → W p l e R s m args below meth c H1 locs1 cells slots Q (F0 m (pc + 3) ls (rv2.toList ++ rest))) : W p l e R s m args below meth c H locs cells slots Q (F0 m pc ls st0) := by
  intro T hT X
  obtain ⟨v, st₀, t, T', Lc, h0, X', hLc, e1, e2, ⟨⟨hv, m', hq, hPw, -⟩, hz, hk⟩, st⟩ := hr T hT X
  cases hv
  rw [h0] at hz hk
  obtain ⟨t2, a1, b1⟩ := kk m' T'.heap (locs ++ Lc) hq (by rw [e1]; exact hPw)
    ⟨Nat.le_trans hS.1 (by rw [e1]; exact hz), fun q h1 h2 => by rw [e1, hk q (Nat.lt_of_lt_of_le h1 hS.1) (fun z => h2 (hL q z))]; exact hS.2.1 q h1 h2, fun q hq => by
      rcases List.mem_append.mp hq with h | h
      · exact hS.2.2 q h
      · exact hL _ (hLc q h)⟩ T' rfl X'
  exact ⟨t2, st t2 a1, b1⟩
section LW
variable {l : Launch} {G0 : zG} {τ : Nat → Nat} {Kp : Method → Prop} {b Ls : Nat} {xs : Nat → Int32} {pc : Nat} {lv : List (Option Value)} {st : List Value} {sh : Nat → Nat × Nat} {L : List Nat} {mm : zM} {cells slots : Nat}
theorem x_sld {n : Nat} {i : Int32} (hi : i = nI n) (hn : n < Ls) (hL31 : Ls < 100000) (hd : decode cL_law pc = .ok (.iaload, 1)) (kk : zX l G0 τ (yL_law, cL_law, 4, ret) room_1 Kp (lwF G0 b Ls xs) lwA (pc + 1) lv (.int (xs n) :: st) sh L mm cells slots) : zX l G0 τ (yL_law, cL_law, 4, ret) room_1 Kp (lwF G0 b Ls xs) lwA pc lv (.int i :: .ref b :: st) sh L mm cells slots := by
  intro p e s m args below meth c H locs ls hx hb hml hrt hown hlk hts hK hC hA hKp hl hN hL hP hS
  by_cases hE : lwE G0 b Ls xs args s
  · subst hi
    refine va_sld (A := lwA s) (H0 := s.heap) hx hb hE.2.1 hE.2.2.1 (Nat.not_le.mpr hE.2.2.1) hS (nI_in hn (by omega)) hd ?_
    rw [nI_clamp (by omega)]
    exact kk p e s m args below meth c H locs ls hx hb hml hrt hown hlk hts hK hC hA hKp hl hN hL hP hS
  · exact W.triv (fun t h => absurd h hE)
theorem x_slen (hd : decode cL_law pc = .ok (.arraylength, 1)) (kk : zX l G0 τ (yL_law, cL_law, 4, ret) room_1 Kp (lwF G0 b Ls xs) lwA (pc + 1) lv (.int (nI Ls) :: st) sh L mm cells slots) : zX l G0 τ (yL_law, cL_law, 4, ret) room_1 Kp (lwF G0 b Ls xs) lwA pc lv (.ref b :: st) sh L mm cells slots := by
  intro p e s m args below meth c H locs ls hx hb hml hrt hown hlk hts hK hC hA hKp hl hN hL hP hS
  by_cases hE : lwE G0 b Ls xs args s
  · exact va_slen (A := lwA s) (H0 := s.heap) hx hb hE.2.1 hE.2.2.1 (Nat.not_le.mpr hE.2.2.1) hS hd (kk p e s m args below meth c H locs ls hx hb hml hrt hown hlk hts hK hC hA hKp hl hN hL hP hS)
  · exact W.triv (fun t h => absurd h hE)
theorem x_ret1 (hc : cells ≤ 600000) (hs : slots ≤ 7302250) (hd : decode cL_law pc = .ok (.ireturn, 1)) : zX l G0 τ (yL_law, cL_law, 4, ret) room_1 Kp (lwF G0 b Ls xs) lwA pc lv [.int 1] sh L mm cells slots := by
  intro p e s m args below meth c H locs ls hx hb hml hrt hown hlk hts hK hC hA hKp hl hN hL hP hS
  by_cases hE : lwE G0 b Ls xs args s
  · obtain ⟨rfl, -⟩ := hE
    exact W.mono (va_forget hS.2.2 (W.widen hc hs (lw_ret hx hb hrt hlk hd))) (fun t h _ => h)
  · exact W.triv (fun t h => absurd h hE)
variable {y2 : MethodName} {b2 : ByteArray} {n2 d2 np ix : Nat} {r2 : Option FieldType} {rv2 : Option Value} {Q2 : zM → Prop}
theorem x_callV {As : List Value} {a ci N : Nat} {C : String} {T : u_T} (hy : zMV y2 b2 n2 r2 np) (hs : zSem l (gx G0 sh L) (y2, b2, n2, r2) d2 (.ref a :: As) mm rv2 Q2) (hlink : Cond.methodLink RL ix y2 ∈ zU) (hc : vwCl[ci]? = some (C, T, N)) (hC2 : C = y2.cls) (hci : ci < 8) (ha : a ∈ L) (hsh : sh a = (ci, N)) (hd2 : d2 ≤ 10) (hnp : As.length = np) (hW : (st.map fun v => v.category).sum ≤ 8) (hd : decode cL_law pc = .ok (.invokevirtual ix, 3))
    (hfc : cells ≤ 600000) (hfs : slots ≤ 7302250) (kk : ∀ m', Q2 m' → zX l G0 τ (yL_law, cL_law, 4, ret) room_1 Kp (lwF G0 b Ls xs) lwA (pc + 3) lv (rv2.toList ++ st) sh L m' cells slots) : zX l G0 τ (yL_law, cL_law, 4, ret) room_1 Kp (lwF G0 b Ls xs) lwA pc lv (As.reverse ++ .ref a :: st) sh L mm cells slots := by
  intro p e s m args below meth c H locs ls hx hb hml hrt hown hlk hts hK hC hA hKp hl hN hL hP hS
  by_cases hE : lwE G0 b Ls xs args s
  · obtain ⟨h1, h2, h3, h4, h5, h6, h7, h8⟩ := hy
    obtain ⟨q0, he⟩ := z_pl (G := gx G0 sh L) (mm := mm) ha
    rw [zF_obj (G := gx G0 sh L) hsh hci] at he
    have cw : CallW room_1 s args RL y2.cls ix y2 b2 n2 r2 (Cond.code y2 b2 n2 r2 :: zU) (zR d2) 0 0 np := ⟨callB_of np hts (z_good.mpr h2) rfl rfl rfl (hts _ h5) (hts _ hlink) ⟨h6.1, h6.2, h7⟩ ⟨by show d2 + 1 ≤ 12; omega, by show 8 + (n2 + 11) + 40 * d2 ≤ 448; omega⟩, hts _ h3, hts _ h4⟩
    have hrc := va_recv hK hP hc he
    rw [show (C, T, N).1 = y2.cls from hC2] at hrc
    exact x_callVW (G := gx G0 sh L) (va_runV (As := As) (rest := st) (nL := 4) ⟨hx, hb, hml, hown, hts⟩ hs cw ⟨z_blind, hrc, fun U hU hW => ⟨rfl, by rw [hU]; exact hP, va_K.moved hW.alike hK, hE.2.2.2.go hS.2.1 hU hW.alike hL, hN, hC.1.warm hW⟩⟩ rfl hnp hl.1 rfl (lv_room hW) hd ⟨hfc, hfs⟩) hL hS
      (fun m' H1 locs1 hq hP1 hS1 => kk m' hq p e s m args below meth c H1 locs1 ls hx hb hml hrt hown hlk hts hK hC hA hKp hl hN hL hP1 hS1)
  · exact W.triv (fun t h => absurd h hE)
theorem x_V0 {a ci N : Nat} {C : String} {T : u_T} {F : Int32} (hy : zMV y2 b2 n2 r2 0) (hs : zSem l (gx G0 sh L) (y2, b2, n2, r2) d2 [.ref a] mm (some (.int F)) Q2) (hlink : Cond.methodLink RL ix y2 ∈ zU) (hc : vwCl[ci]? = some (C, T, N)) (hC2 : C = y2.cls) (hci : ci < 8) (ha : a ∈ L) (hsh : sh a = (ci, N)) (hd2 : d2 ≤ 10) (hW : (st.map fun v => v.category).sum ≤ 8) (hd : decode cL_law pc = .ok (.invokevirtual ix, 3))
    (hfc : cells ≤ 600000) (hfs : slots ≤ 7302250) (kk : ∀ m', Q2 m' → zX l G0 τ (yL_law, cL_law, 4, ret) room_1 Kp (lwF G0 b Ls xs) lwA (pc + 3) lv (.int F :: st) sh L m' cells slots) : zX l G0 τ (yL_law, cL_law, 4, ret) room_1 Kp (lwF G0 b Ls xs) lwA pc lv (.ref a :: st) sh L mm cells slots :=
  x_callV (As := []) hy hs hlink hc hC2 hci ha hsh hd2 rfl hW hd hfc hfs kk
theorem x_V1 {v1 : Value} {a ci N : Nat} {C : String} {T : u_T} {F : Int32} (hy : zMV y2 b2 n2 r2 1) (hs : zSem l (gx G0 sh L) (y2, b2, n2, r2) d2 [.ref a, v1] mm (some (.int F)) Q2) (hlink : Cond.methodLink RL ix y2 ∈ zU) (hc : vwCl[ci]? = some (C, T, N)) (hC2 : C = y2.cls) (hci : ci < 8) (ha : a ∈ L) (hsh : sh a = (ci, N)) (hd2 : d2 ≤ 10) (hW : (st.map fun v => v.category).sum ≤ 8) (hd : decode cL_law pc = .ok (.invokevirtual ix, 3))
    (hfc : cells ≤ 600000) (hfs : slots ≤ 7302250) (kk : ∀ m', Q2 m' → zX l G0 τ (yL_law, cL_law, 4, ret) room_1 Kp (lwF G0 b Ls xs) lwA (pc + 3) lv (.int F :: st) sh L m' cells slots) : zX l G0 τ (yL_law, cL_law, 4, ret) room_1 Kp (lwF G0 b Ls xs) lwA pc lv (v1 :: .ref a :: st) sh L mm cells slots :=
  x_callV (As := [v1]) hy hs hlink hc hC2 hci ha hsh hd2 rfl hW hd hfc hfs kk
theorem x_V2 {v1 v2 : Value} {a ci N : Nat} {C : String} {T : u_T} {F : Int32} (hy : zMV y2 b2 n2 r2 2) (hs : zSem l (gx G0 sh L) (y2, b2, n2, r2) d2 [.ref a, v1, v2] mm (some (.int F)) Q2) (hlink : Cond.methodLink RL ix y2 ∈ zU) (hc : vwCl[ci]? = some (C, T, N)) (hC2 : C = y2.cls) (hci : ci < 8) (ha : a ∈ L) (hsh : sh a = (ci, N)) (hd2 : d2 ≤ 10) (hW : (st.map fun v => v.category).sum ≤ 8) (hd : decode cL_law pc = .ok (.invokevirtual ix, 3))
    (hfc : cells ≤ 600000) (hfs : slots ≤ 7302250) (kk : ∀ m', Q2 m' → zX l G0 τ (yL_law, cL_law, 4, ret) room_1 Kp (lwF G0 b Ls xs) lwA (pc + 3) lv (.int F :: st) sh L m' cells slots) : zX l G0 τ (yL_law, cL_law, 4, ret) room_1 Kp (lwF G0 b Ls xs) lwA pc lv (v2 :: v1 :: .ref a :: st) sh L mm cells slots :=
  x_callV (As := [v1, v2]) hy hs hlink hc hC2 hci ha hsh hd2 rfl hW hd hfc hfs kk
theorem x_V3 {v1 v2 v3 : Value} {a ci N : Nat} {C : String} {T : u_T} {F : Int32} (hy : zMV y2 b2 n2 r2 3) (hs : zSem l (gx G0 sh L) (y2, b2, n2, r2) d2 [.ref a, v1, v2, v3] mm (some (.int F)) Q2) (hlink : Cond.methodLink RL ix y2 ∈ zU) (hc : vwCl[ci]? = some (C, T, N)) (hC2 : C = y2.cls) (hci : ci < 8) (ha : a ∈ L) (hsh : sh a = (ci, N)) (hd2 : d2 ≤ 10) (hW : (st.map fun v => v.category).sum ≤ 8) (hd : decode cL_law pc = .ok (.invokevirtual ix, 3))
    (hfc : cells ≤ 600000) (hfs : slots ≤ 7302250) (kk : ∀ m', Q2 m' → zX l G0 τ (yL_law, cL_law, 4, ret) room_1 Kp (lwF G0 b Ls xs) lwA (pc + 3) lv (.int F :: st) sh L m' cells slots) : zX l G0 τ (yL_law, cL_law, 4, ret) room_1 Kp (lwF G0 b Ls xs) lwA pc lv (v3 :: v2 :: v1 :: .ref a :: st) sh L mm cells slots :=
  x_callV (As := [v1, v2, v3]) hy hs hlink hc hC2 hci ha hsh hd2 rfl hW hd hfc hfs kk
theorem x_V4 {v1 v2 v3 v4 : Value} {a ci N : Nat} {C : String} {T : u_T} {F : Int32} (hy : zMV y2 b2 n2 r2 4) (hs : zSem l (gx G0 sh L) (y2, b2, n2, r2) d2 [.ref a, v1, v2, v3, v4] mm (some (.int F)) Q2) (hlink : Cond.methodLink RL ix y2 ∈ zU) (hc : vwCl[ci]? = some (C, T, N)) (hC2 : C = y2.cls) (hci : ci < 8) (ha : a ∈ L) (hsh : sh a = (ci, N)) (hd2 : d2 ≤ 10) (hW : (st.map fun v => v.category).sum ≤ 8) (hd : decode cL_law pc = .ok (.invokevirtual ix, 3))
    (hfc : cells ≤ 600000) (hfs : slots ≤ 7302250) (kk : ∀ m', Q2 m' → zX l G0 τ (yL_law, cL_law, 4, ret) room_1 Kp (lwF G0 b Ls xs) lwA (pc + 3) lv (.int F :: st) sh L m' cells slots) : zX l G0 τ (yL_law, cL_law, 4, ret) room_1 Kp (lwF G0 b Ls xs) lwA pc lv (v4 :: v3 :: v2 :: v1 :: .ref a :: st) sh L mm cells slots :=
  x_callV (As := [v1, v2, v3, v4]) hy hs hlink hc hC2 hci ha hsh hd2 rfl hW hd hfc hfs kk
theorem x_V5 {v1 v2 v3 v4 v5 : Value} {a ci N : Nat} {C : String} {T : u_T} {F : Int32} (hy : zMV y2 b2 n2 r2 5) (hs : zSem l (gx G0 sh L) (y2, b2, n2, r2) d2 [.ref a, v1, v2, v3, v4, v5] mm (some (.int F)) Q2) (hlink : Cond.methodLink RL ix y2 ∈ zU) (hc : vwCl[ci]? = some (C, T, N)) (hC2 : C = y2.cls) (hci : ci < 8) (ha : a ∈ L) (hsh : sh a = (ci, N)) (hd2 : d2 ≤ 10) (hW : (st.map fun v => v.category).sum ≤ 8) (hd : decode cL_law pc = .ok (.invokevirtual ix, 3))
    (hfc : cells ≤ 600000) (hfs : slots ≤ 7302250) (kk : ∀ m', Q2 m' → zX l G0 τ (yL_law, cL_law, 4, ret) room_1 Kp (lwF G0 b Ls xs) lwA (pc + 3) lv (.int F :: st) sh L m' cells slots) : zX l G0 τ (yL_law, cL_law, 4, ret) room_1 Kp (lwF G0 b Ls xs) lwA pc lv (v5 :: v4 :: v3 :: v2 :: v1 :: .ref a :: st) sh L mm cells slots :=
  x_callV (As := [v1, v2, v3, v4, v5]) hy hs hlink hc hC2 hci ha hsh hd2 rfl hW hd hfc hfs kk
end LW
