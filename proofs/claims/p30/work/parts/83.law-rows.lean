/-! THE CLAIM OUT OF ONE WALK OF THE LAW'S BODY. Your part is whole_start (and what it stands on); all else here is the same for every law, but numbers. -/
def R_law : String := "RightsDeskLaw"
def lw_P (b : Addr) (xs : List Int32) (args : Array Value) (s : State) : Prop := args = #[.ref b] ∧ s.IntsAt b xs ∧ xs.length ≤ 260 ∧ (Jvm.Cond.and given_1 narrow_1).before args s = true
def lw_Q (_ : Array Value) (s : State) (o : Outcome) (t : State) : Prop := o = .returned (some (.int 1)) ∧ Framed s o t [] 600000 7302250
def lw_Z (below : List Frame) (a : Array Value) (s : State) : State → Prop := fun t => ∃ o, t.status = .running ∧ Ended t below o ∧ lw_Q a s o t
/-- the law's own end, with 1 on the stack, nothing written that was there before, its room as the claim has it -/
theorem lw_ret {p : Program} {l : Launch} {e : Env} {s : State} {m : MethodId} {below : List Frame} {meth : Method} {c : Code} {b : Nat} (hx : p.tables.exec = Jvm.exec) (hb : c.code = code) (hr : meth.sig.returnType = ret) (hlocks : meth.locks = false) {pc : Nat} {H : Heap} {ls : Array Slot} (hdg : decode code pc = .ok (.ireturn, 1)) : W p l e room_1 s m #[Value.ref b] below meth c H [] 600000 7302250 (lw_Z below #[Value.ref b] s) (F0 m pc ls [.int 1]) := by
  intro T hT X
  obtain ⟨fs, hret, hrun, hended, hW, hframe⟩ := X.leave (v := some (.int 1)) (hlocks := hlocks) (fun h => by rw [hr] at h; cases h)
  have hmeth' : T.vm.method? m = some meth := X.method'
  refine ⟨T.setFrames fs, ?_, .returned (some (.int 1)), hrun, hended, rfl, ⟨_, rfl⟩, hW, hframe⟩
  jvm_step X.here [X.here.top, hx, hb, hdg, hmeth', hr, ret, narrow_b1]
  (try refine ⟨rfl, ?_⟩); (try refine ⟨rfl, ?_⟩)
  first | (intro acts; rw [hret _ acts rfl rfl rfl]) | rw [hret _ _ rfl rfl rfl]
  exact Steps.refl _
/-- what holds at the law's entry: the machine, the code, the tables' words (any of lw_tbl by 'hts w (by decide +kernel)'), the script of L ints xs at the cell b, what the Statement gives of the start (any of its parts by flat_of_before) -/
def lw_At (p : Program) (s : State) (m : MethodId) (meth : Method) (c : Code) (b L : Nat) (xs : Nat → Int32) : Prop :=
  p.tables.exec = Jvm.exec ∧ c.code = code ∧ meth.sig.returnType = ret ∧ c.maxLocals = 6 ∧ s.vm.findClass R_law = some m.cls ∧ (∀ w ∈ lw_tbl, w.before #[Value.ref b] s = true) ∧ va_X b L xs s s.heap ∧ b < s.heap.size ∧ meth.locks = false ∧ (Jvm.Cond.and given_1 narrow_1).before #[Value.ref b] s = true
theorem W.triv {p : Program} {l : Launch} {e : Env} {R : Room} {s : State} {m : MethodId} {args : Array Value} {below : List Frame} {meth : Method} {c : Code} {H : Heap} {locs : List Loc} {cells slots : Nat} {Q : State → Prop} {g : JFrame} (h : ∀ t, Q t) : W p l e R s m args below meth c H locs cells slots Q g := fun T _ _ => ⟨T.setTop g, Steps.refl _, h _⟩
theorem W.mono {p : Program} {l : Launch} {e : Env} {R : Room} {s : State} {m : MethodId} {args : Array Value} {below : List Frame} {meth : Method} {c : Code} {H : Heap} {locs : List Loc} {cells slots : Nat} {Q Q' : State → Prop} {g : JFrame} (h : W p l e R s m args below meth c H locs cells slots Q g) (hQ : ∀ t, Q t → Q' t) : W p l e R s m args below meth c H locs cells slots Q' g := fun T hT X => by
  obtain ⟨t, a1, b1⟩ := h T hT X
  exact ⟨t, a1, hQ t b1⟩
def zSta (t1 t2 : Nat) (A : Nat → Prop) (U : State) (H : Heap) : Prop := (va_Z "RightsDesk" "LEAST_NUMBERS" "[I" (.ref t1) A U H ∧ va_T .int t1 4 (fun j => .int (zLow j)) A U H) ∧ va_Z "RightsDesk" "MOST_NUMBERS" "[I" (.ref t2) A U H ∧ va_T .int t2 4 (fun j => .int (zHigh j)) A U H
theorem zSta.go {t1 t2 : Nat} {A B : Nat → Prop} {s U : State} {H : Heap} (h : zSta t1 t2 A s s.heap) (hq : ∀ a : Nat, a < s.heap.size → ¬ A a → H[a]? = s.heap[a]?) (hU : U.heap = H) (hvm : s.vm.Alike U.vm) (hAB : ∀ q, B q → A q) : zSta t1 t2 B U U.heap := by
  rw [hU]
  exact ⟨⟨((h.1.1.kept hq).moved hvm).narrow hAB, ((h.1.2.kept hq).moved hvm).narrow hAB⟩, ((h.2.1.kept hq).moved hvm).narrow hAB, ((h.2.2.kept hq).moved hvm).narrow hAB⟩
abbrev lwA : State → Nat → Prop := fun s q => s.heap.size ≤ q
/-- what the start of the law has besides -/
def lwE (G0 : zG) (b Ls : Nat) (xs : Nat → Int32) (args : Array Value) (s : State) : Prop := args = #[.ref b] ∧ va_X b Ls xs s s.heap ∧ b < s.heap.size ∧ zSta G0.2.2.2.2.1 G0.2.2.2.2.2 (lwA s) s s.heap
abbrev lwF (G0 : zG) (b Ls : Nat) (xs : Nat → Int32) : List Frame → Array Value → State → State → Prop := fun below args s t => lwE G0 b Ls xs args s → lw_Z below #[.ref b] s t
theorem x_callVW {p : Program} {l : Launch} {e : Env} {R : Room} {s : State} {m : MethodId} {args : Array Value} {below : List Frame} {meth : Method} {c : Code} {H : Heap} {locs : List Loc} {Q : State → Prop} {G : zG} {pc cells slots : Nat} {ls : Array Slot} {rest st0 : List Value} {a : Array Value} {A : Nat → Prop} {rv2 : Option Value} {Q2 : zM → Prop}
    (hr : va_Run p l e R s m args below meth c H locs cells slots 0 0 (F0 m pc ls st0) rest (zQ G rv2 Q2 a) (zA G)) (hL : ∀ q, zA G q → A q) (hS : va_S A s.heap H locs)
    (kk : ∀ (m' : zM) (H1 : Heap) (locs1 : List Loc), Q2 m' → va_P G.1 vwCl (va_pl (zL G) (zF G m')) H1 → va_S A s.heap H1 locs1 → W p l e R s m args below meth c H1 locs1 cells slots Q (F0 m (pc + 3) ls (rv2.toList ++ rest))) : W p l e R s m args below meth c H locs cells slots Q (F0 m pc ls st0) := by
  intro T hT X
  obtain ⟨v, st₀, t, T', Lc, h0, X', hLc, e1, e2, ⟨⟨hv, m', hq, hPw, -⟩, hz, hk⟩, st⟩ := hr T hT X
  cases hv
  rw [h0] at hz hk
  obtain ⟨t2, a1, b1⟩ := kk m' T'.heap (locs ++ Lc) hq (by rw [e1]; exact hPw)
    ⟨Nat.le_trans hS.1 (by rw [e1]; exact hz), fun q h1 h2 => by rw [e1, hk q (Nat.lt_of_lt_of_le h1 hS.1) (fun z => h2 (hL q z))]; exact hS.2.1 q h1 h2, fun q hq => by
      rcases List.mem_append.mp hq with h | h
      · exact hS.2.2 q h
      · exact hL _ (hLc q h)⟩ T' rfl X'
  exact ⟨t2, st t2 a1, b1⟩
section ZXR
variable {l : Launch} {G0 : zG} {τ : Nat → Nat} {y : MethodName} {cc : ByteArray} {nL : Nat} {ret : Option FieldType} {R : Room} {Kp : Method → Prop} {F : List Frame → Array Value → State → State → Prop} {A : State → Nat → Prop} {pc : Nat} {lv : List (Option Value)} {st : List Value} {sh : Nat → Nat × Nat} {L : List Nat} {mm : zM} {cells slots : Nat}
theorem x_if_eq {a : Int32} {off : Int} (tgt : Nat) (hd : decode cc pc = .ok (.ifCond .eq off, 3)) (ht : (pc : Int) + off = (tgt : Int)) (kt : a = 0 → zX l G0 τ (y, cc, nL, ret) R Kp F A tgt lv st sh L mm cells slots) (kf : ¬ a = 0 → zX l G0 τ (y, cc, nL, ret) R Kp F A (pc + 3) lv st sh L mm cells slots) : zX l G0 τ (y, cc, nL, ret) R Kp F A pc lv (.int a :: st) sh L mm cells slots := by
  intro p e s m args below meth c H locs ls hx hb hml hrt hown hlk hts hK hC hA hKp hl hN hL hP hS
  exact lv_if_eq hx hb hd ht (fun h => kt h p e s m args below meth c H locs ls hx hb hml hrt hown hlk hts hK hC hA hKp hl hN hL hP hS) (fun h => kf h p e s m args below meth c H locs ls hx hb hml hrt hown hlk hts hK hC hA hKp hl hN hL hP hS)
theorem x_if_lt {a : Int32} {off : Int} (tgt : Nat) (hd : decode cc pc = .ok (.ifCond .lt off, 3)) (ht : (pc : Int) + off = (tgt : Int)) (kt : a < 0 → zX l G0 τ (y, cc, nL, ret) R Kp F A tgt lv st sh L mm cells slots) (kf : ¬ a < 0 → zX l G0 τ (y, cc, nL, ret) R Kp F A (pc + 3) lv st sh L mm cells slots) : zX l G0 τ (y, cc, nL, ret) R Kp F A pc lv (.int a :: st) sh L mm cells slots := by
  intro p e s m args below meth c H locs ls hx hb hml hrt hown hlk hts hK hC hA hKp hl hN hL hP hS
  exact lv_if_lt hx hb hd ht (fun h => kt h p e s m args below meth c H locs ls hx hb hml hrt hown hlk hts hK hC hA hKp hl hN hL hP hS) (fun h => kf h p e s m args below meth c H locs ls hx hb hml hrt hown hlk hts hK hC hA hKp hl hN hL hP hS)
theorem x_irem {a b : Int32} (hd : decode cc pc = .ok (.irem, 1)) (hb0 : ¬ b = 0) (k : zX l G0 τ (y, cc, nL, ret) R Kp F A (pc + 1) lv (.int (a - a / b * b) :: st) sh L mm cells slots) : zX l G0 τ (y, cc, nL, ret) R Kp F A pc lv (.int b :: .int a :: st) sh L mm cells slots := by
  intro p e s m args below meth c H locs ls hx hb hml hrt hown hlk hts hK hC hA hKp hl hN hL hP hS
  exact lv_irem hx hb hd hb0 (k p e s m args below meth c H locs ls hx hb hml hrt hown hlk hts hK hC hA hKp hl hN hL hP hS)
theorem x_ishr {a b : Int32} (hd : decode cc pc = .ok (.ishr, 1)) (k : zX l G0 τ (y, cc, nL, ret) R Kp F A (pc + 1) lv (.int (a >>> (b &&& 31)) :: st) sh L mm cells slots) : zX l G0 τ (y, cc, nL, ret) R Kp F A pc lv (.int b :: .int a :: st) sh L mm cells slots := by
  intro p e s m args below meth c H locs ls hx hb hml hrt hown hlk hts hK hC hA hKp hl hN hL hP hS
  exact lv_ishr hx hb hd (k p e s m args below meth c H locs ls hx hb hml hrt hown hlk hts hK hC hA hKp hl hN hL hP hS)
theorem x_iremN {a b : Nat} (hd : decode cc pc = .ok (.irem, 1)) (ha : a < 2 ^ 31) (hb0 : 0 < b) (hb : b < 2 ^ 31) (k : zX l G0 τ (y, cc, nL, ret) R Kp F A (pc + 1) lv (.int (nI (a % b)) :: st) sh L mm cells slots) : zX l G0 τ (y, cc, nL, ret) R Kp F A pc lv (.int (nI b) :: .int (nI a) :: st) sh L mm cells slots :=
  x_irem hd (nI_ne0 hb0 hb) (by rw [pk_rem ha hb0 hb]; exact k)
theorem x_ishrN {a b : Nat} (n : Nat) (hn : n = 2 ^ b) (hd : decode cc pc = .ok (.ishr, 1)) (ha : a < 2 ^ 31) (hs : ((nI b &&& 31).toBitVec.smod 32).toNat = b) (k : zX l G0 τ (y, cc, nL, ret) R Kp F A (pc + 1) lv (.int (nI (a / n)) :: st) sh L mm cells slots) : zX l G0 τ (y, cc, nL, ret) R Kp F A pc lv (.int (nI b) :: .int (nI a) :: st) sh L mm cells slots :=
  x_ishr hd (by rw [pk_shrN ha (nI b &&& 31) b hs, ← hn]; exact k)
theorem x_iaddN {a b : Nat} (hd : decode cc pc = .ok (.iadd, 1)) (k : zX l G0 τ (y, cc, nL, ret) R Kp F A (pc + 1) lv (.int (nI (a + b)) :: st) sh L mm cells slots) : zX l G0 τ (y, cc, nL, ret) R Kp F A pc lv (.int (nI b) :: .int (nI a) :: st) sh L mm cells slots := x_iadd hd (by rw [nI_add]; exact k)
theorem x_iincN {a n : Nat} (i : Nat) {lv' : List (Option Value)} (hi : lv[i]? = some (some (.int (nI a)))) (he : lv.set i (some (.int (nI (a + n)))) = lv') (hd : decode cc pc = .ok (.iinc i (n : Int), 3)) (k : zX l G0 τ (y, cc, nL, ret) R Kp F A (pc + 3) lv' st sh L mm cells slots) : zX l G0 τ (y, cc, nL, ret) R Kp F A pc lv st sh L mm cells slots :=
  x_iinc i hi (by rw [show Int32.ofInt (n : Int) = nI n from rfl, nI_add]) he hd k
end ZXR
section LW
variable {l : Launch} {G0 : zG} {τ : Nat → Nat} {Kp : Method → Prop} {b Ls : Nat} {xs : Nat → Int32} {pc : Nat} {lv : List (Option Value)} {st : List Value} {sh : Nat → Nat × Nat} {L : List Nat} {mm : zM} {cells slots : Nat}
theorem x_ret1 (hc : cells ≤ 600000) (hs : slots ≤ 7302250) (hd : decode cL_law pc = .ok (.ireturn, 1)) : zX l G0 τ (yL_law, cL_law, 6, ret) room_1 Kp (lwF G0 b Ls xs) lwA pc lv [.int (nI 1)] sh L mm cells slots := by
  intro p e s m args below meth c H locs ls hx hb hml hrt hown hlk hts hK hC hA hKp hl hN hL hP hS
  by_cases hE : lwE G0 b Ls xs args s
  · obtain ⟨rfl, -⟩ := hE
    exact W.mono (va_forget hS.2.2 (W.widen hc hs (lw_ret hx hb hrt hlk hd))) (fun t h _ => h)
  · exact W.triv (fun t h => absurd h hE)
variable {y2 : MethodName} {b2 : ByteArray} {n2 d2 np ix : Nat} {r2 : Option FieldType} {rv2 : Option Value} {Q2 : zM → Prop}
theorem x_callV {As : List Value} {a ci N : Nat} {C : String} {T : u_T} (hy : zMV y2 b2 n2 r2 np) (hs : zSem l (gx G0 sh L) (y2, b2, n2, r2) d2 (.ref a :: As) mm rv2 Q2) (hlink : Cond.methodLink RL ix y2 ∈ zU) (hc : vwCl[ci]? = some (C, T, N)) (hC2 : C = y2.cls) (hci : ci < 8) (ha : a ∈ L) (hsh : sh a = (ci, N)) (hd2 : d2 ≤ 9) (hnp : As.length = np) (hW : (st.map fun v => v.category).sum ≤ 8) (hd : decode cL_law pc = .ok (.invokevirtual ix, 3))
    (hfc : cells ≤ 600000) (hfs : slots ≤ 7302250) (kk : ∀ m', Q2 m' → zX l G0 τ (yL_law, cL_law, 6, ret) room_1 Kp (lwF G0 b Ls xs) lwA (pc + 3) lv (rv2.toList ++ st) sh L m' cells slots) : zX l G0 τ (yL_law, cL_law, 6, ret) room_1 Kp (lwF G0 b Ls xs) lwA pc lv (As.reverse ++ .ref a :: st) sh L mm cells slots := by
  intro p e s m args below meth c H locs ls hx hb hml hrt hown hlk hts hK hC hA hKp hl hN hL hP hS
  by_cases hE : lwE G0 b Ls xs args s
  · obtain ⟨h1, h2, h3, h4, h5, h6, h7, h8⟩ := hy
    obtain ⟨q0, he⟩ := z_pl (G := gx G0 sh L) (mm := mm) ha
    rw [zF_obj (G := gx G0 sh L) hsh hci] at he
    have cw : CallW room_1 s args RL y2.cls ix y2 b2 n2 r2 (Cond.code y2 b2 n2 r2 :: zU) (zR d2) 0 0 np := ⟨callB_of np hts (z_good.mpr h2) rfl rfl rfl (hts _ h5) (hts _ hlink) ⟨h6.1, h6.2, h7⟩ ⟨by show d2 + 1 ≤ 10; omega, by show 8 + (n2 + 11) + 40 * d2 ≤ 416; omega⟩, hts _ h3, hts _ h4⟩
    have hrc := va_recv hK hP hc he
    rw [show (C, T, N).1 = y2.cls from hC2] at hrc
    exact x_callVW (G := gx G0 sh L) (va_runV (As := As) (rest := st) (nL := 6) ⟨hx, hb, hml, hown, hts⟩ hs cw ⟨z_blind, hrc, fun U hU hW => ⟨rfl, by rw [hU]; exact hP, va_K.moved hW.alike hK, hE.2.2.2.go hS.2.1 hU hW.alike hL, hN, hC.1.warm hW⟩⟩ rfl hnp hl.1 rfl (lv_room hW) hd ⟨hfc, hfs⟩) hL hS
      (fun m' H1 locs1 hq hP1 hS1 => kk m' hq p e s m args below meth c H1 locs1 ls hx hb hml hrt hown hlk hts hK hC hA hKp hl hN hL hP1 hS1)
  · exact W.triv (fun t h => absurd h hE)
theorem x_V0 {a ci N : Nat} {C : String} {T : u_T} {F : Int32} (hy : zMV y2 b2 n2 r2 0) (hs : zSem l (gx G0 sh L) (y2, b2, n2, r2) d2 [.ref a] mm (some (.int F)) Q2) (hlink : Cond.methodLink RL ix y2 ∈ zU) (hc : vwCl[ci]? = some (C, T, N)) (hC2 : C = y2.cls) (hci : ci < 8) (ha : a ∈ L) (hsh : sh a = (ci, N)) (hd2 : d2 ≤ 9) (hW : (st.map fun v => v.category).sum ≤ 8) (hd : decode cL_law pc = .ok (.invokevirtual ix, 3))
    (hfc : cells ≤ 600000) (hfs : slots ≤ 7302250) (kk : ∀ m', Q2 m' → zX l G0 τ (yL_law, cL_law, 6, ret) room_1 Kp (lwF G0 b Ls xs) lwA (pc + 3) lv (.int F :: st) sh L m' cells slots) : zX l G0 τ (yL_law, cL_law, 6, ret) room_1 Kp (lwF G0 b Ls xs) lwA pc lv (.ref a :: st) sh L mm cells slots :=
  x_callV (As := []) hy hs hlink hc hC2 hci ha hsh hd2 rfl hW hd hfc hfs kk
theorem x_V1 {v1 : Value} {a ci N : Nat} {C : String} {T : u_T} {F : Int32} (hy : zMV y2 b2 n2 r2 1) (hs : zSem l (gx G0 sh L) (y2, b2, n2, r2) d2 [.ref a, v1] mm (some (.int F)) Q2) (hlink : Cond.methodLink RL ix y2 ∈ zU) (hc : vwCl[ci]? = some (C, T, N)) (hC2 : C = y2.cls) (hci : ci < 8) (ha : a ∈ L) (hsh : sh a = (ci, N)) (hd2 : d2 ≤ 9) (hW : (st.map fun v => v.category).sum ≤ 8) (hd : decode cL_law pc = .ok (.invokevirtual ix, 3))
    (hfc : cells ≤ 600000) (hfs : slots ≤ 7302250) (kk : ∀ m', Q2 m' → zX l G0 τ (yL_law, cL_law, 6, ret) room_1 Kp (lwF G0 b Ls xs) lwA (pc + 3) lv (.int F :: st) sh L m' cells slots) : zX l G0 τ (yL_law, cL_law, 6, ret) room_1 Kp (lwF G0 b Ls xs) lwA pc lv (v1 :: .ref a :: st) sh L mm cells slots :=
  x_callV (As := [v1]) hy hs hlink hc hC2 hci ha hsh hd2 rfl hW hd hfc hfs kk
theorem x_V2 {v1 v2 : Value} {a ci N : Nat} {C : String} {T : u_T} {F : Int32} (hy : zMV y2 b2 n2 r2 2) (hs : zSem l (gx G0 sh L) (y2, b2, n2, r2) d2 [.ref a, v1, v2] mm (some (.int F)) Q2) (hlink : Cond.methodLink RL ix y2 ∈ zU) (hc : vwCl[ci]? = some (C, T, N)) (hC2 : C = y2.cls) (hci : ci < 8) (ha : a ∈ L) (hsh : sh a = (ci, N)) (hd2 : d2 ≤ 9) (hW : (st.map fun v => v.category).sum ≤ 8) (hd : decode cL_law pc = .ok (.invokevirtual ix, 3))
    (hfc : cells ≤ 600000) (hfs : slots ≤ 7302250) (kk : ∀ m', Q2 m' → zX l G0 τ (yL_law, cL_law, 6, ret) room_1 Kp (lwF G0 b Ls xs) lwA (pc + 3) lv (.int F :: st) sh L m' cells slots) : zX l G0 τ (yL_law, cL_law, 6, ret) room_1 Kp (lwF G0 b Ls xs) lwA pc lv (v2 :: v1 :: .ref a :: st) sh L mm cells slots :=
  x_callV (As := [v1, v2]) hy hs hlink hc hC2 hci ha hsh hd2 rfl hW hd hfc hfs kk
theorem x_V3 {v1 v2 v3 : Value} {a ci N : Nat} {C : String} {T : u_T} {F : Int32} (hy : zMV y2 b2 n2 r2 3) (hs : zSem l (gx G0 sh L) (y2, b2, n2, r2) d2 [.ref a, v1, v2, v3] mm (some (.int F)) Q2) (hlink : Cond.methodLink RL ix y2 ∈ zU) (hc : vwCl[ci]? = some (C, T, N)) (hC2 : C = y2.cls) (hci : ci < 8) (ha : a ∈ L) (hsh : sh a = (ci, N)) (hd2 : d2 ≤ 9) (hW : (st.map fun v => v.category).sum ≤ 8) (hd : decode cL_law pc = .ok (.invokevirtual ix, 3))
    (hfc : cells ≤ 600000) (hfs : slots ≤ 7302250) (kk : ∀ m', Q2 m' → zX l G0 τ (yL_law, cL_law, 6, ret) room_1 Kp (lwF G0 b Ls xs) lwA (pc + 3) lv (.int F :: st) sh L m' cells slots) : zX l G0 τ (yL_law, cL_law, 6, ret) room_1 Kp (lwF G0 b Ls xs) lwA pc lv (v3 :: v2 :: v1 :: .ref a :: st) sh L mm cells slots :=
  x_callV (As := [v1, v2, v3]) hy hs hlink hc hC2 hci ha hsh hd2 rfl hW hd hfc hfs kk
theorem x_V4 {v1 v2 v3 v4 : Value} {a ci N : Nat} {C : String} {T : u_T} {F : Int32} (hy : zMV y2 b2 n2 r2 4) (hs : zSem l (gx G0 sh L) (y2, b2, n2, r2) d2 [.ref a, v1, v2, v3, v4] mm (some (.int F)) Q2) (hlink : Cond.methodLink RL ix y2 ∈ zU) (hc : vwCl[ci]? = some (C, T, N)) (hC2 : C = y2.cls) (hci : ci < 8) (ha : a ∈ L) (hsh : sh a = (ci, N)) (hd2 : d2 ≤ 9) (hW : (st.map fun v => v.category).sum ≤ 8) (hd : decode cL_law pc = .ok (.invokevirtual ix, 3))
    (hfc : cells ≤ 600000) (hfs : slots ≤ 7302250) (kk : ∀ m', Q2 m' → zX l G0 τ (yL_law, cL_law, 6, ret) room_1 Kp (lwF G0 b Ls xs) lwA (pc + 3) lv (.int F :: st) sh L m' cells slots) : zX l G0 τ (yL_law, cL_law, 6, ret) room_1 Kp (lwF G0 b Ls xs) lwA pc lv (v4 :: v3 :: v2 :: v1 :: .ref a :: st) sh L mm cells slots :=
  x_callV (As := [v1, v2, v3, v4]) hy hs hlink hc hC2 hci ha hsh hd2 rfl hW hd hfc hfs kk
theorem x_V5 {v1 v2 v3 v4 v5 : Value} {a ci N : Nat} {C : String} {T : u_T} {F : Int32} (hy : zMV y2 b2 n2 r2 5) (hs : zSem l (gx G0 sh L) (y2, b2, n2, r2) d2 [.ref a, v1, v2, v3, v4, v5] mm (some (.int F)) Q2) (hlink : Cond.methodLink RL ix y2 ∈ zU) (hc : vwCl[ci]? = some (C, T, N)) (hC2 : C = y2.cls) (hci : ci < 8) (ha : a ∈ L) (hsh : sh a = (ci, N)) (hd2 : d2 ≤ 9) (hW : (st.map fun v => v.category).sum ≤ 8) (hd : decode cL_law pc = .ok (.invokevirtual ix, 3))
    (hfc : cells ≤ 600000) (hfs : slots ≤ 7302250) (kk : ∀ m', Q2 m' → zX l G0 τ (yL_law, cL_law, 6, ret) room_1 Kp (lwF G0 b Ls xs) lwA (pc + 3) lv (.int F :: st) sh L m' cells slots) : zX l G0 τ (yL_law, cL_law, 6, ret) room_1 Kp (lwF G0 b Ls xs) lwA pc lv (v5 :: v4 :: v3 :: v2 :: v1 :: .ref a :: st) sh L mm cells slots :=
  x_callV (As := [v1, v2, v3, v4, v5]) hy hs hlink hc hC2 hci ha hsh hd2 rfl hW hd hfc hfs kk
theorem x_callS {As : List Value} (hy : zMS y2 b2 n2 r2 np) (hs : zSem l (gx G0 sh L) (y2, b2, n2, r2) d2 As mm rv2 Q2) (hlink : Cond.methodLink RL ix y2 ∈ zU) (hd2 : d2 ≤ 9) (hnp : As.length = np) (hW : (st.map fun v => v.category).sum ≤ 8) (hd : decode cL_law pc = .ok (.invokestatic ix, 3))
    (hfc : cells ≤ 600000) (hfs : slots ≤ 7302250) (kk : ∀ m', Q2 m' → zX l G0 τ (yL_law, cL_law, 6, ret) room_1 Kp (lwF G0 b Ls xs) lwA (pc + 3) lv (rv2.toList ++ st) sh L m' cells slots) : zX l G0 τ (yL_law, cL_law, 6, ret) room_1 Kp (lwF G0 b Ls xs) lwA pc lv (As.reverse ++ st) sh L mm cells slots := by
  intro p e s m args below meth c H locs ls hx hb hml hrt hown hlk hts hK hC hA hKp hl hN hL hP hS
  by_cases hE : lwE G0 b Ls xs args s
  · obtain ⟨h1, h2, h3, h5, h6, h7, h8⟩ := hy
    exact x_callVW (G := gx G0 sh L) (va_runS (As := As) (rest := st) (nL := 6) ⟨hx, hb, hml, hown, hts⟩ hs ⟨callB_of np hts (z_good.mpr h2) rfl rfl rfl (hts _ h5) (hts _ hlink) ⟨h6.1, h6.2, h7⟩ ⟨by show d2 + 1 ≤ 10; omega, by show 8 + (n2 + 11) + 40 * d2 ≤ 416; omega⟩, hts _ h3⟩ ⟨z_blind, fun U hU hW => ⟨rfl, by rw [hU]; exact hP, va_K.moved hW.alike hK, hE.2.2.2.go hS.2.1 hU hW.alike hL, hN, hC.1.warm hW⟩⟩ rfl hnp hl.1 rfl (lv_room hW) hd ⟨hfc, hfs⟩) hL hS
      (fun m' H1 locs1 hq hP1 hS1 => kk m' hq p e s m args below meth c H1 locs1 ls hx hb hml hrt hown hlk hts hK hC hA hKp hl hN hL hP1 hS1)
  · exact W.triv (fun t h => absurd h hE)
theorem x_S1 {v1 : Value} {F : Int32} (hy : zMS y2 b2 n2 r2 1) (hs : zSem l (gx G0 sh L) (y2, b2, n2, r2) d2 [v1] mm (some (.int F)) Q2) (hlink : Cond.methodLink RL ix y2 ∈ zU) (hd2 : d2 ≤ 9) (hW : (st.map fun v => v.category).sum ≤ 8) (hd : decode cL_law pc = .ok (.invokestatic ix, 3))
    (hfc : cells ≤ 600000) (hfs : slots ≤ 7302250) (kk : ∀ m', Q2 m' → zX l G0 τ (yL_law, cL_law, 6, ret) room_1 Kp (lwF G0 b Ls xs) lwA (pc + 3) lv (.int F :: st) sh L m' cells slots) : zX l G0 τ (yL_law, cL_law, 6, ret) room_1 Kp (lwF G0 b Ls xs) lwA pc lv (v1 :: st) sh L mm cells slots :=
  x_callS (As := [v1]) hy hs hlink hd2 rfl hW hd hfc hfs kk
theorem x_S2 {v1 v2 : Value} {F : Int32} (hy : zMS y2 b2 n2 r2 2) (hs : zSem l (gx G0 sh L) (y2, b2, n2, r2) d2 [v1, v2] mm (some (.int F)) Q2) (hlink : Cond.methodLink RL ix y2 ∈ zU) (hd2 : d2 ≤ 9) (hW : (st.map fun v => v.category).sum ≤ 8) (hd : decode cL_law pc = .ok (.invokestatic ix, 3))
    (hfc : cells ≤ 600000) (hfs : slots ≤ 7302250) (kk : ∀ m', Q2 m' → zX l G0 τ (yL_law, cL_law, 6, ret) room_1 Kp (lwF G0 b Ls xs) lwA (pc + 3) lv (.int F :: st) sh L m' cells slots) : zX l G0 τ (yL_law, cL_law, 6, ret) room_1 Kp (lwF G0 b Ls xs) lwA pc lv (v2 :: v1 :: st) sh L mm cells slots :=
  x_callS (As := [v1, v2]) hy hs hlink hd2 rfl hW hd hfc hfs kk
end LW
/-! a number of the script -/
def cX (Ls : Nat) (xs : Nat → Int32) (k : Nat) : Int32 := if k < Ls then xs k else 15567641 * nI k + nI 2111
def cY (Ls : Nat) (xs : Nat → Int32) (k : Nat) : Nat := (cX Ls xs k).toBitVec.toNat % 2 ^ 31
theorem cY_lt {Ls : Nat} {xs : Nat → Int32} {k : Nat} : cY Ls xs k < 2 ^ 31 := Nat.mod_lt _ (by decide)
theorem c_cell_t {l : Launch} {G : zG} {mm : zM} {b k : Nat} (x : Int32) : zV l G (yL_cell, cL_cell, 2, some .int) 1 (some (.int (nI (x.toBitVec.toNat % 2 ^ 31)))) (fun m' => m' = mm) 20 [some (.ref b), some (.int (nI k))] [.int x] mm := by
  refine z_ldc zk_L_8 rfl dL_cell_20 ?_
  refine z_iand dL_cell_22 ?_
  exact z_iret dL_cell_23 (by rw [pk_and x 31 (by decide)]) rfl
theorem c_cell_b {l : Launch} {G : zG} {mm : zM} {b k Ls : Nat} {xs : Nat → Int32} (h : ¬ k < Ls) : zV l G (yL_cell, cL_cell, 2, some .int) 1 (some (.int (nI (cY Ls xs k)))) (fun m' => m' = mm) 12 [some (.ref b), some (.int (nI k))] [] mm := by
  refine z_ldc zk_L_7 rfl dL_cell_12 ?_
  refine z_iload_n 1 rfl rfl dL_cell_14 ?_
  refine z_imul dL_cell_15 ?_
  refine z_sipush (nI 2111) dL_cell_16 rfl ?_
  refine z_iadd dL_cell_19 ?_
  unfold cY cX
  rw [if_neg h]
  exact c_cell_t _
theorem c_cell_a {l : Launch} {G : zG} {mm : zM} {b k Ls : Nat} {xs : Nat → Int32} (h : k < Ls) : zV l G (yL_cell, cL_cell, 2, some .int) 1 (some (.int (nI (cY Ls xs k)))) (fun m' => m' = mm) 9 [some (.ref b), some (.int (nI k))] [.int (xs k)] mm := by
  refine z_goto 20 dL_cell_9 rfl ?_
  unfold cY cX
  rw [if_pos h]
  exact c_cell_t _
theorem c_L_cell {l : Launch} {G : zG} {mm : zM} {b k Ls : Nat} {xs : Nat → Int32} (hbG : ¬ zA G b) (hLs : Ls ≤ 260) (hk : k < 1000) : Met l yL_cell (Cond.code yL_cell cL_cell 2 (some .int) :: zU) (zR 1) (va_Pc [.ref b, .int (nI k)] (fun U => zW G mm U ∧ va_X b Ls xs U U.heap ∧ b < U.heap.size)) (zQ G (some (.int (nI (cY Ls xs k)))) (fun m' => m' = mm)) 0 0 (zA G) := by
  refine Met.ofW (cc := cL_cell) (maxL := 2) (ret := some .int) rfl rfl ?_
  intro p e s m args below meth c s₁ B hml hv
  obtain ⟨rfl, ⟨hP, hK, hSt, hN⟩, hX, hbs⟩ := hv
  have hts := atoms_spec (ws := Cond.code yL_cell cL_cell 2 (some .int) :: zU) B.pre
  have hts2 : ∀ w ∈ zU, w.before _ s = true := fun w hw => hts w (List.mem_cons_of_mem _ hw)
  rw [lg_entry_eq]
  have hl := zLv_entry [Value.ref b, .int (nI k)] (n := 2) (zc1 (by rfl)) (Nat.le_of_ble_eq_true rfl)
  generalize (lg_sl [Value.ref b, .int (nI k)] ++ List.replicate (2 - (lg_sl [Value.ref b, .int (nI k)]).length) Slot.unset).toArray = ls at hl
  refine lv_iload_n B.exec B.bytes dL_cell_0 rfl (hl.at (i := 1) (v := .int (nI k)) rfl) ?_
  refine lv_aload_n B.exec B.bytes dL_cell_1 rfl (hl.at (i := 0) (v := .ref b) rfl) ?_
  refine va_slen (A := zA G) (H0 := s.heap) B.exec B.bytes hX hbs hbG va_S.rf dL_cell_2 ?_
  refine lv_icmp_ge (tgt := 12) B.exec B.bytes dL_cell_3 rfl (fun h => ?_) (fun h => ?_)
  · have h2 : ¬ k < Ls := fun z => absurd h (nI_ge z (by omega))
    exact c_cell_b h2 p e s m _ below meth c s.heap [] ls B.exec B.bytes hml B.returns (findClass_of_methodNamed B.named) B.notSynchronized hts2 hK hSt hN hl hP va_S.rf
  · have h2 : k < Ls := Nat.lt_of_not_le (fun z => h (nI_le z (by omega)))
    refine lv_aload_n B.exec B.bytes dL_cell_6 rfl (hl.at (i := 0) (v := .ref b) rfl) ?_
    refine lv_iload_n B.exec B.bytes dL_cell_7 rfl (hl.at (i := 1) (v := .int (nI k)) rfl) ?_
    refine va_sld (A := zA G) (H0 := s.heap) B.exec B.bytes hX hbs hbG va_S.rf (nI_in h2 (by omega)) dL_cell_8 ?_
    rw [nI_clamp (by omega)]
    exact c_cell_a h2 p e s m _ below meth c s.heap [] ls B.exec B.bytes hml B.returns (findClass_of_methodNamed B.named) B.notSynchronized hts2 hK hSt hN hl hP va_S.rf
theorem cell_blind {G : zG} {mm : zM} {As : List Value} {b Ls : Nat} {xs : Nat → Int32} : FrameBlind (va_Pc As (fun U => zW G mm U ∧ va_X b Ls xs U U.heap ∧ b < U.heap.size)) := fun a U g mk h => ⟨h.1, (z_blind a U g mk ⟨h.1, h.2.1⟩).2, va_X.moved (u := U) (U := U.calling g mk a) (Vm.Alike.refl U.vm) h.2.2.1, h.2.2.2⟩
section LW2
variable {l : Launch} {G0 : zG} {τ : Nat → Nat} {Kp : Method → Prop} {b Ls : Nat} {xs : Nat → Int32} {pc : Nat} {lv : List (Option Value)} {st : List Value} {sh : Nat → Nat × Nat} {L : List Nat} {mm : zM} {cells slots : Nat}
theorem x_cell {k : Nat} (hk : k < 1000) (hLs : Ls ≤ 260) (hW : (st.map fun v => v.category).sum ≤ 8) (hd : decode cL_law pc = .ok (.invokestatic 86, 3))
    (hfc : cells ≤ 600000) (hfs : slots ≤ 7302250) (kk : zX l G0 τ (yL_law, cL_law, 6, ret) room_1 Kp (lwF G0 b Ls xs) lwA (pc + 3) lv (.int (nI (cY Ls xs k)) :: st) sh L mm cells slots) : zX l G0 τ (yL_law, cL_law, 6, ret) room_1 Kp (lwF G0 b Ls xs) lwA pc lv (.int (nI k) :: .ref b :: st) sh L mm cells slots := by
  intro p e s m args below meth c H locs ls hx hb hml hrt hown hlk hts hK hC hA hKp hl hN hL hP hS
  by_cases hE : lwE G0 b Ls xs args s
  · have hbL : ¬ b ∈ L := fun h => absurd (hL b h) (Nat.not_le.mpr hE.2.2.1)
    obtain ⟨h1, h2, h3, h5, h6, h7, h8⟩ := zm_L_cell
    exact x_callVW (G := gx G0 sh L) (va_runS (As := [.ref b, .int (nI k)]) (rest := st) (nL := 6) ⟨hx, hb, hml, hown, hts⟩ (c_L_cell (G := gx G0 sh L) (mm := mm) hbL hLs hk) ⟨callB_of 2 hts (z_good.mpr h2) rfl rfl rfl (hts _ h5) (hts _ zl_L_86) ⟨h6.1, h6.2, h7⟩ ⟨by show 1 + 1 ≤ 10; omega, by show 8 + (2 + 11) + 40 * 1 ≤ 416; omega⟩, hts _ h3⟩ ⟨cell_blind, fun U hU hW => ⟨rfl, ⟨by rw [hU]; exact hP, va_K.moved hW.alike hK, hE.2.2.2.go hS.2.1 hU hW.alike hL, hN, hC.1.warm hW⟩, by rw [hU]; exact (hE.2.1.kept (hS.2.1 b hE.2.2.1 (Nat.not_le.mpr hE.2.2.1))).moved hW.alike, by rw [hU]; exact Nat.lt_of_lt_of_le hE.2.2.1 hS.1⟩⟩ rfl rfl hl.1 rfl (lv_room hW) hd ⟨hfc, hfs⟩) hL hS
      (fun m' H1 locs1 hq hP1 hS1 => by subst hq; exact kk p e s m args below meth c H1 locs1 ls hx hb hml hrt hown hlk hts hK hC hA hKp hl hN hL hP1 hS1)
  · exact W.triv (fun t h => absurd h hE)
end LW2
