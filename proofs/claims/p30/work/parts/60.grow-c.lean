/-! constructors: contracts in a growing world -/
def zAX (L : List Nat) (sz : Nat) : Nat → Prop := fun q => q ∈ L ∨ sz ≤ q
def zWX (G0 : zG) (τ : Nat → Nat) (A : Nat → Prop) (sh : Nat → Nat × Nat) (L : List Nat) (mm : zM) (U : State) : Prop := va_P G0.1 vwCl (va_pl L (zF (gx G0 sh L) mm)) U.heap ∧ L.Nodup ∧ va_K G0.1 vwCl (zT G0) U ∧ zCs τ A U U.heap
def zQX (G0 : zG) (A : Nat → Prop) (Q : (Nat → Nat × Nat) → List Nat → zM → Prop) : Array Value → State → Outcome → State → Prop := fun _ st oc t => (oc = .returned none ∧ ∃ sh' L' mm', Q sh' L' mm' ∧ L'.Nodup ∧ (∀ a, a ∈ L' → A a) ∧ va_P G0.1 vwCl (va_pl L' (zF (gx G0 sh' L') mm')) t.heap) ∧ va_F A st t
abbrev zRX (d mc ms : Nat) : Room := { frames := d, cells := mc, slots := ms, locals := 40 * d }
def zSmX (l : Launch) (G0 : zG) (τ : Nat → Nat) (y : MethodName) (b : ByteArray) (n : Nat) (d mc ms : Nat) (As : List Value) (sh : Nat → Nat × Nat) (L : List Nat) (mm : zM) (Q : (Nat → Nat × Nat) → List Nat → zM → Prop) : Prop :=
  ∀ sz, Met l y (Cond.code y b n none :: zU) (zRX d mc ms) (va_Pc As (fun U => U.heap.size = sz ∧ zWX G0 τ (zAX L sz) sh L mm U)) (zQX G0 (zAX L sz) Q) mc ms (zAX L sz)
theorem x_met {l : Launch} {G0 : zG} {τ : Nat → Nat} {y : MethodName} {cc : ByteArray} {nL d mc ms : Nat} {As : List Value} {sh : Nat → Nat × Nat} {L : List Nat} {mm : zM} {Q : (Nat → Nat × Nat) → List Nat → zM → Prop} (lv : List (Option Value)) (hy : plainName y.cls = true) (hc : ∀ v ∈ As, v.category = 1) (hn : As.length ≤ nL)
    (hlv : As.map some ++ List.replicate (nL - As.length) none = lv) (h : zX l G0 τ (y, cc, nL, none) (zRX d mc ms) (fun me => me.name = y.name) (fun below args s => MQ below (zQX G0 (zAX L s.heap.size) Q) args s mc ms (zAX L s.heap.size)) (fun s => zAX L s.heap.size) 0 lv [] sh L mm 0 0) : zSmX l G0 τ y cc nL d mc ms As sh L mm Q := by
  subst hlv
  intro sz
  refine Met.ofW (cc := cc) (maxL := nL) (ret := none) hy rfl ?_
  intro p e s m args below meth c s₁ B hml hv
  obtain ⟨rfl, hsz, hP, hN, hK, hCs⟩ := hv
  subst hsz
  have hts := atoms_spec (ws := Cond.code y cc nL none :: zU) B.pre
  rw [lg_entry_eq]
  exact h p e s m _ below meth c s.heap [] _ B.exec B.bytes hml B.returns (findClass_of_methodNamed B.named) B.notSynchronized (fun w hw => hts w (List.mem_cons_of_mem _ hw)) hK hCs (fun q h => Or.inr h) (name_of_methodNamed B.named B.method).1 (zLv_entry As hc hn) hN (fun a h => Or.inl h) hP va_S.rf
theorem x_vret {l : Launch} {G0 : zG} {τ : Nat → Nat} {y : MethodName} {cc : ByteArray} {nL d mc ms : Nat} {L0 : List Nat} {Q : (Nat → Nat × Nat) → List Nat → zM → Prop} {Kp : Method → Prop} {pc : Nat} {lv : List (Option Value)} {sh : Nat → Nat × Nat} {L : List Nat} {mm : zM} (hd : decode cc pc = .ok (.return_, 1)) (hQ : Q sh L mm) : zX l G0 τ (y, cc, nL, none) (zRX d mc ms) Kp (fun below args s => MQ below (zQX G0 (zAX L0 s.heap.size) Q) args s mc ms (zAX L0 s.heap.size)) (fun s => zAX L0 s.heap.size) pc lv [] sh L mm mc ms := by
  intro p e s m args below meth c H locs ls hx hb hml hrt hown hlk hts hK hC hA hKp hl hN hL hP hS
  exact W.vret hx hb hrt (fun t ht hW => ⟨⟨rfl, sh, L, mm, hQ, hN, hL, by rw [ht]; exact hP⟩, hS.F ht⟩) hS.2.2 hd
theorem x_blind {G0 : zG} {τ : Nat → Nat} {A : Nat → Prop} {sz : Nat} {sh : Nat → Nat × Nat} {L : List Nat} {mm : zM} {As : List Value} : FrameBlind (va_Pc As (fun U => U.heap.size = sz ∧ zWX G0 τ A sh L mm U)) := fun a U g mk h => ⟨h.1, h.2.1, h.2.2.1, h.2.2.2.1, va_K.moved (u := U) (U := U.calling g mk a) (Vm.Alike.refl U.vm) h.2.2.2.2.1, zCs.same (u := U) (U := U.calling g mk a) rfl (Vm.Alike.refl U.vm) h.2.2.2.2.2⟩
theorem x_callW {p : Program} {l : Launch} {e : Env} {R : Room} {s : State} {m : MethodId} {args : Array Value} {below : List Frame} {meth : Method} {c : Code} {H : Heap} {locs : List Loc} {Q : State → Prop} {G0 : zG} {pc cells slots mc ms : Nat} {ls : Array Slot} {rest st0 : List Value} {a : Array Value} {A : Nat → Prop} {L : List Nat} {Q2 : (Nat → Nat × Nat) → List Nat → zM → Prop}
    (hr : va_Run p l e R s m args below meth c H locs cells slots mc ms (F0 m pc ls st0) rest (zQX G0 (zAX L H.size) Q2 a) (zAX L H.size)) (hL : ∀ a, a ∈ L → A a) (hA : ∀ q, s.heap.size ≤ q → A q) (hS : va_S A s.heap H locs)
    (kk : ∀ (sh' : Nat → Nat × Nat) (L' : List Nat) (mm' : zM) (H1 : Heap) (locs1 : List Loc), Q2 sh' L' mm' → L'.Nodup → (∀ a, a ∈ L' → A a) → va_P G0.1 vwCl (va_pl L' (zF (gx G0 sh' L') mm')) H1 → va_S A s.heap H1 locs1 → W p l e R s m args below meth c H1 locs1 (cells + mc) (slots + ms) Q (F0 m (pc + 3) ls rest)) : W p l e R s m args below meth c H locs cells slots Q (F0 m pc ls st0) := by
  have hsub : ∀ q, zAX L H.size q → A q := fun q h => h.elim (hL q) (fun z => hA q (Nat.le_trans hS.1 z))
  intro T hT X
  obtain ⟨v, st₀, t, T', Lc, h0, X', hLc, e1, e2, ⟨⟨hv, sh', L', mm', hq, hN', hL', hP'⟩, hz, hk⟩, st⟩ := hr T hT X
  cases hv
  rw [h0] at hz hk
  obtain ⟨t2, a1, b1⟩ := kk sh' L' mm' T'.heap (locs ++ Lc) hq hN' (fun a h => hsub a (hL' a h)) (by rw [e1]; exact hP')
    ⟨Nat.le_trans hS.1 (by rw [e1]; exact hz), fun q h1 h2 => by rw [e1, hk q (Nat.lt_of_lt_of_le h1 hS.1) (fun z => h2 (hsub q z))]; exact hS.2.1 q h1 h2, fun q hq => by
      rcases List.mem_append.mp hq with h | h
      · exact hS.2.2 q h
      · exact hsub _ (hLc q h)⟩ T' rfl X'
  exact ⟨t2, st t2 a1, b1⟩
section ZX3
variable {l : Launch} {G0 : zG} {τ : Nat → Nat} {y : MethodName} {cc : ByteArray} {nL : Nat} {ret : Option FieldType} {R : Room} {Kp : Method → Prop} {F : List Frame → Array Value → State → State → Prop} {A : State → Nat → Prop} {pc : Nat} {lv : List (Option Value)} {st : List Value} {sh : Nat → Nat × Nat} {L : List Nat} {mm : zM} {cells slots : Nat}
variable {y2 : MethodName} {b2 : ByteArray} {n2 d2 np ix mc ms : Nat} {Q2 : (Nat → Nat × Nat) → List Nat → zM → Prop} {own : String}
theorem x_call {As : List Value} {a : Nat} (hy : zMI y2 b2 n2 np) (hs : zSmX l G0 τ y2 b2 n2 d2 mc ms (.ref a :: As) sh L mm Q2) (ho : own = y.cls) (hlink : Cond.methodLink own ix y2 ∈ zU) (hR : d2 + 1 ≤ R.frames ∧ 8 + (n2 + 11) + 40 * d2 ≤ R.locals) (hf : cells + mc ≤ R.cells ∧ slots + ms ≤ R.slots) (hnp : As.length = np) (hW : (st.map fun v => v.category).sum ≤ 8) (hd : decode cc pc = .ok (.invokespecial ix, 3))
    (kk : ∀ sh' L' mm', Q2 sh' L' mm' → L'.Nodup → zX l G0 τ (y, cc, nL, ret) R Kp F A (pc + 3) lv st sh' L' mm' (cells + mc) (slots + ms)) : zX l G0 τ (y, cc, nL, ret) R Kp F A pc lv (As.reverse ++ .ref a :: st) sh L mm cells slots := by
  intro p e s m args below meth c H locs ls hx hb hml hrt hown hlk hts hK hC hA hKp hl hN hL hP hS
  subst ho
  obtain ⟨h1, h2, h3, h5, h6, h7, h8⟩ := hy
  exact x_callW (va_runI (As := As) (rest := st) (nL := nL) ⟨hx, hb, hml, hown, hts⟩ (hs H.size) ⟨callB_of np hts (z_good.mpr h2) rfl rfl rfl (hts _ h5) (hts _ hlink) ⟨h6.1, h6.2, h7⟩ hR, h8, hts _ h3⟩ ⟨x_blind, fun U hU hW => ⟨rfl, by rw [hU], by rw [hU]; exact hP, hN, va_K.moved hW.alike hK, hC.go hS.2.1 hU hW (fun q h => h.elim (hL q) (fun z => hA q (Nat.le_trans hS.1 z)))⟩⟩ rfl hnp hl.1 rfl (lv_room hW) hd hf) hL hA hS
    (fun sh' L' mm' H1 locs1 hq hN1 hL1 hP1 hS1 => kk sh' L' mm' hq hN1 p e s m args below meth c H1 locs1 ls hx hb hml hrt hown hlk hts hK hC hA hKp hl hN1 hL1 hP1 hS1)
theorem x_callN {As : List Value} {a : Nat} {host : String} (hy : zMI y2 b2 n2 np) (hs : zSmX l G0 τ y2 b2 n2 d2 mc ms (.ref a :: As) sh L mm Q2) (ho : own = y.cls) (hlink : Cond.methodLinkNest own ix y2 host ∈ zN) (hR : d2 + 1 ≤ R.frames ∧ 8 + (n2 + 11) + 40 * d2 ≤ R.locals) (hf : cells + mc ≤ R.cells ∧ slots + ms ≤ R.slots) (hnp : As.length = np) (hW : (st.map fun v => v.category).sum ≤ 8) (hd : decode cc pc = .ok (.invokespecial ix, 3))
    (kk : ∀ sh' L' mm', Q2 sh' L' mm' → L'.Nodup → zX l G0 τ (y, cc, nL, ret) R Kp F A (pc + 3) lv st sh' L' mm' (cells + mc) (slots + ms)) : zX l G0 τ (y, cc, nL, ret) R Kp F A pc lv (As.reverse ++ .ref a :: st) sh L mm cells slots := by
  intro p e s m args below meth c H locs ls hx hb hml hrt hown hlk hts hK hC hA hKp hl hN hL hP hS
  subst ho
  obtain ⟨h1, h2, h3, h5, h6, h7, h8⟩ := hy
  exact x_callW (va_runIN (As := As) (rest := st) (nL := nL) ⟨hx, hb, hml, hown, hts⟩ (hs H.size) ⟨va_cnB np hts (z_good.mpr h2) rfl rfl rfl (hC.1 _ hlink) (hts _ h5) ⟨h6.1, h6.2, h7⟩ hR, h8, hts _ h3⟩ ⟨x_blind, fun U hU hW => ⟨rfl, by rw [hU], by rw [hU]; exact hP, hN, va_K.moved hW.alike hK, hC.go hS.2.1 hU hW (fun q h => h.elim (hL q) (fun z => hA q (Nat.le_trans hS.1 z)))⟩⟩ rfl hnp hl.1 rfl (lv_room hW) hd hf) hL hA hS
    (fun sh' L' mm' H1 locs1 hq hN1 hL1 hP1 hS1 => kk sh' L' mm' hq hN1 p e s m args below meth c H1 locs1 ls hx hb hml hrt hown hlk hts hK hC hA hKp hl hN1 hL1 hP1 hS1)
theorem x_call0 {a : Nat} (hy : zMI y2 b2 n2 0) (hs : zSmX l G0 τ y2 b2 n2 d2 mc ms [.ref a] sh L mm Q2) (ho : own = y.cls) (hlink : Cond.methodLink own ix y2 ∈ zU) (hR : d2 + 1 ≤ R.frames ∧ 8 + (n2 + 11) + 40 * d2 ≤ R.locals) (hf : cells + mc ≤ R.cells ∧ slots + ms ≤ R.slots) (hW : (st.map fun v => v.category).sum ≤ 8) (hd : decode cc pc = .ok (.invokespecial ix, 3))
    (kk : ∀ sh' L' mm', Q2 sh' L' mm' → L'.Nodup → zX l G0 τ (y, cc, nL, ret) R Kp F A (pc + 3) lv st sh' L' mm' (cells + mc) (slots + ms)) : zX l G0 τ (y, cc, nL, ret) R Kp F A pc lv (.ref a :: st) sh L mm cells slots := x_call (As := []) hy hs ho hlink hR hf rfl hW hd kk
theorem x_call1 {a : Nat} {x : Int32} (hy : zMI y2 b2 n2 1) (hs : zSmX l G0 τ y2 b2 n2 d2 mc ms [.ref a, .int x] sh L mm Q2) (ho : own = y.cls) (hlink : Cond.methodLink own ix y2 ∈ zU) (hR : d2 + 1 ≤ R.frames ∧ 8 + (n2 + 11) + 40 * d2 ≤ R.locals) (hf : cells + mc ≤ R.cells ∧ slots + ms ≤ R.slots) (hW : (st.map fun v => v.category).sum ≤ 8) (hd : decode cc pc = .ok (.invokespecial ix, 3))
    (kk : ∀ sh' L' mm', Q2 sh' L' mm' → L'.Nodup → zX l G0 τ (y, cc, nL, ret) R Kp F A (pc + 3) lv st sh' L' mm' (cells + mc) (slots + ms)) : zX l G0 τ (y, cc, nL, ret) R Kp F A pc lv (.int x :: .ref a :: st) sh L mm cells slots := x_call (As := [.int x]) hy hs ho hlink hR hf rfl hW hd kk
theorem x_call0N {a : Nat} {host : String} (hy : zMI y2 b2 n2 0) (hs : zSmX l G0 τ y2 b2 n2 d2 mc ms [.ref a] sh L mm Q2) (ho : own = y.cls) (hlink : Cond.methodLinkNest own ix y2 host ∈ zN) (hR : d2 + 1 ≤ R.frames ∧ 8 + (n2 + 11) + 40 * d2 ≤ R.locals) (hf : cells + mc ≤ R.cells ∧ slots + ms ≤ R.slots) (hW : (st.map fun v => v.category).sum ≤ 8) (hd : decode cc pc = .ok (.invokespecial ix, 3))
    (kk : ∀ sh' L' mm', Q2 sh' L' mm' → L'.Nodup → zX l G0 τ (y, cc, nL, ret) R Kp F A (pc + 3) lv st sh' L' mm' (cells + mc) (slots + ms)) : zX l G0 τ (y, cc, nL, ret) R Kp F A pc lv (.ref a :: st) sh L mm cells slots := x_callN (As := []) hy hs ho hlink hR hf rfl hW hd kk
end ZX3
