theorem zF_new {G0 : zG} {sh : Nat → Nat × Nat} {L : List Nat} {mm : zM} {a : Nat} {x : Nat × Nat} {f : Nat → Value} (b : Nat) : va_up (zF (gx G0 sh L) mm) a (zF (gx G0 (shU sh a x) (L ++ [a])) (mmU mm a f) a) b = zF (gx G0 (shU sh a x) (L ++ [a])) (mmU mm a f) b := by
  by_cases h : b = a
  · subst h; rw [va_up_self]
  · rw [va_up_ne _ _ h]
    have e1 : shU sh a x b = sh b := if_neg h
    have e2 : mmU mm a f b = mm b := by funext j; exact if_neg h
    have ez : zsh (gx G0 (shU sh a x) (L ++ [a])) b = zsh (gx G0 sh L) b := e1
    unfold zF
    rw [e2, ez]
theorem zx_push {D : va_G} {cl : List vw_C} {A : Nat → Prop} {G0 : zG} {sh : Nat → Nat × Nat} {L : List Nat} {mm : zM} {a : Nat} {e : va_E} {H : Heap} (x : Nat × Nat) (f : Nat → Value) (he : e = zF (gx G0 (shU sh a x) (L ++ [a])) (mmU mm a f) a) (hN : L.Nodup) (hL : ∀ b, b ∈ L → A b) (hP : va_P D cl (va_pl L (zF (gx G0 sh L) mm) ++ [(a, e)]) H) (hD : va_D A (va_pl L (zF (gx G0 sh L) mm) ++ [(a, e)])) : a ∉ L ∧ (L ++ [a]).Nodup ∧ (∀ b, b ∈ L ++ [a] → A b) ∧ va_P D cl (va_pl (L ++ [a]) (zF (gx G0 (shU sh a x) (L ++ [a])) (mmU mm a f))) H := by
  have hl : (va_pl L (zF (gx G0 sh L) mm)).length = L.length := by unfold va_pl; rw [List.length_map]
  have hlast : (va_pl L (zF (gx G0 sh L) mm) ++ [(a, e)])[L.length]? = some (a, e) := by rw [List.getElem?_append_right (by omega), hl, Nat.sub_self]; rfl
  have hna : a ∉ L := fun h => by
    obtain ⟨k, hk⟩ := va_pl_get (X := []) (f := zF (gx G0 sh L) mm) h
    have hk : (va_pl L (zF (gx G0 sh L) mm))[k]? = some (a, zF (gx G0 sh L) mm a) := hk
    have hlt : k < (va_pl L (zF (gx G0 sh L) mm)).length := (List.getElem?_eq_some_iff.mp hk).1
    have h2 := hD.1 k L.length (a, zF (gx G0 sh L) mm a) (a, e) (by rw [List.getElem?_append_left hlt]; exact hk) hlast rfl
    omega
  refine ⟨hna, List.nodup_append.mpr ⟨hN, by simp, fun x hx y hy z => ?_⟩, fun b hb => ?_, ?_⟩
  · rw [List.mem_singleton.mp hy] at z; exact hna (z ▸ hx)
  · rcases List.mem_append.mp hb with h | h
    · exact hL b h
    · rw [List.mem_singleton.mp h]; exact hD.2 _ _ hlast
  · rw [va_pl_push hna, he, va_pl_congr (fun b => zF_new b)] at hP
    exact hP
theorem vp_V_map {f : Nat → Value} {N j : Nat} (h : j < N) : f j = vp_V ((List.range N).map f) j := by
  unfold vp_V
  simp [List.getD, h]
theorem zF_newO {G0 : zG} {sh : Nat → Nat × Nat} {L : List Nat} {mm : zM} {a ci N : Nat} {f : Nat → Value} (hc : ci < 8) : (.inr (ci, (List.range N).map f) : va_E) = zF (gx G0 (shU sh a (ci, N)) (L ++ [a])) (mmU mm a f) a := by
  rw [zF_obj (ci := ci) (n := N) (if_pos rfl) hc]
  congr 2
  apply List.map_congr_left
  intro j _
  exact (if_pos rfl).symm
theorem zF_newI {G0 : zG} {sh : Nat → Nat × Nat} {L : List Nat} {mm : zM} {a k N : Nat} {g : Nat → Int32} (h1 : 8 ≤ k) (h2 : k < 10) : (.inl (G0.2.1 k, N, .inl g) : va_E) = zF (gx G0 (shU sh a (k, N)) (L ++ [a])) (mmU mm a (fun j => .int (g j))) a := by
  rw [zF_int (k := k) (n := N) (if_pos rfl) h1 h2]
  congr 4
  funext j
  show g j = zi (mmU mm a (fun j => .int (g j)) a j)
  rw [show mmU mm a (fun j => Value.int (g j)) a j = .int (g j) from if_pos rfl]; rfl
theorem zF_newQ {G0 : zG} {sh : Nat → Nat × Nat} {L : List Nat} {mm : zM} {a k N : Nat} (h1 : 10 ≤ k) : (.inl (G0.2.1 k, N, .inr (.inr (.inr (.inr (fun _ => none))))) : va_E) = zF (gx G0 (shU sh a (k, N)) (L ++ [a])) (mmU mm a (fun _ => .null)) a := by
  rw [zF_ref (k := k) (n := N) (if_pos rfl) h1]
  congr 7
  funext j
  show none = zr (mmU mm a (fun _ => .null) a j)
  rw [show mmU mm a (fun _ => Value.null) a j = .null from if_pos rfl]; rfl
section ZX2
variable {l : Launch} {G0 : zG} {τ : Nat → Nat} {y : MethodName} {cc : ByteArray} {nL : Nat} {ret : Option FieldType} {R : Room} {Kp : Method → Prop} {F : List Frame → Array Value → State → State → Prop} {A : State → Nat → Prop} {pc : Nat} {lv : List (Option Value)} {st : List Value} {sh : Nat → Nat × Nat} {L : List Nat} {mm : zM} {cells slots : Nat}
theorem x_putF {C : String} {T : u_T} {N ci ix k a : Nat} {own : String} {v : Value} {ty0 : Nat → FieldType} {ty : FieldType} (hKn : ∀ me, Kp me → me.name = "<init>") (hin : ∀ w ∈ u_ws C T N, w ∈ zU) (hty : ∀ k, k < N → parseFieldDescriptor (T k).2.2.1 = some (ty0 k)) (hnm : ∀ a, a < N → ∀ b, b < N → a ≠ b → (T a).2.1 ≠ (T b).2.1) (hc : vwCl[ci]? = some (C, T, N)) (hci : ci < 8) (hk : k < N) (hself : (T k).1 = C) (hfin : (T k).2.2.2 = true) (hds : parseFieldDescriptor (T k).2.2.1 = some ty) (hn : narrow ty v = v) (hfit : fits ty v = true) (ho : own = y.cls) (hC0 : C = own) (hlink : Cond.fieldLink own ix C (T k).2.1 (T k).2.2.1 ∈ zU) (ha : a ∈ L) (hsh : sh a = (ci, N)) (hd : decode cc pc = .ok (.putfield ix, 3)) (kk : zX l G0 τ (y, cc, nL, ret) R Kp F A (pc + 3) lv st sh L (zup mm a k v) cells slots) : zX l G0 τ (y, cc, nL, ret) R Kp F A pc lv (v :: .ref a :: st) sh L mm cells slots := by
  intro p e s m args below meth c H locs ls hx hb hml hrt hown hlk hts hK hC hA hKp hl hN hL hP hS
  subst ho
  obtain ⟨q0, he⟩ := z_pl (G := gx G0 sh L) (mm := mm) ha
  have he1 := he
  rw [zF_obj (G := gx G0 sh L) hsh hci] at he1
  refine va_putF hx hb hts hin ty0 hty hnm hown hK hP (zDX hN hL _) hS q0 he1 hc k hk (hts _ hlink) (fun x h => by rw [hself] at h; exact h) hfin (hKn _ hKp) (hself.trans hC0) hds hn hfit (by simpa using hk) hd (fun H1 locs1 hP1 _ hS1 => ?_)
  rw [z_pl_set (G := gx G0 sh L) hN ha he (zF_put (G := gx G0 sh L) hsh hci v)] at hP1
  exact kk p e s m args below meth c H1 locs1 ls hx hb hml hrt hown hlk hts hK hC hA hKp hl hN hL hP1 hS1
theorem x_new {C : String} {T : u_T} {N ci ix : Nat} {own : String} {ty0 : Nat → FieldType} (hin : ∀ w ∈ u_ws C T N, w ∈ zU) (hty : ∀ k, k < N → parseFieldDescriptor (T k).2.2.1 = some (ty0 k)) (hc : vwCl[ci]? = some (C, T, N)) (hci : ci < 8) (ho : own = y.cls) (hcl : Cond.classLink own ix C ∈ zU) (hinst : Cond.instantiable C N ∈ zU) (hini : Cond.initialized C ∈ zU) (hcells : cells + 1 ≤ R.cells) (hslots : slots + N ≤ R.slots) (hd : decode cc pc = .ok (.new ix, 3))
    (kk : ∀ a, a ∉ L → zX l G0 τ (y, cc, nL, ret) R Kp F A (pc + 3) lv (.ref a :: st) (shU sh a (ci, N)) (L ++ [a]) (mmU mm a (fun j => defaultValue (ty0 j))) (cells + 1) (slots + N)) : zX l G0 τ (y, cc, nL, ret) R Kp F A pc lv st sh L mm cells slots := by
  intro p e s m args below meth c H locs ls hx hb hml hrt hown hlk hts hK hC hA hKp hl hN hL hP hS
  subst ho
  refine va_new (fs := (List.range N).map (fun j => defaultValue (ty0 j))) hx hb hts hin ty0 hty hown (hts _ hcl) (hts _ hinst) (hts _ hini) hK hP (zDX hN hL _) hS hA hc (fun j hj => vp_V_map (f := fun j => defaultValue (ty0 j)) hj) hcells hslots hd (fun q H1 hP1 hD1 hS1 => ?_)
  obtain ⟨g1, g2, g3, g4⟩ := zx_push (ci, N) (fun j => defaultValue (ty0 j)) (zF_newO hci) hN hL hP1 hD1
  exact kk q g1 p e s m args below meth c H1 locs ls hx hb hml hrt hown hlk hts hK hC hA hKp hl g2 g3 g4 hS1
theorem x_newI {n : Int32} {N : Nat} (hn : n = nI N) (hN31 : N < 100000) (hcells : cells + 1 ≤ R.cells) (hslots : slots + N ≤ R.slots) (hd : decode cc pc = .ok (.newarray .int, 2))
    (kk : ∀ a, a ∉ L → zX l G0 τ (y, cc, nL, ret) R Kp F A (pc + 2) lv (.ref a :: st) (shU sh a (9, N)) (L ++ [a]) (mmU mm a (fun _ => .int 0)) (cells + 1) (slots + N)) : zX l G0 τ (y, cc, nL, ret) R Kp F A pc lv (.int n :: st) sh L mm cells slots := by
  intro p e s m args below meth c H locs ls hx hb hml hrt hown hlk hts hK hC hA hKp hl hN hL hP hS
  subst hn
  refine va_newa (atype := .int) (ty := .int) (a0 := (N, .inl (fun _ => 0))) (N' := N) hx hb (hts _ zarrI) rfl hK hP (zDX hN hL _) hS hA (fun _ => rfl) (nI_pos (by omega)) (nI_clamp (by omega)) (by show N * 4 ≤ _; omega) hcells hslots hd (fun q cA H1 hK1 hP1 hD1 hS1 => ?_)
  have e1 := (hK1.2 (zT G0).length (cA, .int) (by rw [List.getElem?_append_right (Nat.le_refl _), Nat.sub_self]; rfl)).2
  have e2 := (hK.2 1 (G0.2.1 9, .int) rfl).2
  have e3 : cA = G0.2.1 9 := Option.some.inj ((va_nm_int e1).symm.trans (va_nm_int e2))
  subst e3
  obtain ⟨g1, g2, g3, g4⟩ := zx_push (9, N) (fun _ => .int 0) (zF_newI (k := 9) (g := fun _ => 0) (by decide) (by decide)) hN hL hP1 hD1
  exact kk q g1 p e s m args below meth c H1 locs ls hx hb hml hrt hown hlk hts hK hC hA hKp hl g2 g3 g4 hS1
theorem x_newC {n : Int32} {N : Nat} (hn : n = nI N) (hN31 : N < 100000) (hcells : cells + 1 ≤ R.cells) (hslots : slots + N ≤ R.slots) (hd : decode cc pc = .ok (.newarray .char, 2))
    (kk : ∀ a, a ∉ L → zX l G0 τ (y, cc, nL, ret) R Kp F A (pc + 2) lv (.ref a :: st) (shU sh a (8, N)) (L ++ [a]) (mmU mm a (fun _ => .int 0)) (cells + 1) (slots + N)) : zX l G0 τ (y, cc, nL, ret) R Kp F A pc lv (.int n :: st) sh L mm cells slots := by
  intro p e s m args below meth c H locs ls hx hb hml hrt hown hlk hts hK hC hA hKp hl hN hL hP hS
  subst hn
  refine va_newa (atype := .char) (ty := .char) (a0 := (N, .inl (fun _ => 0))) (N' := N) hx hb (hts _ zarrC) rfl hK hP (zDX hN hL _) hS hA (fun _ => rfl) (nI_pos (by omega)) (nI_clamp (by omega)) (by show N * 2 ≤ _; omega) hcells hslots hd (fun q cA H1 hK1 hP1 hD1 hS1 => ?_)
  have e1 := (hK1.2 (zT G0).length (cA, .char) (by rw [List.getElem?_append_right (Nat.le_refl _), Nat.sub_self]; rfl)).2
  have e2 := (hK.2 0 (G0.2.1 8, .char) rfl).2
  have e3 : cA = G0.2.1 8 := Option.some.inj ((va_nm_char e1).symm.trans (va_nm_char e2))
  subst e3
  obtain ⟨g1, g2, g3, g4⟩ := zx_push (8, N) (fun _ => .int 0) (zF_newI (k := 8) (g := fun _ => 0) (by decide) (by decide)) hN hL hP1 hD1
  exact kk q g1 p e s m args below meth c H1 locs ls hx hb hml hrt hown hlk hts hK hC hA hKp hl g2 g3 g4 hS1
theorem va_RA_o {U : State} {c1 c2 : ClassId} {C : String} (h1 : va_RA U c1 (.object C)) (h2 : va_RA U c2 (.object C)) : c1 = c2 := by
  obtain ⟨_, _, _, _, _, e1⟩ := h1
  obtain ⟨_, _, _, _, _, e2⟩ := h2
  exact Option.some.inj (e1.symm.trans e2)
theorem x_newQ {n : Int32} {N k t0 ix : Nat} {C own : String} (hn : n = nI N) (hN31 : N < 100000) (hk : 10 ≤ k) (ht : (zT G0)[t0]? = some (G0.2.1 k, .object C)) (ho : own = y.cls) (hcl : Cond.classLink own ix C ∈ zU) (hover : ∀ (U : State) (B : Nat → Prop) (H : Heap), zCs τ B U H → va_AO C U) (hcells : cells + 1 ≤ R.cells) (hslots : slots + N ≤ R.slots) (hd : decode cc pc = .ok (.anewarray ix, 3))
    (kk : ∀ a, a ∉ L → zX l G0 τ (y, cc, nL, ret) R Kp F A (pc + 3) lv (.ref a :: st) (shU sh a (k, N)) (L ++ [a]) (mmU mm a (fun _ => .null)) (cells + 1) (slots + N)) : zX l G0 τ (y, cc, nL, ret) R Kp F A pc lv (.int n :: st) sh L mm cells slots := by
  intro p e s m args below meth c H locs ls hx hb hml hrt hown hlk hts hK hC hA hKp hl hN hL hP hS
  subst hn
  subst ho
  refine va_newq (N' := N) hx hb hown (hts _ hcl) (hover _ _ _ hC) hK hP (zDX hN hL _) hS hA (nI_pos (by omega)) (nI_clamp (by omega)) (by omega) hcells hslots hd (fun q cA H1 hK1 hP1 hD1 hS1 => ?_)
  have e1 := (hK1.2 (zT G0).length (cA, .object C) (by rw [List.getElem?_append_right (Nat.le_refl _), Nat.sub_self]; rfl)).2
  have e3 : cA = G0.2.1 k := va_RA_o e1 (hK.2 t0 _ ht).2
  subst e3
  obtain ⟨g1, g2, g3, g4⟩ := zx_push (k, N) (fun _ => .null) (zF_newQ hk) hN hL hP1 hD1
  exact kk q g1 p e s m args below meth c H1 locs ls hx hb hml hrt hown hlk hts hK hC hA hKp hl g2 g3 g4 hS1
theorem x_objInit {ix a : Nat} {own : String} (ho : own = y.cls) (hlink : Cond.methodLink own ix Lib.objectInit ∈ zU) (hf : 1 ≤ R.frames) (hlo : 40 ≤ R.locals) (hW : (st.map fun v => v.category).sum ≤ 8) (hd : decode cc pc = .ok (.invokespecial ix, 3)) (kk : zX l G0 τ (y, cc, nL, ret) R Kp F A (pc + 3) lv st sh L mm cells slots) : zX l G0 τ (y, cc, nL, ret) R Kp F A pc lv (.ref a :: st) sh L mm cells slots := by
  intro p e s m args below meth c H locs ls hx hb hml hrt hown hlk hts hK hC hA hKp hl hN hL hP hS
  subst ho
  exact W.objInit hx hb hown (hts _ hlink) (hts _ zobj.1) (hts _ zobj.2) rfl (hl.1.trans hml.symm) rfl hd hf (by show 2 * 0 + _ + 12 ≤ _; omega) (kk p e s m args below meth c H locs ls hx hb hml hrt hown hlk hts hK hC hA hKp hl hN hL hP hS)
theorem x_gets {ix : Nat} {own nm : String} {t : Nat} {f : Nat → Int32} (hsel : ∀ (U : State) (B : Nat → Prop) (H : Heap), zCs τ B U H → zFz nm t f B U H) (ho : own = y.cls) (hlink : Cond.fieldLinkNest own ix "RightsDesk" nm "[I" "RightsDesk" ∈ zN) (hd : decode cc pc = .ok (.getstatic ix, 3)) (kk : zX l G0 τ (y, cc, nL, ret) R Kp F A (pc + 3) lv (.ref t :: st) sh L mm cells slots) : zX l G0 τ (y, cc, nL, ret) R Kp F A pc lv st sh L mm cells slots := by
  intro p e s m args below meth c H locs ls hx hb hml hrt hown hlk hts hK hC hA hKp hl hN hL hP hS
  subst ho
  exact va_getsN hx hb (hsel _ _ _ hC).1 hS hown (va_Nw.use rfl (hC.1 _ hlink)) (fun _ h => h) hd (kk p e s m args below meth c H locs ls hx hb hml hrt hown hlk hts hK hC hA hKp hl hN hL hP hS)
theorem x_castI {ix a N : Nat} {own : String} (ho : own = y.cls) (hlink : Cond.classLink own ix "[I" ∈ zU) (ha : a ∈ L) (hsh : sh a = (9, N)) (hd : decode cc pc = .ok (.checkcast ix, 3)) (kk : zX l G0 τ (y, cc, nL, ret) R Kp F A (pc + 3) lv (.ref a :: st) sh L mm cells slots) : zX l G0 τ (y, cc, nL, ret) R Kp F A pc lv (.ref a :: st) sh L mm cells slots := by
  intro p e s m args below meth c H locs ls hx hb hml hrt hown hlk hts hK hC hA hKp hl hN hL hP hS
  subst ho
  obtain ⟨q0, he⟩ := z_pl (G := gx G0 sh L) (mm := mm) ha
  rw [zF_int (G := gx G0 sh L) hsh (by decide) (by decide)] at he
  exact va_castA hx hb hown (hts _ hlink) hP q0 he (va_nm_int (hK.2 1 (G0.2.1 9, .int) rfl).2) hd (kk p e s m args below meth c H locs ls hx hb hml hrt hown hlk hts hK hC hA hKp hl hN hL hP hS)
theorem x_clone {nm : String} {t : Nat} {f : Nat → Int32} (hsel : ∀ (U : State) (B : Nat → Prop) (H : Heap), zCs τ B U H → zFz nm t f B U H) (ho : RX5 = y.cls) (hf : 1 ≤ R.frames) (hlo : 40 ≤ R.locals) (hW : (st.map fun v => v.category).sum ≤ 8) (hcells : cells + 1 ≤ R.cells) (hslots : slots + 4 ≤ R.slots) (hd : decode cc pc = .ok (.invokevirtual 13, 3))
    (kk : ∀ a, a ∉ L → zX l G0 τ (y, cc, nL, ret) R Kp F A (pc + 3) lv (.ref a :: st) (shU sh a (9, 4)) (L ++ [a]) (mmU mm a (fun j => .int (f j))) (cells + 1) (slots + 4)) : zX l G0 τ (y, cc, nL, ret) R Kp F A pc lv (.ref t :: st) sh L mm cells slots := by
  intro p e s m args below meth c H locs ls hx hb hml hrt hown hlk hts hK hC hA hKp hl hN hL hP hS
  obtain ⟨-, cell, c1, c2, c3, c4, c5, c6⟩ := hsel _ _ _ hC
  have hcI : G0.2.1 9 = cell.cls := Option.some.inj ((va_nm_int (hK.2 1 (G0.2.1 9, .int) rfl).2).symm.trans c4)
  have hcellE : ({ cls := cell.cls, slots := cell.slots } : Cell) = vp_cell (G0.2.1 9) (4, .inl f) := by rw [hcI, c5]; rfl
  have hsz : cell.slots.size = 4 := by rw [c5]; simp
  obtain ⟨k0, t0', f1, f2, f3⟩ := Cond.castable_spec (va_Nw.use (A := args) rfl hC.2.2.2.2.1)
  cases c4.symm.trans f1
  have hH : H[t]? = some cell := by rw [hS.2.1 t (Array.getElem?_eq_some_iff.mp c1).1 c6]; exact c1
  have hAr : ArrOfT s cell.cls .int := by rw [← hcI]; exact (hK.2 1 (G0.2.1 9, .int) rfl).1
  intro T hT X
  have hcellT : T.heap[t]? = some cell := by rw [hT]; exact hH
  obtain ⟨-, kA, hkA, comp, hkind⟩ := State.isArrayOf_alike X.warmed.alike (hAr 0 (fun _ => .null))
  obtain ⟨-, kS, hkS, compS, hkindS⟩ := hAr 0 (fun _ => .null)
  have hown5 : s.vm.findClass RX5 = some m.cls := by rw [ho]; exact hown
  obtain ⟨vm', X', st'⟩ := X.cloneArray hx hown5 (hts _ zcln.1) (hts _ zcln.2.1) (hts _ zcln.2.2.1) (hts _ zcln.2.2.2.1) (hts _ zcln.2.2.2.2) (a := t) (cell := cell) hcellT c2 c3 c4 f2 f3
    (fun i v hv => by
      have hk' : T.vm.classes[cell.cls]? = some kA := hkA
      have hfit : fits .int v = true := by
        rw [c5] at hv
        obtain ⟨hi, hv⟩ := Array.getElem?_eq_some_iff.mp hv
        rw [← hv]; simp; rfl
      simpa [State.fitsSlot, State.slotType?, hk', hkind] using hfit)
    (g := F0 m pc ls (.ref t :: st)) rfl (hl.1.trans hml.symm) rfl (by rw [hb]; exact hd) hf (by show 2 * 0 + _ + 14 ≤ _; omega) hcells (by rw [hsz]; exact hslots) (hloader := Vm.clonesLoader_of_array hkS hkindS)
  rw [hcellE, hsz] at X'
  generalize hH1 : H.push (vp_cell (G0.2.1 9) (4, .inl f)) = H1
  have z1 : H1.size = H.size + 1 := by rw [← hH1, Array.size_push]
  have e1 : H1[H.size]? = some (vp_cell (G0.2.1 9) (4, .inl f)) := by rw [← hH1, Array.getElem?_push_size]
  have o1 : ∀ q : Nat, q < H.size → H1[q]? = H[q]? := fun q hq => by rw [← hH1, Array.getElem?_push, if_neg (Nat.ne_of_lt hq)]
  have hP1 : va_P G0.1 vwCl (va_pl L (zF (gx G0 sh L) mm) ++ [(H.size, .inl (G0.2.1 9, 4, .inl f))]) H1 := (hP.kept (fun k x hx => o1 x.1 ((hP k x hx).lt))).app (fun k x hx => by
      have hz : k < 1 := (List.getElem?_eq_some_iff.mp hx).1
      rw [show k = 0 by omega] at hx
      cases hx
      exact e1)
  have hD1 := (zDX hN hL (zF (gx G0 sh L) mm)).push (e := .inl (G0.2.1 9, 4, .inl f)) hP rfl (hA _ hS.1)
  have hS1 : va_S (A s) s.heap H1 locs := ⟨Nat.le_trans hS.1 (by omega), fun x h1 h2 => (o1 x (Nat.lt_of_lt_of_le h1 hS.1)).trans (hS.2.1 x h1 h2), hS.2.2⟩
  obtain ⟨g1, g2, g3, g4⟩ := zx_push (9, 4) (fun j => .int (f j)) (zF_newI (k := 9) (g := f) (by decide) (by decide)) hN hL hP1 hD1
  obtain ⟨t2, b1, b2⟩ := kk H.size g1 p e s m args below meth c H1 locs ls hx hb hml hrt hown hlk hts hK hC hA hKp hl g2 g3 g4 hS1 ((T.setVm vm').pushCell (vp_cell (G0.2.1 9) (4, .inl f))) (by rw [← hH1, ← hT]; rfl) X'
  refine ⟨t2, st' t2 ?_, b2⟩
  rw [hcellE, hT]
  exact b1
end ZX2
