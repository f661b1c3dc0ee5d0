/-! ===== a walk in which cells are made: the world grows ===== -/
abbrev gx (G0 : zG) (sh : Nat → Nat × Nat) (L : List Nat) : zG := (G0.1, G0.2.1, sh, L, G0.2.2.2.2)
def shU (sh : Nat → Nat × Nat) (a : Nat) (x : Nat × Nat) : Nat → Nat × Nat := fun b => if b = a then x else sh b
def mmU (mm : zM) (a : Nat) (f : Nat → Value) : zM := fun b j => if b = a then f j else mm b j
/-- a table of four numbers that is a constant of the class -/
def zFz (nm : String) (t : Nat) (f : Nat → Int32) (A : Nat → Prop) (U : State) (H : Heap) : Prop := va_Z "RightsDesk" nm "[I" (.ref t) A U H ∧ ∃ cell : Cell, H[t]? = some cell ∧ (∀ k, cell.vm ≠ .statics k) ∧ cell.vm ≠ .unknown ∧ U.vm.findClass "[I" = some cell.cls ∧ cell.slots = Array.ofFn (n := 4) (fun j => Value.int (f j.val)) ∧ ¬ A t
theorem zFz.moved {nm : String} {t : Nat} {f : Nat → Int32} {A : Nat → Prop} {u U : State} {H : Heap} (hvm : u.vm.Alike U.vm) (h : zFz nm t f A u H) : zFz nm t f A U H := by
  obtain ⟨h0, cell, h1, h2, h3, h4, h5, h6⟩ := h
  exact ⟨h0.moved hvm, cell, h1, h2, h3, by rw [hvm.findClass]; exact h4, h5, h6⟩
theorem zFz.kept {nm : String} {t : Nat} {f : Nat → Int32} {A : Nat → Prop} {U : State} {H H1 : Heap} (h : zFz nm t f A U H) (hq : ∀ a : Nat, a < H.size → ¬ A a → H1[a]? = H[a]?) : zFz nm t f A U H1 := by
  obtain ⟨h0, cell, h1, h2, h3, h4, h5, h6⟩ := h
  exact ⟨h0.kept hq, cell, by rw [hq t (Array.getElem?_eq_some_iff.mp h1).1 h6]; exact h1, h2, h3, h4, h5, h6⟩
theorem zFz.narrow {nm : String} {t : Nat} {f : Nat → Int32} {A B : Nat → Prop} {U : State} {H : Heap} (h : zFz nm t f A U H) (hAB : ∀ q, B q → A q) : zFz nm t f B U H := by
  obtain ⟨h0, cell, h1, h2, h3, h4, h5, h6⟩ := h
  exact ⟨h0.narrow hAB, cell, h1, h2, h3, h4, h5, fun z => h6 (hAB t z)⟩
def zF0 : Nat → Int32 := fun j => if j = 0 then 3 else if j = 1 then 10 else if j = 2 then 20 else 500
def zF1 : Nat → Int32 := fun j => if j = 0 then 30 else if j = 1 then 14 else if j = 2 then 7 else 0
def zF2 : Nat → Int32 := fun j => if j = 0 then 10 else if j = 1 then 30 else if j = 2 then 60 else 100
/-- what constructors want of the tables and of the constants -/
def zCs (τ : Nat → Nat) (A : Nat → Prop) (U : State) (H : Heap) : Prop := zNest U ∧ zFz "FIRST_NUMBERS" (τ 0) zF0 A U H ∧ zFz "FIRST_STAGE_DAYS" (τ 1) zF1 A U H ∧ zFz "FIRST_STAGE_FEES" (τ 2) zF2 A U H ∧ va_Nw (.castable "[I" "java/lang/Cloneable") U ∧ va_AO RX0 U ∧ va_AO RX1 U ∧ va_AO RX4 U ∧ va_AO RX5 U
theorem zCs.go {τ : Nat → Nat} {A B : Nat → Prop} {s U : State} {H : Heap} (h : zCs τ A s s.heap) (hq : ∀ a : Nat, a < s.heap.size → ¬ A a → H[a]? = s.heap[a]?) (hU : U.heap = H) (hW : s.WarmedH U.vm) (hAB : ∀ q, B q → A q) : zCs τ B U U.heap := by
  obtain ⟨h1, h2, h3, h4, h5, h6, h7, h8, h9⟩ := h
  rw [hU]
  exact ⟨h1.warm hW, ((h2.kept hq).moved hW.alike).narrow hAB, ((h3.kept hq).moved hW.alike).narrow hAB, ((h4.kept hq).moved hW.alike).narrow hAB, va_Nw.warmC hW h5, h6.moved hW.alike, h7.moved hW.alike, h8.moved hW.alike, h9.moved hW.alike⟩
theorem zCs.same {τ : Nat → Nat} {A : Nat → Prop} {u U : State} {H : Heap} (e : u.vm = U.vm) (hA : u.vm.Alike U.vm) (h : zCs τ A u H) : zCs τ A U H := by
  obtain ⟨h1, h2, h3, h4, h5, h6, h7, h8, h9⟩ := h
  exact ⟨h1.same e, h2.moved hA, h3.moved hA, h4.moved hA, va_Nw.same rfl e h5, h6.moved hA, h7.moved hA, h8.moved hA, h9.moved hA⟩
theorem zDX {A : Nat → Prop} {L : List Nat} (h : L.Nodup) (hL : ∀ a, a ∈ L → A a) (f : Nat → va_E) : va_D A (va_pl L f) :=
  (zD (G := ((fun _ => 0, fun _ _ => 0), fun _ => 0, fun _ => (0, 0), L, 0, 0)) h f).weaken (fun k q hk hq => hL _ hq)
/-- the walk: made so far: cells, slots -/
def zX (l : Launch) (G0 : zG) (τ : Nat → Nat) (Md : zMd) (R : Room) (Kp : Method → Prop) (F : List Frame → Array Value → State → State → Prop) (A : State → Nat → Prop) (pc : Nat) (lv : List (Option Value)) (st : List Value) (sh : Nat → Nat × Nat) (L : List Nat) (mm : zM) (cells slots : Nat) : Prop :=
  ∀ (p : Program) (e : Env) (s : State) (m : MethodId) (args : Array Value) (below : List Frame) (meth : Method) (c : Code) (H : Heap) (locs : List Loc) (ls : Array Slot),
    p.tables.exec = Jvm.exec → c.code = Md.2.1 → c.maxLocals = Md.2.2.1 → meth.sig.returnType = Md.2.2.2 → s.vm.findClass Md.1.cls = some m.cls → meth.locks = false → (∀ w ∈ zU, w.before args s = true) → va_K G0.1 vwCl (zT G0) s → zCs τ (A s) s s.heap → (∀ q, s.heap.size ≤ q → A s q) → Kp meth →
    zLv ls Md.2.2.1 lv → L.Nodup → (∀ a, a ∈ L → A s a) → va_P G0.1 vwCl (va_pl L (zF (gx G0 sh L) mm)) H → va_S (A s) s.heap H locs → W p l e R s m args below meth c H locs cells slots (F below args s) (F0 m pc ls st)
section ZX
variable {l : Launch} {G0 : zG} {τ : Nat → Nat} {y : MethodName} {cc : ByteArray} {nL : Nat} {ret : Option FieldType} {R : Room} {Kp : Method → Prop} {F : List Frame → Array Value → State → State → Prop} {A : State → Nat → Prop} {pc : Nat} {lv : List (Option Value)} {st : List Value} {sh : Nat → Nat × Nat} {L : List Nat} {mm : zM} {cells slots : Nat}
theorem x_iconst (v : Int32) {n : Int} (hd : decode cc pc = .ok (.iconst n, 1)) (hv : Int32.ofInt n = v) (k : zX l G0 τ (y, cc, nL, ret) R Kp F A (pc + 1) lv (.int v :: st) sh L mm cells slots) : zX l G0 τ (y, cc, nL, ret) R Kp F A pc lv st sh L mm cells slots := by
  intro p e s m args below meth c H locs ls hx hb hml hrt hown hlk hts hK hC hA hKp hl hN hL hP hS
  exact lv_iconst hx hb hd hv (k p e s m args below meth c H locs ls hx hb hml hrt hown hlk hts hK hC hA hKp hl hN hL hP hS)
theorem x_bipush (v : Int32) {n : Int} (hd : decode cc pc = .ok (.bipush n, 2)) (hv : (Int8.ofInt n).toInt32 = v) (k : zX l G0 τ (y, cc, nL, ret) R Kp F A (pc + 2) lv (.int v :: st) sh L mm cells slots) : zX l G0 τ (y, cc, nL, ret) R Kp F A pc lv st sh L mm cells slots := by
  intro p e s m args below meth c H locs ls hx hb hml hrt hown hlk hts hK hC hA hKp hl hN hL hP hS
  exact lv_bipush hx hb hd hv (k p e s m args below meth c H locs ls hx hb hml hrt hown hlk hts hK hC hA hKp hl hN hL hP hS)
theorem x_sipush (v : Int32) {n : Int} (hd : decode cc pc = .ok (.sipush n, 3)) (hv : (Int16.ofInt n).toInt32 = v) (k : zX l G0 τ (y, cc, nL, ret) R Kp F A (pc + 3) lv (.int v :: st) sh L mm cells slots) : zX l G0 τ (y, cc, nL, ret) R Kp F A pc lv st sh L mm cells slots := by
  intro p e s m args below meth c H locs ls hx hb hml hrt hown hlk hts hK hC hA hKp hl hN hL hP hS
  exact lv_sipush hx hb hd hv (k p e s m args below meth c H locs ls hx hb hml hrt hown hlk hts hK hC hA hKp hl hN hL hP hS)
theorem x_dup {v : Value} (hd : decode cc pc = .ok (.dup, 1)) (hv : v.category = 1) (k : zX l G0 τ (y, cc, nL, ret) R Kp F A (pc + 1) lv (v :: v :: st) sh L mm cells slots) : zX l G0 τ (y, cc, nL, ret) R Kp F A pc lv (v :: st) sh L mm cells slots := by
  intro p e s m args below meth c H locs ls hx hb hml hrt hown hlk hts hK hC hA hKp hl hN hL hP hS
  exact lv_dup hx hb hd hv (k p e s m args below meth c H locs ls hx hb hml hrt hown hlk hts hK hC hA hKp hl hN hL hP hS)
theorem x_pop {v : Value} (hd : decode cc pc = .ok (.pop, 1)) (hv : v.category = 1) (k : zX l G0 τ (y, cc, nL, ret) R Kp F A (pc + 1) lv st sh L mm cells slots) : zX l G0 τ (y, cc, nL, ret) R Kp F A pc lv (v :: st) sh L mm cells slots := by
  intro p e s m args below meth c H locs ls hx hb hml hrt hown hlk hts hK hC hA hKp hl hN hL hP hS
  exact lv_pop hx hb hd hv (k p e s m args below meth c H locs ls hx hb hml hrt hown hlk hts hK hC hA hKp hl hN hL hP hS)
theorem x_iadd {a b : Int32} (hd : decode cc pc = .ok (.iadd, 1)) (k : zX l G0 τ (y, cc, nL, ret) R Kp F A (pc + 1) lv (.int (a + b) :: st) sh L mm cells slots) : zX l G0 τ (y, cc, nL, ret) R Kp F A pc lv (.int b :: .int a :: st) sh L mm cells slots := by
  intro p e s m args below meth c H locs ls hx hb hml hrt hown hlk hts hK hC hA hKp hl hN hL hP hS
  exact lv_iadd hx hb hd (k p e s m args below meth c H locs ls hx hb hml hrt hown hlk hts hK hC hA hKp hl hN hL hP hS)
theorem x_isub {a b : Int32} (hd : decode cc pc = .ok (.isub, 1)) (k : zX l G0 τ (y, cc, nL, ret) R Kp F A (pc + 1) lv (.int (a - b) :: st) sh L mm cells slots) : zX l G0 τ (y, cc, nL, ret) R Kp F A pc lv (.int b :: .int a :: st) sh L mm cells slots := by
  intro p e s m args below meth c H locs ls hx hb hml hrt hown hlk hts hK hC hA hKp hl hN hL hP hS
  exact lv_isub hx hb hd (k p e s m args below meth c H locs ls hx hb hml hrt hown hlk hts hK hC hA hKp hl hN hL hP hS)
theorem x_iand {a b : Int32} (hd : decode cc pc = .ok (.iand, 1)) (k : zX l G0 τ (y, cc, nL, ret) R Kp F A (pc + 1) lv (.int (a &&& b) :: st) sh L mm cells slots) : zX l G0 τ (y, cc, nL, ret) R Kp F A pc lv (.int b :: .int a :: st) sh L mm cells slots := by
  intro p e s m args below meth c H locs ls hx hb hml hrt hown hlk hts hK hC hA hKp hl hN hL hP hS
  exact lv_iand hx hb hd (k p e s m args below meth c H locs ls hx hb hml hrt hown hlk hts hK hC hA hKp hl hN hL hP hS)
theorem x_i2c {a : Int32} (v : Int32) (hd : decode cc pc = .ok (.i2c, 1)) (hv : (a.toUInt32 % 65536).toInt32 = v) (k : zX l G0 τ (y, cc, nL, ret) R Kp F A (pc + 1) lv (.int v :: st) sh L mm cells slots) : zX l G0 τ (y, cc, nL, ret) R Kp F A pc lv (.int a :: st) sh L mm cells slots := by
  intro p e s m args below meth c H locs ls hx hb hml hrt hown hlk hts hK hC hA hKp hl hN hL hP hS
  exact lv_i2c hx hb hd hv (k p e s m args below meth c H locs ls hx hb hml hrt hown hlk hts hK hC hA hKp hl hN hL hP hS)
theorem x_goto {off : Int} (tgt : Nat) (hd : decode cc pc = .ok (.goto off, 3)) (ht : (pc : Int) + off = (tgt : Int)) (k : zX l G0 τ (y, cc, nL, ret) R Kp F A tgt lv st sh L mm cells slots) : zX l G0 τ (y, cc, nL, ret) R Kp F A pc lv st sh L mm cells slots := by
  intro p e s m args below meth c H locs ls hx hb hml hrt hown hlk hts hK hC hA hKp hl hN hL hP hS
  exact lv_goto hx hb hd ht (k p e s m args below meth c H locs ls hx hb hml hrt hown hlk hts hK hC hA hKp hl hN hL hP hS)
theorem x_iload_n {x : Int32} {k4 : Fin 4} (i : Nat) (hi : (k4 : Nat) = i) (hv : lv[i]? = some (some (.int x))) (hd : decode cc pc = .ok (.iload_n k4, 1)) (k : zX l G0 τ (y, cc, nL, ret) R Kp F A (pc + 1) lv (.int x :: st) sh L mm cells slots) : zX l G0 τ (y, cc, nL, ret) R Kp F A pc lv st sh L mm cells slots := by
  intro p e s m args below meth c H locs ls hx hb hml hrt hown hlk hts hK hC hA hKp hl hN hL hP hS
  exact lv_iload_n hx hb hd hi (hl.at hv) (k p e s m args below meth c H locs ls hx hb hml hrt hown hlk hts hK hC hA hKp hl hN hL hP hS)
theorem x_iload {x : Int32} (i : Nat) (hv : lv[i]? = some (some (.int x))) (hd : decode cc pc = .ok (.iload i, 2)) (k : zX l G0 τ (y, cc, nL, ret) R Kp F A (pc + 2) lv (.int x :: st) sh L mm cells slots) : zX l G0 τ (y, cc, nL, ret) R Kp F A pc lv st sh L mm cells slots := by
  intro p e s m args below meth c H locs ls hx hb hml hrt hown hlk hts hK hC hA hKp hl hN hL hP hS
  exact lv_iload hx hb hd (hl.at hv) (k p e s m args below meth c H locs ls hx hb hml hrt hown hlk hts hK hC hA hKp hl hN hL hP hS)
theorem x_aload_n {x : Nat} {k4 : Fin 4} (i : Nat) (hi : (k4 : Nat) = i) (hv : lv[i]? = some (some (.ref x))) (hd : decode cc pc = .ok (.aload_n k4, 1)) (k : zX l G0 τ (y, cc, nL, ret) R Kp F A (pc + 1) lv (.ref x :: st) sh L mm cells slots) : zX l G0 τ (y, cc, nL, ret) R Kp F A pc lv st sh L mm cells slots := by
  intro p e s m args below meth c H locs ls hx hb hml hrt hown hlk hts hK hC hA hKp hl hN hL hP hS
  exact lv_aload_n hx hb hd hi (hl.at hv) (k p e s m args below meth c H locs ls hx hb hml hrt hown hlk hts hK hC hA hKp hl hN hL hP hS)
theorem x_aload {x : Nat} (i : Nat) (hv : lv[i]? = some (some (.ref x))) (hd : decode cc pc = .ok (.aload i, 2)) (k : zX l G0 τ (y, cc, nL, ret) R Kp F A (pc + 2) lv (.ref x :: st) sh L mm cells slots) : zX l G0 τ (y, cc, nL, ret) R Kp F A pc lv st sh L mm cells slots := by
  intro p e s m args below meth c H locs ls hx hb hml hrt hown hlk hts hK hC hA hKp hl hN hL hP hS
  exact lv_aload hx hb hd (hl.at hv) (k p e s m args below meth c H locs ls hx hb hml hrt hown hlk hts hK hC hA hKp hl hN hL hP hS)
theorem x_istore_n {x : Int32} {k4 : Fin 4} (i : Nat) {lv' : List (Option Value)} (hi : (k4 : Nat) = i) (hn : i < lv.length) (he : lv.set i (some (.int x)) = lv') (hd : decode cc pc = .ok (.istore_n k4, 1)) (k : zX l G0 τ (y, cc, nL, ret) R Kp F A (pc + 1) lv' st sh L mm cells slots) : zX l G0 τ (y, cc, nL, ret) R Kp F A pc lv (.int x :: st) sh L mm cells slots := by
  intro p e s m args below meth c H locs ls hx hb hml hrt hown hlk hts hK hC hA hKp hl hN hL hP hS
  subst he
  exact lv_istore_n hx hb hd hi hl.has (by rw [← hl.2.2.1]; exact hn) rfl (fun ls' h' => k p e s m args below meth c H locs ls' hx hb hml hrt hown hlk hts hK hC hA hKp (hl.upd rfl hn h') hN hL hP hS)
theorem x_istore {x : Int32} (i : Nat) {lv' : List (Option Value)} (hn : i < lv.length) (he : lv.set i (some (.int x)) = lv') (hd : decode cc pc = .ok (.istore i, 2)) (k : zX l G0 τ (y, cc, nL, ret) R Kp F A (pc + 2) lv' st sh L mm cells slots) : zX l G0 τ (y, cc, nL, ret) R Kp F A pc lv (.int x :: st) sh L mm cells slots := by
  intro p e s m args below meth c H locs ls hx hb hml hrt hown hlk hts hK hC hA hKp hl hN hL hP hS
  subst he
  exact lv_istore hx hb hd hl.has (by rw [← hl.2.2.1]; exact hn) rfl (fun ls' h' => k p e s m args below meth c H locs ls' hx hb hml hrt hown hlk hts hK hC hA hKp (hl.upd rfl hn h') hN hL hP hS)
theorem x_astore_n {x : Nat} {k4 : Fin 4} (i : Nat) {lv' : List (Option Value)} (hi : (k4 : Nat) = i) (hn : i < lv.length) (he : lv.set i (some (.ref x)) = lv') (hd : decode cc pc = .ok (.astore_n k4, 1)) (k : zX l G0 τ (y, cc, nL, ret) R Kp F A (pc + 1) lv' st sh L mm cells slots) : zX l G0 τ (y, cc, nL, ret) R Kp F A pc lv (.ref x :: st) sh L mm cells slots := by
  intro p e s m args below meth c H locs ls hx hb hml hrt hown hlk hts hK hC hA hKp hl hN hL hP hS
  subst he
  exact lv_astore_n hx hb hd hi hl.has (by rw [← hl.2.2.1]; exact hn) rfl (fun ls' h' => k p e s m args below meth c H locs ls' hx hb hml hrt hown hlk hts hK hC hA hKp (hl.upd rfl hn h') hN hL hP hS)
theorem x_astore {x : Nat} (i : Nat) {lv' : List (Option Value)} (hn : i < lv.length) (he : lv.set i (some (.ref x)) = lv') (hd : decode cc pc = .ok (.astore i, 2)) (k : zX l G0 τ (y, cc, nL, ret) R Kp F A (pc + 2) lv' st sh L mm cells slots) : zX l G0 τ (y, cc, nL, ret) R Kp F A pc lv (.ref x :: st) sh L mm cells slots := by
  intro p e s m args below meth c H locs ls hx hb hml hrt hown hlk hts hK hC hA hKp hl hN hL hP hS
  subst he
  exact lv_astore hx hb hd hl.has (by rw [← hl.2.2.1]; exact hn) rfl (fun ls' h' => k p e s m args below meth c H locs ls' hx hb hml hrt hown hlk hts hK hC hA hKp (hl.upd rfl hn h') hN hL hP hS)
theorem x_iinc {x v : Int32} {n : Int} (i : Nat) {lv' : List (Option Value)} (hi : lv[i]? = some (some (.int x))) (hv : x + Int32.ofInt n = v) (he : lv.set i (some (.int v)) = lv') (hd : decode cc pc = .ok (.iinc i n, 3)) (k : zX l G0 τ (y, cc, nL, ret) R Kp F A (pc + 3) lv' st sh L mm cells slots) : zX l G0 τ (y, cc, nL, ret) R Kp F A pc lv st sh L mm cells slots := by
  intro p e s m args below meth c H locs ls hx hb hml hrt hown hlk hts hK hC hA hKp hl hN hL hP hS
  subst he
  have hn : i < lv.length := (List.getElem?_eq_some_iff.mp hi).1
  obtain ⟨k0, hk0⟩ := List.getElem?_of_mem (zps_mem.mpr hi)
  exact lv_iinc hx hb hd hl.has hk0 hv (by rw [← hl.2.2.1]; exact hn) rfl (fun ls' h' => k p e s m args below meth c H locs ls' hx hb hml hrt hown hlk hts hK hC hA hKp (hl.upd rfl hn h') hN hL hP hS)
theorem x_icmp_eq {a b : Int32} {off : Int} (tgt : Nat) (hd : decode cc pc = .ok (.if_icmp .eq off, 3)) (ht : (pc : Int) + off = (tgt : Int)) (kt : a = b → zX l G0 τ (y, cc, nL, ret) R Kp F A tgt lv st sh L mm cells slots) (kf : ¬ a = b → zX l G0 τ (y, cc, nL, ret) R Kp F A (pc + 3) lv st sh L mm cells slots) : zX l G0 τ (y, cc, nL, ret) R Kp F A pc lv (.int b :: .int a :: st) sh L mm cells slots := by
  intro p e s m args below meth c H locs ls hx hb hml hrt hown hlk hts hK hC hA hKp hl hN hL hP hS
  exact lv_icmp_eq hx hb hd ht (fun h => kt h p e s m args below meth c H locs ls hx hb hml hrt hown hlk hts hK hC hA hKp hl hN hL hP hS) (fun h => kf h p e s m args below meth c H locs ls hx hb hml hrt hown hlk hts hK hC hA hKp hl hN hL hP hS)
theorem x_icmp_ne {a b : Int32} {off : Int} (tgt : Nat) (hd : decode cc pc = .ok (.if_icmp .ne off, 3)) (ht : (pc : Int) + off = (tgt : Int)) (kt : ¬ a = b → zX l G0 τ (y, cc, nL, ret) R Kp F A tgt lv st sh L mm cells slots) (kf : a = b → zX l G0 τ (y, cc, nL, ret) R Kp F A (pc + 3) lv st sh L mm cells slots) : zX l G0 τ (y, cc, nL, ret) R Kp F A pc lv (.int b :: .int a :: st) sh L mm cells slots := by
  intro p e s m args below meth c H locs ls hx hb hml hrt hown hlk hts hK hC hA hKp hl hN hL hP hS
  exact lv_icmp_ne hx hb hd ht (fun h => kt h p e s m args below meth c H locs ls hx hb hml hrt hown hlk hts hK hC hA hKp hl hN hL hP hS) (fun h => kf h p e s m args below meth c H locs ls hx hb hml hrt hown hlk hts hK hC hA hKp hl hN hL hP hS)
theorem x_icmp_ge {a b : Int32} {off : Int} (tgt : Nat) (hd : decode cc pc = .ok (.if_icmp .ge off, 3)) (ht : (pc : Int) + off = (tgt : Int)) (kt : b ≤ a → zX l G0 τ (y, cc, nL, ret) R Kp F A tgt lv st sh L mm cells slots) (kf : ¬ b ≤ a → zX l G0 τ (y, cc, nL, ret) R Kp F A (pc + 3) lv st sh L mm cells slots) : zX l G0 τ (y, cc, nL, ret) R Kp F A pc lv (.int b :: .int a :: st) sh L mm cells slots := by
  intro p e s m args below meth c H locs ls hx hb hml hrt hown hlk hts hK hC hA hKp hl hN hL hP hS
  exact lv_icmp_ge hx hb hd ht (fun h => kt h p e s m args below meth c H locs ls hx hb hml hrt hown hlk hts hK hC hA hKp hl hN hL hP hS) (fun h => kf h p e s m args below meth c H locs ls hx hb hml hrt hown hlk hts hK hC hA hKp hl hN hL hP hS)
theorem x_icmp_le {a b : Int32} {off : Int} (tgt : Nat) (hd : decode cc pc = .ok (.if_icmp .le off, 3)) (ht : (pc : Int) + off = (tgt : Int)) (kt : a ≤ b → zX l G0 τ (y, cc, nL, ret) R Kp F A tgt lv st sh L mm cells slots) (kf : ¬ a ≤ b → zX l G0 τ (y, cc, nL, ret) R Kp F A (pc + 3) lv st sh L mm cells slots) : zX l G0 τ (y, cc, nL, ret) R Kp F A pc lv (.int b :: .int a :: st) sh L mm cells slots := by
  intro p e s m args below meth c H locs ls hx hb hml hrt hown hlk hts hK hC hA hKp hl hN hL hP hS
  exact lv_icmp_le hx hb hd ht (fun h => kt h p e s m args below meth c H locs ls hx hb hml hrt hown hlk hts hK hC hA hKp hl hN hL hP hS) (fun h => kf h p e s m args below meth c H locs ls hx hb hml hrt hown hlk hts hK hC hA hKp hl hN hL hP hS)
theorem x_icmp_gt {a b : Int32} {off : Int} (tgt : Nat) (hd : decode cc pc = .ok (.if_icmp .gt off, 3)) (ht : (pc : Int) + off = (tgt : Int)) (kt : b < a → zX l G0 τ (y, cc, nL, ret) R Kp F A tgt lv st sh L mm cells slots) (kf : ¬ b < a → zX l G0 τ (y, cc, nL, ret) R Kp F A (pc + 3) lv st sh L mm cells slots) : zX l G0 τ (y, cc, nL, ret) R Kp F A pc lv (.int b :: .int a :: st) sh L mm cells slots := by
  intro p e s m args below meth c H locs ls hx hb hml hrt hown hlk hts hK hC hA hKp hl hN hL hP hS
  exact lv_icmp_gt hx hb hd ht (fun h => kt h p e s m args below meth c H locs ls hx hb hml hrt hown hlk hts hK hC hA hKp hl hN hL hP hS) (fun h => kf h p e s m args below meth c H locs ls hx hb hml hrt hown hlk hts hK hC hA hKp hl hN hL hP hS)
theorem x_icmp_lt {a b : Int32} {off : Int} (tgt : Nat) (hd : decode cc pc = .ok (.if_icmp .lt off, 3)) (ht : (pc : Int) + off = (tgt : Int)) (kt : a < b → zX l G0 τ (y, cc, nL, ret) R Kp F A tgt lv st sh L mm cells slots) (kf : ¬ a < b → zX l G0 τ (y, cc, nL, ret) R Kp F A (pc + 3) lv st sh L mm cells slots) : zX l G0 τ (y, cc, nL, ret) R Kp F A pc lv (.int b :: .int a :: st) sh L mm cells slots := by
  intro p e s m args below meth c H locs ls hx hb hml hrt hown hlk hts hK hC hA hKp hl hN hL hP hS
  exact lv_icmp_lt hx hb hd ht (fun h => kt h p e s m args below meth c H locs ls hx hb hml hrt hown hlk hts hK hC hA hKp hl hN hL hP hS) (fun h => kf h p e s m args below meth c H locs ls hx hb hml hrt hown hlk hts hK hC hA hKp hl hN hL hP hS)
theorem x_tableOut {dflt lo hi : Int} {offs : Array Int} {len : Nat} {x : Int32} (tgt : Nat) (hd : decode cc pc = .ok (.tableswitch dflt lo hi offs, len)) (h : x.toInt < lo ∨ hi < x.toInt) (ht : (pc : Int) + dflt = (tgt : Int)) (k : zX l G0 τ (y, cc, nL, ret) R Kp F A tgt lv st sh L mm cells slots) : zX l G0 τ (y, cc, nL, ret) R Kp F A pc lv (.int x :: st) sh L mm cells slots := by
  intro p e s m args below meth c H locs ls hx hb hml hrt hown hlk hts hK hC hA hKp hl hN hL hP hS
  exact lv_tableOut hx hb hd h ht (k p e s m args below meth c H locs ls hx hb hml hrt hown hlk hts hK hC hA hKp hl hN hL hP hS)
theorem x_tableIn {dflt lo hi : Int} {offs : Array Int} {len : Nat} {x : Int32} {off : Int} (tgt : Nat) (hd : decode cc pc = .ok (.tableswitch dflt lo hi offs, len)) (h1 : ¬ x.toInt < lo) (h2 : ¬ hi < x.toInt) (ho : offs[(x.toInt - lo).toNat]? = some off) (ht : (pc : Int) + off = (tgt : Int)) (k : zX l G0 τ (y, cc, nL, ret) R Kp F A tgt lv st sh L mm cells slots) : zX l G0 τ (y, cc, nL, ret) R Kp F A pc lv (.int x :: st) sh L mm cells slots := by
  intro p e s m args below meth c H locs ls hx hb hml hrt hown hlk hts hK hC hA hKp hl hN hL hP hS
  exact lv_tableIn hx hb hd h1 h2 ho ht (k p e s m args below meth c H locs ls hx hb hml hrt hown hlk hts hK hC hA hKp hl hN hL hP hS)
theorem x_get {C : String} {T : u_T} {N ci ix k a : Nat} {own : String} {v : Value} (hin : ∀ w ∈ u_ws C T N, w ∈ zU) (hc : vwCl[ci]? = some (C, T, N)) (hci : ci < 8) (hk : k < N) (hself : (T k).1 = C) (ho : own = y.cls) (hlink : Cond.fieldLink own ix C (T k).2.1 (T k).2.2.1 ∈ zU) (ha : a ∈ L) (hsh : sh a = (ci, N)) (hv : mm a k = v) (hd : decode cc pc = .ok (.getfield ix, 3)) (kk : zX l G0 τ (y, cc, nL, ret) R Kp F A (pc + 3) lv (v :: st) sh L mm cells slots) : zX l G0 τ (y, cc, nL, ret) R Kp F A pc lv (.ref a :: st) sh L mm cells slots := by
  intro p e s m args below meth c H locs ls hx hb hml hrt hown hlk hts hK hC hA hKp hl hN hL hP hS
  subst ho
  obtain ⟨q0, he⟩ := z_pl (G := gx G0 sh L) (mm := mm) ha
  rw [zF_obj (G := gx G0 sh L) hsh hci] at he
  exact va_get hx hb hts hin hown hK hP q0 he hc k hk (hts _ hlink) (fun x h => by rw [hself] at h; exact h) (by simp [hk, hv]) hd (kk p e s m args below meth c H locs ls hx hb hml hrt hown hlk hts hK hC hA hKp hl hN hL hP hS)
theorem x_put {C : String} {T : u_T} {N ci ix k a : Nat} {own : String} {v : Value} {ty0 : Nat → FieldType} {ty : FieldType} (hin : ∀ w ∈ u_ws C T N, w ∈ zU) (hty : ∀ k, k < N → parseFieldDescriptor (T k).2.2.1 = some (ty0 k)) (hnm : ∀ a, a < N → ∀ b, b < N → a ≠ b → (T a).2.1 ≠ (T b).2.1) (hc : vwCl[ci]? = some (C, T, N)) (hci : ci < 8) (hk : k < N) (hself : (T k).1 = C) (hfin : (T k).2.2.2 = false) (hds : parseFieldDescriptor (T k).2.2.1 = some ty) (hn : narrow ty v = v) (hfit : fits ty v = true) (ho : own = y.cls) (hlink : Cond.fieldLink own ix C (T k).2.1 (T k).2.2.1 ∈ zU) (ha : a ∈ L) (hsh : sh a = (ci, N)) (hd : decode cc pc = .ok (.putfield ix, 3)) (kk : zX l G0 τ (y, cc, nL, ret) R Kp F A (pc + 3) lv st sh L (zup mm a k v) cells slots) : zX l G0 τ (y, cc, nL, ret) R Kp F A pc lv (v :: .ref a :: st) sh L mm cells slots := by
  intro p e s m args below meth c H locs ls hx hb hml hrt hown hlk hts hK hC hA hKp hl hN hL hP hS
  subst ho
  obtain ⟨q0, he⟩ := z_pl (G := gx G0 sh L) (mm := mm) ha
  have he1 := he
  rw [zF_obj (G := gx G0 sh L) hsh hci] at he1
  refine va_put hx hb hts hin ty0 hty hnm hown hK hP (zDX hN hL _) hS q0 he1 hc k hk (hts _ hlink) (fun x h => by rw [hself] at h; exact h) hfin hds hn hfit (by simpa using hk) hd (fun H1 locs1 hP1 _ hS1 => ?_)
  rw [z_pl_set (G := gx G0 sh L) hN ha he (zF_put (G := gx G0 sh L) hsh hci v)] at hP1
  exact kk p e s m args below meth c H1 locs1 ls hx hb hml hrt hown hlk hts hK hC hA hKp hl hN hL hP1 hS1
theorem x_alen {a N k t0 : Nat} {ty : FieldType} (v : Int32) (ha : a ∈ L) (hsh : sh a = (k, N)) (hk : 8 ≤ k) (ht : (zT G0)[t0]? = some (G0.2.1 k, ty)) (hv : Int32.ofNat N = v) (hd : decode cc pc = .ok (.arraylength, 1)) (kk : zX l G0 τ (y, cc, nL, ret) R Kp F A (pc + 1) lv (.int v :: st) sh L mm cells slots) : zX l G0 τ (y, cc, nL, ret) R Kp F A pc lv (.ref a :: st) sh L mm cells slots := by
  intro p e s m args below meth c H locs ls hx hb hml hrt hown hlk hts hK hC hA hKp hl hN hL hP hS
  obtain ⟨q0, he⟩ := z_pl (G := gx G0 sh L) (mm := mm) ha
  by_cases h10 : k < 10
  · rw [zF_int (G := gx G0 sh L) hsh hk h10] at he
    exact va_alen hx hb hK hP q0 t0 he ht hv hd (kk p e s m args below meth c H locs ls hx hb hml hrt hown hlk hts hK hC hA hKp hl hN hL hP hS)
  · rw [zF_ref (G := gx G0 sh L) hsh (by omega)] at he
    exact va_alen hx hb hK hP q0 t0 he ht hv hd (kk p e s m args below meth c H locs ls hx hb hml hrt hown hlk hts hK hC hA hKp hl hN hL hP hS)
theorem x_aald {a n N k t0 b : Nat} {C : String} {i : Int32} (ha : a ∈ L) (hsh : sh a = (k, N)) (hk : 10 ≤ k) (ht : (zT G0)[t0]? = some (G0.2.1 k, .object C)) (hi : i = nI n) (hn : n < N) (hN31 : N < 2 ^ 31) (hv : mm a n = .ref b) (hd : decode cc pc = .ok (.aaload, 1)) (kk : zX l G0 τ (y, cc, nL, ret) R Kp F A (pc + 1) lv (.ref b :: st) sh L mm cells slots) : zX l G0 τ (y, cc, nL, ret) R Kp F A pc lv (.int i :: .ref a :: st) sh L mm cells slots := by
  intro p e s m args below meth c H locs ls hx hb hml hrt hown hlk hts hK hC hA hKp hl hN hL hP hS
  subst hi
  obtain ⟨q0, he⟩ := z_pl (G := gx G0 sh L) (mm := mm) ha
  rw [zF_ref (G := gx G0 sh L) hsh hk] at he
  refine va_aldq hx hb hK hP q0 t0 he ht (nI_in hn hN31) hd ?_
  rw [nI_clamp (by omega), hv]
  exact kk p e s m args below meth c H locs ls hx hb hml hrt hown hlk hts hK hC hA hKp hl hN hL hP hS
theorem x_iast {a n N : Nat} {i x : Int32} (ha : a ∈ L) (hsh : sh a = (9, N)) (hi : i = nI n) (hn : n < N) (hN31 : N < 2 ^ 31) (hd : decode cc pc = .ok (.iastore, 1)) (kk : zX l G0 τ (y, cc, nL, ret) R Kp F A (pc + 1) lv st sh L (zup mm a n (.int x)) cells slots) : zX l G0 τ (y, cc, nL, ret) R Kp F A pc lv (.int x :: .int i :: .ref a :: st) sh L mm cells slots := by
  intro p e s m args below meth c H locs ls hx hb hml hrt hown hlk hts hK hC hA hKp hl hN hL hP hS
  subst hi
  obtain ⟨q0, he⟩ := z_pl (G := gx G0 sh L) (mm := mm) ha
  have he1 := he
  rw [zF_int (G := gx G0 sh L) hsh (by decide) (by decide)] at he1
  refine va_iast hx hb hK hP (zDX hN hL _) hS q0 1 he1 rfl (nI_in hn hN31) hd (fun H1 locs1 hP1 _ hS1 => ?_)
  rw [nI_clamp (by omega)] at hP1
  rw [z_pl_set (G := gx G0 sh L) hN ha he (zF_putI (G := gx G0 sh L) hsh (by decide) (by decide) x)] at hP1
  exact kk p e s m args below meth c H1 locs1 ls hx hb hml hrt hown hlk hts hK hC hA hKp hl hN hL hP1 hS1
theorem x_aast {a n N k t0 b ci nb : Nat} {C : String} {T : u_T} {Nc : Nat} {i : Int32} (ha : a ∈ L) (hsh : sh a = (k, N)) (hk : 10 ≤ k) (ht : (zT G0)[t0]? = some (G0.2.1 k, .object C)) (hb2 : b ∈ L) (hshb : sh b = (ci, nb)) (hci : ci < 8) (hc : vwCl[ci]? = some (C, T, Nc)) (hi : i = nI n) (hn : n < N) (hN31 : N < 2 ^ 31) (hd : decode cc pc = .ok (.aastore, 1)) (kk : zX l G0 τ (y, cc, nL, ret) R Kp F A (pc + 1) lv st sh L (zup mm a n (.ref b)) cells slots) : zX l G0 τ (y, cc, nL, ret) R Kp F A pc lv (.ref b :: .int i :: .ref a :: st) sh L mm cells slots := by
  intro p e s m args below meth c H locs ls hx hb hml hrt hown hlk hts hK hC hA hKp hl hN hL hP hS
  subst hi
  obtain ⟨q0, he⟩ := z_pl (G := gx G0 sh L) (mm := mm) ha
  obtain ⟨q1, he2⟩ := z_pl (G := gx G0 sh L) (mm := mm) hb2
  rw [zF_obj (G := gx G0 sh L) hshb hci] at he2
  have he1 := he
  rw [zF_ref (G := gx G0 sh L) hsh hk] at he1
  refine va_astq (r := (C, T, Nc)) hx hb hK hP (zDX hN hL _) hS q0 t0 q1 ci he1 ht he2 hc (nI_in hn hN31) hd (fun H1 locs1 hP1 _ hS1 => ?_)
  rw [nI_clamp (by omega)] at hP1
  rw [z_pl_set (G := gx G0 sh L) hN ha he (zF_putR (G := gx G0 sh L) hsh hk b)] at hP1
  exact kk p e s m args below meth c H1 locs1 ls hx hb hml hrt hown hlk hts hK hC hA hKp hl hN hL hP1 hS1
end ZX
