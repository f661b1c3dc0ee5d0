/-! ===== the memory: address → place → value; the shapes; the world of all cells at once ===== -/
abbrev zM : Type := Nat → Nat → Value
/-- what the classes are, the array classes, the shape of each address (kind, size), the addresses -/
abbrev zG : Type := va_G × (Nat → ClassId) × (Nat → Nat × Nat) × List Nat × Nat × Nat
abbrev zsh (G : zG) : Nat → Nat × Nat := G.2.2.1
abbrev zL (G : zG) : List Nat := G.2.2.2.1
abbrev zA (G : zG) : Nat → Prop := fun q => q ∈ G.2.2.2.1
def zi (v : Value) : Int32 := match v with
  | .int x => x
  | _ => 0
def zr (v : Value) : Option Nat := match v with
  | .ref a => some a
  | _ => none
def zF (G : zG) (mm : zM) (a : Nat) : va_E :=
  if (zsh G a).1 < 8 then .inr ((zsh G a).1, (List.range (zsh G a).2).map (mm a))
  else if (zsh G a).1 < 10 then .inl (G.2.1 (zsh G a).1, (zsh G a).2, .inl (fun j => zi (mm a j)))
  else .inl (G.2.1 (zsh G a).1, (zsh G a).2, .inr (.inr (.inr (.inr (fun j => zr (mm a j))))))
def zT (G : zG) : List (ClassId × FieldType) := [(G.2.1 8, .char), (G.2.1 9, .int), (G.2.1 10, .object RX0), (G.2.1 11, .object RX1), (G.2.1 12, .object RX4), (G.2.1 13, .object RX5)]
def zup (mm : zM) (a k : Nat) (v : Value) : zM := fun b j => if b = a ∧ j = k then v else mm b j
theorem zup_eq (mm : zM) (a k : Nat) (v : Value) : zup mm a k v a k = v := by simp [zup]
theorem zup_ne {mm : zM} {a k : Nat} {v : Value} {b j : Nat} (h : ¬ (b = a ∧ j = k)) : zup mm a k v b j = mm b j := by simp [zup, h]
theorem zF_obj {G : zG} {mm : zM} {a ci n : Nat} (h : zsh G a = (ci, n)) (hc : ci < 8) : zF G mm a = .inr (ci, (List.range n).map (mm a)) := by
  unfold zF; rw [h]; simp [hc]
theorem zF_int {G : zG} {mm : zM} {a k n : Nat} (h : zsh G a = (k, n)) (h1 : 8 ≤ k) (h2 : k < 10) : zF G mm a = .inl (G.2.1 k, n, .inl (fun j => zi (mm a j))) := by
  unfold zF; rw [h]; simp [Nat.not_lt.mpr h1, h2]
theorem zF_ref {G : zG} {mm : zM} {a k n : Nat} (h : zsh G a = (k, n)) (h1 : 10 ≤ k) : zF G mm a = .inl (G.2.1 k, n, .inr (.inr (.inr (.inr (fun j => zr (mm a j)))))) := by
  unfold zF; rw [h]
  have e1 : ¬ k < 8 := by omega
  have e2 : ¬ k < 10 := by omega
  simp [e1, e2]
theorem zF_other {G : zG} {mm : zM} {a b k : Nat} {v : Value} (h : b ≠ a) : zF G (zup mm a k v) b = zF G mm b := by
  have e : zup mm a k v b = mm b := by funext j; exact zup_ne (fun q => h q.1)
  unfold zF; rw [e]
theorem zF_put {G : zG} {mm : zM} {a ci n k : Nat} (h : zsh G a = (ci, n)) (hc : ci < 8) (v : Value) (b : Nat) : va_up (zF G mm) a (.inr (ci, ((List.range n).map (mm a)).set k v)) b = zF G (zup mm a k v) b := by
  unfold va_up
  by_cases hb : b = a
  · subst hb
    rw [if_pos rfl, zF_obj h hc]
    congr 2
    apply List.ext_getElem?
    intro j
    by_cases hj : j = k
    · subst hj
      by_cases hn : j < n
      · rw [List.getElem?_set_self (by simpa using hn)]; simp [hn, zup]
      · rw [List.getElem?_eq_none (by simpa using hn), List.getElem?_eq_none (by simpa using hn)]
    · rw [List.getElem?_set_ne (Ne.symm hj)]
      rw [List.getElem?_map, List.getElem?_map]
      by_cases hn : j < n
      · rw [List.getElem?_range hn]; simp only [Option.map_some]; rw [zup_ne (fun q => hj q.2)]
      · rw [List.getElem?_eq_none (by simpa using hn)]; rfl
  · rw [if_neg hb, zF_other hb]
theorem zF_putI {G : zG} {mm : zM} {a c n k : Nat} (h : zsh G a = (c, n)) (h1 : 8 ≤ c) (h2 : c < 10) (x : Int32) (b : Nat) : va_up (zF G mm) a (.inl (G.2.1 c, n, .inl (upd (fun j => zi (mm a j)) k x))) b = zF G (zup mm a k (.int x)) b := by
  unfold va_up
  by_cases hb : b = a
  · subst hb
    rw [if_pos rfl, zF_int h h1 h2]
    congr 4
    funext j
    by_cases hj : j = k
    · subst hj; simp [upd, zup, zi]
    · rw [zup_ne (fun q => hj q.2)]; simp [upd, hj]
  · rw [if_neg hb, zF_other hb]
theorem zF_putR {G : zG} {mm : zM} {a c n k : Nat} (h : zsh G a = (c, n)) (h1 : 10 ≤ c) (x : Nat) (b : Nat) : va_up (zF G mm) a (.inl (G.2.1 c, n, .inr (.inr (.inr (.inr (va_up (fun j => zr (mm a j)) k (some x))))))) b = zF G (zup mm a k (.ref x)) b := by
  conv => lhs; unfold va_up
  by_cases hb : b = a
  · subst hb
    rw [if_pos rfl, zF_ref h h1]
    congr 7
    funext j
    by_cases hj : j = k
    · subst hj; simp [va_up, zup, zr]
    · rw [zup_ne (fun q => hj q.2)]; simp [va_up, hj]
  · rw [if_neg hb, zF_other hb]
/-- the statics that are read: the least and the greatest numbers -/
def zLow : Nat → Int32 := fun j => if j = 2 then 1 else 0
def zHigh : Nat → Int32 := fun j => if j = 0 then 9 else if j = 1 then 50 else if j = 2 then 60 else 9999
def zStat (G : zG) (U : State) (H : Heap) : Prop := (va_Z "RightsDesk" "LEAST_NUMBERS" "[I" (.ref G.2.2.2.2.1) (zA G) U H ∧ va_T .int G.2.2.2.2.1 4 (fun j => .int (zLow j)) (zA G) U H) ∧ va_Z "RightsDesk" "MOST_NUMBERS" "[I" (.ref G.2.2.2.2.2) (zA G) U H ∧ va_T .int G.2.2.2.2.2 4 (fun j => .int (zHigh j)) (zA G) U H
theorem zStat.moved {G : zG} {u U : State} {H : Heap} (hvm : u.vm.Alike U.vm) (h : zStat G u H) : zStat G U H := ⟨⟨h.1.1.moved hvm, h.1.2.moved hvm⟩, h.2.1.moved hvm, h.2.2.moved hvm⟩
theorem zStat.kept {G : zG} {U : State} {H H1 : Heap} (h : zStat G U H) (hq : ∀ a : Nat, a < H.size → ¬ zA G a → H1[a]? = H[a]?) : zStat G U H1 := ⟨⟨h.1.1.kept hq, h.1.2.kept hq⟩, h.2.1.kept hq, h.2.2.kept hq⟩
/-- the world -/
def zW (G : zG) (mm : zM) (U : State) : Prop := va_P G.1 vwCl (va_pl (zL G) (zF G mm)) U.heap ∧ va_K G.1 vwCl (zT G) U ∧ zStat G U U.heap ∧ (zL G).Nodup ∧ zNest U
theorem zD {G : zG} (h : (zL G).Nodup) (f : Nat → va_E) : va_D (zA G) (va_pl (zL G) f) := by
  refine ⟨fun i j p q hi hj hpq => ?_, fun k q hk => ?_⟩
  · unfold va_pl at hi hj
    rw [List.getElem?_map, Option.map_eq_some_iff] at hi hj
    obtain ⟨a, ha, rfl⟩ := hi
    obtain ⟨b, hb, rfl⟩ := hj
    have e : a = b := hpq
    subst e
    obtain ⟨l1, e1⟩ := List.getElem?_eq_some_iff.mp ha
    obtain ⟨l2, e2⟩ := List.getElem?_eq_some_iff.mp hb
    rcases Nat.lt_trichotomy i j with q | q | q
    · exact absurd (e1.trans e2.symm) (List.pairwise_iff_getElem.mp h i j l1 l2 q)
    · exact q
    · exact absurd (e2.trans e1.symm) (List.pairwise_iff_getElem.mp h j i l2 l1 q)
  · unfold va_pl at hk
    rw [List.getElem?_map, Option.map_eq_some_iff] at hk
    obtain ⟨a, ha, rfl⟩ := hk
    exact List.mem_of_getElem? ha
def zR (d : Nat) : Room := { frames := d, cells := 0, slots := 0, locals := 40 * d }
abbrev zMd : Type := MethodName × ByteArray × Nat × Option FieldType
def zQ (G : zG) (rv : Option Value) (Q : zM → Prop) : Array Value → State → Outcome → State → Prop := fun _ st oc t => (oc = .returned rv ∧ ∃ m', Q m' ∧ zW G m' t) ∧ va_F (zA G) st t
/-- a method's contract: from the memory mm it answers rv, and the memory has Q -/
def zSem (l : Launch) (G : zG) (Md : zMd) (d : Nat) (As : List Value) (mm : zM) (rv : Option Value) (Q : zM → Prop) : Prop :=
  Met l Md.1 (Cond.code Md.1 Md.2.1 Md.2.2.1 Md.2.2.2 :: zU) (zR d) (va_Pc As (zW G mm)) (zQ G rv Q) 0 0 (zA G)
/-! the locals by place -/
def zLv (ls : Array Slot) (n : Nat) (lv : List (Option Value)) : Prop := ls.size = n ∧ lv_wf ls ∧ lv.length = n ∧ ∀ (i : Nat) (v : Value), lv[i]? = some (some v) → v.category = 1 ∧ ls[i]? = some (.val v)
def zps (lv : List (Option Value)) : List (Nat × Value) := (List.range lv.length).filterMap (fun j => (lv[j]?.join).map (fun v => (j, v)))
theorem zps_mem {lv : List (Option Value)} {j : Nat} {v : Value} : (j, v) ∈ zps lv ↔ lv[j]? = some (some v) := by
  unfold zps
  rw [List.mem_filterMap]
  constructor
  · rintro ⟨k, -, hk⟩
    rw [Option.map_eq_some_iff] at hk
    obtain ⟨w, h1, h2⟩ := hk
    cases h2
    exact Option.join_eq_some_iff.mp h1
  · intro h
    refine ⟨j, List.mem_range.mpr (List.getElem?_eq_some_iff.mp h).1, ?_⟩
    rw [h]; rfl
theorem zLv.has {ls : Array Slot} {n : Nat} {lv : List (Option Value)} (h : zLv ls n lv) : lv_has ls n (zps lv) := ⟨h.1, h.2.1, fun q hq => (h.2.2.2 q.1 q.2 (zps_mem.mp hq)).2⟩
theorem zLv.at {ls : Array Slot} {n : Nat} {lv : List (Option Value)} (h : zLv ls n lv) {i : Nat} {v : Value} (hi : lv[i]? = some (some v)) : ls[i]? = some (.val v) := (h.2.2.2 i v hi).2
theorem zLv.upd {ls ls' : Array Slot} {n : Nat} {lv : List (Option Value)} {i : Nat} {v : Value} (h : zLv ls n lv) (hv : v.category = 1) (hi : i < lv.length) (h' : lv_has ls' n ((i, v) :: (zps lv).filter (fun q => !(q.1 == i) && !(q.1 + 1 == i && q.2.category == 2)))) : zLv ls' n (lv.set i (some v)) := by
  refine ⟨h'.1, h'.2.1, by simpa using h.2.2.1, fun j w hj => ?_⟩
  by_cases e : j = i
  · subst e
    rw [List.getElem?_set_self hi] at hj
    cases hj
    exact ⟨hv, h'.2.2 (j, v) List.mem_cons_self⟩
  · rw [List.getElem?_set_ne (Ne.symm e)] at hj
    obtain ⟨c, -⟩ := h.2.2.2 j w hj
    exact ⟨c, h'.2.2 (j, w) (List.mem_cons_of_mem _ (List.mem_filter.mpr ⟨zps_mem.mpr hj, by simp [e, c]⟩))⟩
theorem lg_sl_1 : ∀ (vs : List Value), (∀ v ∈ vs, v.category = 1) → (lg_sl vs).length = vs.length
  | [], _ => rfl
  | v :: vs, h => by
    have h1 : v.category = 1 := h v List.mem_cons_self
    have h2 := lg_sl_1 vs (fun w hw => h w (List.mem_cons_of_mem _ hw))
    unfold lg_sl at h2 ⊢
    rw [List.flatMap_cons, List.length_append, h2]
    simp [h1]; omega
theorem lv_args_1 : ∀ (vs : List Value) (k i : Nat) (v : Value), (∀ v ∈ vs, v.category = 1) → vs[i]? = some v → (k + i, v) ∈ lv_args k vs
  | [], _, _, _, _, h => by simp at h
  | w :: vs, k, 0, v, _, h => by
    simp at h; subst h; unfold lv_args; exact List.mem_cons_self
  | w :: vs, k, i + 1, v, hc, h => by
    simp at h
    unfold lv_args
    have hw : ¬ w.category = 2 := by rw [hc w List.mem_cons_self]; decide
    rw [if_neg hw]
    have := lv_args_1 vs (k + 1) i v (fun w hw => hc w (List.mem_cons_of_mem _ hw)) h
    refine List.mem_cons_of_mem _ ?_
    rw [show k + (i + 1) = k + 1 + i by omega]; exact this
theorem zLv_entry (As : List Value) {n : Nat} (hc : ∀ v ∈ As, v.category = 1) (hn : As.length ≤ n) : zLv ((lg_sl As ++ List.replicate (n - (lg_sl As).length) Slot.unset).toArray) n (As.map some ++ List.replicate (n - As.length) none) := by
  have h := lv_entry As (n := n) (by rw [lg_sl_1 As hc]; exact hn)
  refine ⟨h.1, h.2.1, by simp; omega, fun i v hi => ?_⟩
  have hl : i < As.length := by
    rcases Nat.lt_or_ge i As.length with q | q
    · exact q
    · rw [List.getElem?_append_right (by simpa using q)] at hi
      have := List.mem_of_getElem? hi
      simp at this
  rw [List.getElem?_append_left (by simpa using hl), List.getElem?_map, Option.map_eq_some_iff] at hi
  obtain ⟨w, h1, h2⟩ := hi
  cases h2
  refine ⟨hc _ (List.mem_of_getElem? h1), h.2.2 (i, v) ?_⟩
  have := lv_args_1 As 0 i v hc h1
  rwa [Nat.zero_add] at this
/-! ===== the walk: at pc, with these locals, this stack, this memory, the method comes to its end with rv and Q ===== -/
def zV (l : Launch) (G : zG) (Md : zMd) (d : Nat) (rv : Option Value) (Q : zM → Prop) (pc : Nat) (lv : List (Option Value)) (st : List Value) (mm : zM) : Prop :=
  ∀ (p : Program) (e : Env) (s : State) (m : MethodId) (args : Array Value) (below : List Frame) (meth : Method) (c : Code) (H : Heap) (locs : List Loc) (ls : Array Slot),
    p.tables.exec = Jvm.exec → c.code = Md.2.1 → c.maxLocals = Md.2.2.1 → meth.sig.returnType = Md.2.2.2 → s.vm.findClass Md.1.cls = some m.cls → meth.locks = false → (∀ w ∈ zU, w.before args s = true) → va_K G.1 vwCl (zT G) s → zStat G s s.heap → ((zL G).Nodup ∧ zNest s) →
    zLv ls Md.2.2.1 lv → va_P G.1 vwCl (va_pl (zL G) (zF G mm)) H → va_S (zA G) s.heap H locs → W p l e (zR d) s m args below meth c H locs 0 0 (MQ below (zQ G rv Q) args s 0 0 (zA G)) (F0 m pc ls st)
theorem z_met {l : Launch} {G : zG} {Md : zMd} {d : Nat} {rv : Option Value} {Q : zM → Prop} {As : List Value} {mm : zM} (lv : List (Option Value)) (hy : plainName Md.1.cls = true) (hc : ∀ v ∈ As, v.category = 1) (hn : As.length ≤ Md.2.2.1)
    (hlv : As.map some ++ List.replicate (Md.2.2.1 - As.length) none = lv) (h : zV l G Md d rv Q 0 lv [] mm) : zSem l G Md d As mm rv Q := by
  subst hlv
  refine Met.ofW (cc := Md.2.1) (maxL := Md.2.2.1) (ret := Md.2.2.2) hy rfl ?_
  intro p e s m args below meth c s₁ B hml hv
  obtain ⟨rfl, hP, hK, hSt, hN⟩ := hv
  have hts := atoms_spec (ws := Cond.code Md.1 Md.2.1 Md.2.2.1 Md.2.2.2 :: zU) B.pre
  rw [lg_entry_eq]
  exact h p e s m _ below meth c s.heap [] _ B.exec B.bytes hml B.returns (findClass_of_methodNamed B.named) B.notSynchronized (fun w hw => hts w (List.mem_cons_of_mem _ hw)) hK hSt hN (zLv_entry As hc hn) hP va_S.rf
theorem z_fin {G : zG} {rv : Option Value} {Q : zM → Prop} {args : Array Value} {s t : State} {mm : zM} {H : Heap} {locs : List Loc} (hQ : Q mm) (hK : va_K G.1 vwCl (zT G) s) (hSt : zStat G s s.heap) (hN : (zL G).Nodup ∧ zNest s) (hP : va_P G.1 vwCl (va_pl (zL G) (zF G mm)) H) (hS : va_S (zA G) s.heap H locs) (ht : t.heap = H) (hW : s.WarmedH t.vm) : zQ G rv Q args s (.returned rv) t :=
  ⟨⟨rfl, mm, hQ, by rw [ht]; exact hP, va_K.moved hW.alike hK, by rw [ht]; exact (hSt.kept hS.2.1).moved hW.alike, hN.1, hN.2.warm hW⟩, hS.F ht⟩
section ZV
variable {l : Launch} {G : zG} {y : MethodName} {cc : ByteArray} {nL : Nat} {ret : Option FieldType} {d : Nat} {rv : Option Value} {Q : zM → Prop} {pc : Nat} {lv : List (Option Value)} {st : List Value} {mm : zM}
theorem z_iret {x : Int32} (hd : decode cc pc = .ok (.ireturn, 1)) (hr : (rv : Option Value) = some (.int x)) (hQ : Q mm) : zV l G (y, cc, nL, some .int) d rv Q pc lv [.int x] mm := by
  intro p e s m args below meth c H locs ls hx hb hml hrt hown hlk hts hK hSt hN hl hP hS
  subst hr
  exact W.iret hx hb hrt (fun t ht hW => z_fin hQ hK hSt hN hP hS ht hW) hS.2.2 hd
theorem z_zret {x : Int32} {ty : FieldType} (hd : decode cc pc = .ok (.ireturn, 1)) (hn : narrow ty (.int x) = .int x) (hr : (rv : Option Value) = some (.int x)) (hQ : Q mm) : zV l G (y, cc, nL, some ty) d rv Q pc lv [.int x] mm := by
  intro p e s m args below meth c H locs ls hx hb hml hrt hown hlk hts hK hSt hN hl hP hS
  subst hr
  exact W.zret hx hb hrt hn (fun t ht hW => z_fin hQ hK hSt hN hP hS ht hW) hS.2.2 hd
theorem z_aret {C : String} {v : Value} (hd : decode cc pc = .ok (.areturn, 1)) (hv : v = .null ∨ ∃ a, v = .ref a) (hr : (rv : Option Value) = some v) (hQ : Q mm) : zV l G (y, cc, nL, some (.object C)) d rv Q pc lv [v] mm := by
  intro p e s m args below meth c H locs ls hx hb hml hrt hown hlk hts hK hSt hN hl hP hS
  subst hr
  exact W.aret hx hb hrt (Or.inl ⟨C, rfl⟩) hv (fun t ht hW => z_fin hQ hK hSt hN hP hS ht hW) hS.2.2 hd
theorem z_vret (hd : decode cc pc = .ok (.return_, 1)) (hr : (rv : Option Value) = none) (hQ : Q mm) : zV l G (y, cc, nL, none) d rv Q pc lv [] mm := by
  intro p e s m args below meth c H locs ls hx hb hml hrt hown hlk hts hK hSt hN hl hP hS
  subst hr
  exact W.vret hx hb hrt (fun t ht hW => z_fin hQ hK hSt hN hP hS ht hW) hS.2.2 hd
/-! constants, stack, arithmetic -/
theorem z_iconst (v : Int32) {n : Int} (hd : decode cc pc = .ok (.iconst n, 1)) (hv : Int32.ofInt n = v) (k : zV l G (y, cc, nL, ret) d rv Q (pc + 1) lv (.int v :: st) mm) : zV l G (y, cc, nL, ret) d rv Q pc lv st mm := by
  intro p e s m args below meth c H locs ls hx hb hml hrt hown hlk hts hK hSt hN hl hP hS
  exact lv_iconst hx hb hd hv (k p e s m args below meth c H locs ls hx hb hml hrt hown hlk hts hK hSt hN hl hP hS)
theorem z_bipush (v : Int32) {n : Int} (hd : decode cc pc = .ok (.bipush n, 2)) (hv : (Int8.ofInt n).toInt32 = v) (k : zV l G (y, cc, nL, ret) d rv Q (pc + 2) lv (.int v :: st) mm) : zV l G (y, cc, nL, ret) d rv Q pc lv st mm := by
  intro p e s m args below meth c H locs ls hx hb hml hrt hown hlk hts hK hSt hN hl hP hS
  exact lv_bipush hx hb hd hv (k p e s m args below meth c H locs ls hx hb hml hrt hown hlk hts hK hSt hN hl hP hS)
theorem z_sipush (v : Int32) {n : Int} (hd : decode cc pc = .ok (.sipush n, 3)) (hv : (Int16.ofInt n).toInt32 = v) (k : zV l G (y, cc, nL, ret) d rv Q (pc + 3) lv (.int v :: st) mm) : zV l G (y, cc, nL, ret) d rv Q pc lv st mm := by
  intro p e s m args below meth c H locs ls hx hb hml hrt hown hlk hts hK hSt hN hl hP hS
  exact lv_sipush hx hb hd hv (k p e s m args below meth c H locs ls hx hb hml hrt hown hlk hts hK hSt hN hl hP hS)
theorem z_ldcw {v : Int32} {ix : Nat} {own : String} (hk : Cond.constant own ix v ∈ zU) (ho : own = y.cls) (hd : decode cc pc = .ok (.ldc_w ix, 3)) (k : zV l G (y, cc, nL, ret) d rv Q (pc + 3) lv (.int v :: st) mm) : zV l G (y, cc, nL, ret) d rv Q pc lv st mm := by
  intro p e s m args below meth c H locs ls hx hb hml hrt hown hlk hts hK hSt hN hl hP hS
  subst ho
  exact lv_ldcw hx hb hown (hts _ hk) hd (k p e s m args below meth c H locs ls hx hb hml hrt hown hlk hts hK hSt hN hl hP hS)
theorem z_null (hd : decode cc pc = .ok (.aconst_null, 1)) (k : zV l G (y, cc, nL, ret) d rv Q (pc + 1) lv (.null :: st) mm) : zV l G (y, cc, nL, ret) d rv Q pc lv st mm := by
  intro p e s m args below meth c H locs ls hx hb hml hrt hown hlk hts hK hSt hN hl hP hS
  exact lv_null hx hb hd (k p e s m args below meth c H locs ls hx hb hml hrt hown hlk hts hK hSt hN hl hP hS)
theorem z_dup {v : Value} (hd : decode cc pc = .ok (.dup, 1)) (hv : v.category = 1) (k : zV l G (y, cc, nL, ret) d rv Q (pc + 1) lv (v :: v :: st) mm) : zV l G (y, cc, nL, ret) d rv Q pc lv (v :: st) mm := by
  intro p e s m args below meth c H locs ls hx hb hml hrt hown hlk hts hK hSt hN hl hP hS
  exact lv_dup hx hb hd hv (k p e s m args below meth c H locs ls hx hb hml hrt hown hlk hts hK hSt hN hl hP hS)
theorem z_dup2 {v w : Value} (hd : decode cc pc = .ok (.dup2, 1)) (hv : v.category = 1) (hw : w.category = 1) (k : zV l G (y, cc, nL, ret) d rv Q (pc + 1) lv (v :: w :: v :: w :: st) mm) : zV l G (y, cc, nL, ret) d rv Q pc lv (v :: w :: st) mm := by
  intro p e s m args below meth c H locs ls hx hb hml hrt hown hlk hts hK hSt hN hl hP hS
  exact lv_dup2_11 hx hb hd hv hw (k p e s m args below meth c H locs ls hx hb hml hrt hown hlk hts hK hSt hN hl hP hS)
theorem z_pop {v : Value} (hd : decode cc pc = .ok (.pop, 1)) (hv : v.category = 1) (k : zV l G (y, cc, nL, ret) d rv Q (pc + 1) lv st mm) : zV l G (y, cc, nL, ret) d rv Q pc lv (v :: st) mm := by
  intro p e s m args below meth c H locs ls hx hb hml hrt hown hlk hts hK hSt hN hl hP hS
  exact lv_pop hx hb hd hv (k p e s m args below meth c H locs ls hx hb hml hrt hown hlk hts hK hSt hN hl hP hS)
theorem z_iadd {a b : Int32} (hd : decode cc pc = .ok (.iadd, 1)) (k : zV l G (y, cc, nL, ret) d rv Q (pc + 1) lv (.int (a + b) :: st) mm) : zV l G (y, cc, nL, ret) d rv Q pc lv (.int b :: .int a :: st) mm := by
  intro p e s m args below meth c H locs ls hx hb hml hrt hown hlk hts hK hSt hN hl hP hS
  exact lv_iadd hx hb hd (k p e s m args below meth c H locs ls hx hb hml hrt hown hlk hts hK hSt hN hl hP hS)
theorem z_isub {a b : Int32} (hd : decode cc pc = .ok (.isub, 1)) (k : zV l G (y, cc, nL, ret) d rv Q (pc + 1) lv (.int (a - b) :: st) mm) : zV l G (y, cc, nL, ret) d rv Q pc lv (.int b :: .int a :: st) mm := by
  intro p e s m args below meth c H locs ls hx hb hml hrt hown hlk hts hK hSt hN hl hP hS
  exact lv_isub hx hb hd (k p e s m args below meth c H locs ls hx hb hml hrt hown hlk hts hK hSt hN hl hP hS)
theorem z_imul {a b : Int32} (hd : decode cc pc = .ok (.imul, 1)) (k : zV l G (y, cc, nL, ret) d rv Q (pc + 1) lv (.int (a * b) :: st) mm) : zV l G (y, cc, nL, ret) d rv Q pc lv (.int b :: .int a :: st) mm := by
  intro p e s m args below meth c H locs ls hx hb hml hrt hown hlk hts hK hSt hN hl hP hS
  exact lv_imul hx hb hd (k p e s m args below meth c H locs ls hx hb hml hrt hown hlk hts hK hSt hN hl hP hS)
theorem z_idiv {a b : Int32} (hd : decode cc pc = .ok (.idiv, 1)) (hb0 : ¬ b = 0) (k : zV l G (y, cc, nL, ret) d rv Q (pc + 1) lv (.int (a / b) :: st) mm) : zV l G (y, cc, nL, ret) d rv Q pc lv (.int b :: .int a :: st) mm := by
  intro p e s m args below meth c H locs ls hx hb hml hrt hown hlk hts hK hSt hN hl hP hS
  exact lv_idiv hx hb hd hb0 (k p e s m args below meth c H locs ls hx hb hml hrt hown hlk hts hK hSt hN hl hP hS)
theorem z_ineg {a : Int32} (hd : decode cc pc = .ok (.ineg, 1)) (k : zV l G (y, cc, nL, ret) d rv Q (pc + 1) lv (.int (-a) :: st) mm) : zV l G (y, cc, nL, ret) d rv Q pc lv (.int a :: st) mm := by
  intro p e s m args below meth c H locs ls hx hb hml hrt hown hlk hts hK hSt hN hl hP hS
  exact lv_ineg hx hb hd (k p e s m args below meth c H locs ls hx hb hml hrt hown hlk hts hK hSt hN hl hP hS)
theorem z_goto {off : Int} (tgt : Nat) (hd : decode cc pc = .ok (.goto off, 3)) (ht : (pc : Int) + off = (tgt : Int)) (k : zV l G (y, cc, nL, ret) d rv Q tgt lv st mm) : zV l G (y, cc, nL, ret) d rv Q pc lv st mm := by
  intro p e s m args below meth c H locs ls hx hb hml hrt hown hlk hts hK hSt hN hl hP hS
  exact lv_goto hx hb hd ht (k p e s m args below meth c H locs ls hx hb hml hrt hown hlk hts hK hSt hN hl hP hS)
/-! locals -/
theorem z_iload_n {x : Int32} {k4 : Fin 4} (i : Nat) (hi : (k4 : Nat) = i) (hv : lv[i]? = some (some (.int x))) (hd : decode cc pc = .ok (.iload_n k4, 1)) (k : zV l G (y, cc, nL, ret) d rv Q (pc + 1) lv (.int x :: st) mm) : zV l G (y, cc, nL, ret) d rv Q pc lv st mm := by
  intro p e s m args below meth c H locs ls hx hb hml hrt hown hlk hts hK hSt hN hl hP hS
  exact lv_iload_n hx hb hd hi (hl.at hv) (k p e s m args below meth c H locs ls hx hb hml hrt hown hlk hts hK hSt hN hl hP hS)
theorem z_iload {x : Int32} (i : Nat) (hv : lv[i]? = some (some (.int x))) (hd : decode cc pc = .ok (.iload i, 2)) (k : zV l G (y, cc, nL, ret) d rv Q (pc + 2) lv (.int x :: st) mm) : zV l G (y, cc, nL, ret) d rv Q pc lv st mm := by
  intro p e s m args below meth c H locs ls hx hb hml hrt hown hlk hts hK hSt hN hl hP hS
  exact lv_iload hx hb hd (hl.at hv) (k p e s m args below meth c H locs ls hx hb hml hrt hown hlk hts hK hSt hN hl hP hS)
theorem z_aload_n {x : Nat} {k4 : Fin 4} (i : Nat) (hi : (k4 : Nat) = i) (hv : lv[i]? = some (some (.ref x))) (hd : decode cc pc = .ok (.aload_n k4, 1)) (k : zV l G (y, cc, nL, ret) d rv Q (pc + 1) lv (.ref x :: st) mm) : zV l G (y, cc, nL, ret) d rv Q pc lv st mm := by
  intro p e s m args below meth c H locs ls hx hb hml hrt hown hlk hts hK hSt hN hl hP hS
  exact lv_aload_n hx hb hd hi (hl.at hv) (k p e s m args below meth c H locs ls hx hb hml hrt hown hlk hts hK hSt hN hl hP hS)
theorem z_aload {x : Nat} (i : Nat) (hv : lv[i]? = some (some (.ref x))) (hd : decode cc pc = .ok (.aload i, 2)) (k : zV l G (y, cc, nL, ret) d rv Q (pc + 2) lv (.ref x :: st) mm) : zV l G (y, cc, nL, ret) d rv Q pc lv st mm := by
  intro p e s m args below meth c H locs ls hx hb hml hrt hown hlk hts hK hSt hN hl hP hS
  exact lv_aload hx hb hd (hl.at hv) (k p e s m args below meth c H locs ls hx hb hml hrt hown hlk hts hK hSt hN hl hP hS)
theorem z_aload_nN {k4 : Fin 4} (i : Nat) (hi : (k4 : Nat) = i) (hv : lv[i]? = some (some .null)) (hd : decode cc pc = .ok (.aload_n k4, 1)) (k : zV l G (y, cc, nL, ret) d rv Q (pc + 1) lv (.null :: st) mm) : zV l G (y, cc, nL, ret) d rv Q pc lv st mm := by
  intro p e s m args below meth c H locs ls hx hb hml hrt hown hlk hts hK hSt hN hl hP hS
  exact lv_aload_nN hx hb hd hi (hl.at hv) (k p e s m args below meth c H locs ls hx hb hml hrt hown hlk hts hK hSt hN hl hP hS)
theorem z_aloadN (i : Nat) (hv : lv[i]? = some (some .null)) (hd : decode cc pc = .ok (.aload i, 2)) (k : zV l G (y, cc, nL, ret) d rv Q (pc + 2) lv (.null :: st) mm) : zV l G (y, cc, nL, ret) d rv Q pc lv st mm := by
  intro p e s m args below meth c H locs ls hx hb hml hrt hown hlk hts hK hSt hN hl hP hS
  exact lv_aloadN hx hb hd (hl.at hv) (k p e s m args below meth c H locs ls hx hb hml hrt hown hlk hts hK hSt hN hl hP hS)
theorem z_istore_n {x : Int32} {k4 : Fin 4} (i : Nat) {lv' : List (Option Value)} (hi : (k4 : Nat) = i) (hn : i < lv.length) (he : lv.set i (some (.int x)) = lv') (hd : decode cc pc = .ok (.istore_n k4, 1)) (k : zV l G (y, cc, nL, ret) d rv Q (pc + 1) lv' st mm) : zV l G (y, cc, nL, ret) d rv Q pc lv (.int x :: st) mm := by
  intro p e s m args below meth c H locs ls hx hb hml hrt hown hlk hts hK hSt hN hl hP hS
  subst he
  exact lv_istore_n hx hb hd hi hl.has (by rw [← hl.2.2.1]; exact hn) rfl (fun ls' h' => k p e s m args below meth c H locs ls' hx hb hml hrt hown hlk hts hK hSt hN (hl.upd rfl hn h') hP hS)
theorem z_istore {x : Int32} (i : Nat) {lv' : List (Option Value)} (hn : i < lv.length) (he : lv.set i (some (.int x)) = lv') (hd : decode cc pc = .ok (.istore i, 2)) (k : zV l G (y, cc, nL, ret) d rv Q (pc + 2) lv' st mm) : zV l G (y, cc, nL, ret) d rv Q pc lv (.int x :: st) mm := by
  intro p e s m args below meth c H locs ls hx hb hml hrt hown hlk hts hK hSt hN hl hP hS
  subst he
  exact lv_istore hx hb hd hl.has (by rw [← hl.2.2.1]; exact hn) rfl (fun ls' h' => k p e s m args below meth c H locs ls' hx hb hml hrt hown hlk hts hK hSt hN (hl.upd rfl hn h') hP hS)
theorem z_astore_n {x : Nat} {k4 : Fin 4} (i : Nat) {lv' : List (Option Value)} (hi : (k4 : Nat) = i) (hn : i < lv.length) (he : lv.set i (some (.ref x)) = lv') (hd : decode cc pc = .ok (.astore_n k4, 1)) (k : zV l G (y, cc, nL, ret) d rv Q (pc + 1) lv' st mm) : zV l G (y, cc, nL, ret) d rv Q pc lv (.ref x :: st) mm := by
  intro p e s m args below meth c H locs ls hx hb hml hrt hown hlk hts hK hSt hN hl hP hS
  subst he
  exact lv_astore_n hx hb hd hi hl.has (by rw [← hl.2.2.1]; exact hn) rfl (fun ls' h' => k p e s m args below meth c H locs ls' hx hb hml hrt hown hlk hts hK hSt hN (hl.upd rfl hn h') hP hS)
theorem z_astore {x : Nat} (i : Nat) {lv' : List (Option Value)} (hn : i < lv.length) (he : lv.set i (some (.ref x)) = lv') (hd : decode cc pc = .ok (.astore i, 2)) (k : zV l G (y, cc, nL, ret) d rv Q (pc + 2) lv' st mm) : zV l G (y, cc, nL, ret) d rv Q pc lv (.ref x :: st) mm := by
  intro p e s m args below meth c H locs ls hx hb hml hrt hown hlk hts hK hSt hN hl hP hS
  subst he
  exact lv_astore hx hb hd hl.has (by rw [← hl.2.2.1]; exact hn) rfl (fun ls' h' => k p e s m args below meth c H locs ls' hx hb hml hrt hown hlk hts hK hSt hN (hl.upd rfl hn h') hP hS)
theorem z_astore_nN {k4 : Fin 4} (i : Nat) {lv' : List (Option Value)} (hi : (k4 : Nat) = i) (hn : i < lv.length) (he : lv.set i (some .null) = lv') (hd : decode cc pc = .ok (.astore_n k4, 1)) (k : zV l G (y, cc, nL, ret) d rv Q (pc + 1) lv' st mm) : zV l G (y, cc, nL, ret) d rv Q pc lv (.null :: st) mm := by
  intro p e s m args below meth c H locs ls hx hb hml hrt hown hlk hts hK hSt hN hl hP hS
  subst he
  exact lv_astore_nN hx hb hd hi hl.has (by rw [← hl.2.2.1]; exact hn) rfl (fun ls' h' => k p e s m args below meth c H locs ls' hx hb hml hrt hown hlk hts hK hSt hN (hl.upd rfl hn h') hP hS)
theorem z_astoreN (i : Nat) {lv' : List (Option Value)} (hn : i < lv.length) (he : lv.set i (some .null) = lv') (hd : decode cc pc = .ok (.astore i, 2)) (k : zV l G (y, cc, nL, ret) d rv Q (pc + 2) lv' st mm) : zV l G (y, cc, nL, ret) d rv Q pc lv (.null :: st) mm := by
  intro p e s m args below meth c H locs ls hx hb hml hrt hown hlk hts hK hSt hN hl hP hS
  subst he
  exact lv_astoreN hx hb hd hl.has (by rw [← hl.2.2.1]; exact hn) rfl (fun ls' h' => k p e s m args below meth c H locs ls' hx hb hml hrt hown hlk hts hK hSt hN (hl.upd rfl hn h') hP hS)
theorem z_iinc {x v : Int32} {n : Int} (i : Nat) {lv' : List (Option Value)} (hi : lv[i]? = some (some (.int x))) (hv : x + Int32.ofInt n = v) (he : lv.set i (some (.int v)) = lv') (hd : decode cc pc = .ok (.iinc i n, 3)) (k : zV l G (y, cc, nL, ret) d rv Q (pc + 3) lv' st mm) : zV l G (y, cc, nL, ret) d rv Q pc lv st mm := by
  intro p e s m args below meth c H locs ls hx hb hml hrt hown hlk hts hK hSt hN hl hP hS
  subst he
  have hn : i < lv.length := (List.getElem?_eq_some_iff.mp hi).1
  obtain ⟨k0, hk0⟩ := List.getElem?_of_mem (zps_mem.mpr hi)
  exact lv_iinc hx hb hd hl.has hk0 hv (by rw [← hl.2.2.1]; exact hn) rfl (fun ls' h' => k p e s m args below meth c H locs ls' hx hb hml hrt hown hlk hts hK hSt hN (hl.upd rfl hn h') hP hS)
end ZV
