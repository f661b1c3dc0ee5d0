/-! ===== the class' text: the object E, its signs D ===== -/
def zTP (G : zG) (E D : Nat) (m0 : zM) (T g : Nat → Int32) (mm : zM) : Prop :=
  (E ∈ zL G ∧ zsh G E = (3, 6)) ∧ (D ∈ zL G ∧ zsh G D = (8, 60)) ∧ E ≠ D ∧ mm E 0 = .ref D ∧ (∀ k, 1 ≤ k → k < 6 → mm E k = .int (g k)) ∧ (∀ k, k < 60 → mm D k = .int (T k)) ∧ (∀ k, k < 60 → vp_nar .char (T k) = T k) ∧ ∀ b, b ≠ E → b ≠ D → mm b = m0 b
theorem zTP.put {G : zG} {E D : Nat} {m0 mm : zM} {T g : Nat → Int32} (h : zTP G E D m0 T g mm) {k : Nat} (h1 : 1 ≤ k) (x : Int32) : zTP G E D m0 T (upd g k x) (zup mm E k (.int x)) := by
  obtain ⟨a1, a2, a3, a4, a5, a6, a7, a8⟩ := h
  refine ⟨a1, a2, a3, by rw [zup_ne (fun q => by omega)]; exact a4, fun j hj hj6 => ?_, fun j hj => by rw [zup_ne (fun q => a3 q.1.symm)]; exact a6 j hj, a7, fun b b1 b2 => ?_⟩
  · by_cases e : j = k
    · subst e; rw [zup_eq, upd_eq]
    · rw [zup_ne (fun q => e q.2), upd_ne e]; exact a5 j hj hj6
  · have e : zup mm E k (.int x) b = mm b := by funext k'; exact zup_ne (fun q => b1 q.1)
    rw [e]; exact a8 b b1 b2
section ZTR
variable {l : Launch} {G : zG} {y : MethodName} {cc : ByteArray} {nL : Nat} {ret : Option FieldType} {d0 : Nat} {rv : Option Value} {Q : zM → Prop} {pc : Nat} {lv : List (Option Value)} {st : List Value} {mm m0 : zM} {E D : Nat} {T g : Nat → Int32} {ix n : Nat} {own : String}
theorem zT_0 (hp : zTP G E D m0 T g mm) (ho : own = y.cls) (hlink : Cond.fieldLink own ix RX3 (TX3 0).2.1 (TX3 0).2.2.1 ∈ zU) (hd : decode cc pc = .ok (.getfield ix, 3)) (kk : zV l G (y, cc, nL, ret) d0 rv Q (pc + 3) lv (.ref D :: st) mm) : zV l G (y, cc, nL, ret) d0 rv Q pc lv (.ref E :: st) mm :=
  z_get (ci := 3) zin3 rfl (by decide) (by decide) rfl ho hlink hp.1.1 hp.1.2 hp.2.2.2.1 hd kk
theorem zT_ld (hp : zTP G E D m0 T g mm) (hn : n < 60) (hd : decode cc pc = .ok (.caload, 1)) (kk : zV l G (y, cc, nL, ret) d0 rv Q (pc + 1) lv (.int (T n) :: st) mm) : zV l G (y, cc, nL, ret) d0 rv Q pc lv (.int (nI n) :: .ref D :: st) mm :=
  z_cald hp.2.1.1 hp.2.1.2 rfl hn (by decide) (hp.2.2.2.2.2.1 n hn) hd kk
theorem zT_l (hp : zTP G E D m0 T g mm) (hd : decode cc pc = .ok (.arraylength, 1)) (kk : zV l G (y, cc, nL, ret) d0 rv Q (pc + 1) lv (.int (nI 60) :: st) mm) : zV l G (y, cc, nL, ret) d0 rv Q pc lv (.ref D :: st) mm :=
  z_alen (t0 := 0) (nI 60) hp.2.1.1 hp.2.1.2 (by decide) rfl rfl hd kk
theorem zT_1 (hp : zTP G E D m0 T g mm) (ho : own = y.cls) (hlink : Cond.fieldLink own ix RX3 (TX3 1).2.1 (TX3 1).2.2.1 ∈ zU) (hd : decode cc pc = .ok (.getfield ix, 3)) (kk : zV l G (y, cc, nL, ret) d0 rv Q (pc + 3) lv (.int (g 1) :: st) mm) : zV l G (y, cc, nL, ret) d0 rv Q pc lv (.ref E :: st) mm :=
  z_get (ci := 3) zin3 rfl (by decide) (by decide) rfl ho hlink hp.1.1 hp.1.2 (hp.2.2.2.2.1 1 (by decide) (by decide)) hd kk
theorem zT_2 (hp : zTP G E D m0 T g mm) (ho : own = y.cls) (hlink : Cond.fieldLink own ix RX3 (TX3 2).2.1 (TX3 2).2.2.1 ∈ zU) (hd : decode cc pc = .ok (.getfield ix, 3)) (kk : zV l G (y, cc, nL, ret) d0 rv Q (pc + 3) lv (.int (g 2) :: st) mm) : zV l G (y, cc, nL, ret) d0 rv Q pc lv (.ref E :: st) mm :=
  z_get (ci := 3) zin3 rfl (by decide) (by decide) rfl ho hlink hp.1.1 hp.1.2 (hp.2.2.2.2.1 2 (by decide) (by decide)) hd kk
theorem zT_p2 {x : Int32} (hp : zTP G E D m0 T g mm) (ho : own = y.cls) (hlink : Cond.fieldLink own ix RX3 (TX3 2).2.1 (TX3 2).2.2.1 ∈ zU) (hd : decode cc pc = .ok (.putfield ix, 3)) (kk : ∀ mm', zTP G E D m0 T (upd g 2 x) mm' → zV l G (y, cc, nL, ret) d0 rv Q (pc + 3) lv st mm') : zV l G (y, cc, nL, ret) d0 rv Q pc lv (.int x :: .ref E :: st) mm :=
  z_put (ci := 3) (k := 2) zin3 tyX3_ok nmX3 rfl (by decide) (by decide) rfl rfl rfl rfl rfl ho hlink hp.1.1 hp.1.2 hd (kk _ (hp.put (by decide) x))
theorem zT_3 (hp : zTP G E D m0 T g mm) (ho : own = y.cls) (hlink : Cond.fieldLink own ix RX3 (TX3 3).2.1 (TX3 3).2.2.1 ∈ zU) (hd : decode cc pc = .ok (.getfield ix, 3)) (kk : zV l G (y, cc, nL, ret) d0 rv Q (pc + 3) lv (.int (g 3) :: st) mm) : zV l G (y, cc, nL, ret) d0 rv Q pc lv (.ref E :: st) mm :=
  z_get (ci := 3) zin3 rfl (by decide) (by decide) rfl ho hlink hp.1.1 hp.1.2 (hp.2.2.2.2.1 3 (by decide) (by decide)) hd kk
theorem zT_p3 {x : Int32} (hp : zTP G E D m0 T g mm) (ho : own = y.cls) (hlink : Cond.fieldLink own ix RX3 (TX3 3).2.1 (TX3 3).2.2.1 ∈ zU) (hd : decode cc pc = .ok (.putfield ix, 3)) (kk : ∀ mm', zTP G E D m0 T (upd g 3 x) mm' → zV l G (y, cc, nL, ret) d0 rv Q (pc + 3) lv st mm') : zV l G (y, cc, nL, ret) d0 rv Q pc lv (.int x :: .ref E :: st) mm :=
  z_put (ci := 3) (k := 3) zin3 tyX3_ok nmX3 rfl (by decide) (by decide) rfl rfl rfl rfl rfl ho hlink hp.1.1 hp.1.2 hd (kk _ (hp.put (by decide) x))
theorem zT_4 (hp : zTP G E D m0 T g mm) (ho : own = y.cls) (hlink : Cond.fieldLink own ix RX3 (TX3 4).2.1 (TX3 4).2.2.1 ∈ zU) (hd : decode cc pc = .ok (.getfield ix, 3)) (kk : zV l G (y, cc, nL, ret) d0 rv Q (pc + 3) lv (.int (g 4) :: st) mm) : zV l G (y, cc, nL, ret) d0 rv Q pc lv (.ref E :: st) mm :=
  z_get (ci := 3) zin3 rfl (by decide) (by decide) rfl ho hlink hp.1.1 hp.1.2 (hp.2.2.2.2.1 4 (by decide) (by decide)) hd kk
theorem zT_p4 {x : Int32} (hp : zTP G E D m0 T g mm) (ho : own = y.cls) (hlink : Cond.fieldLink own ix RX3 (TX3 4).2.1 (TX3 4).2.2.1 ∈ zU) (hd : decode cc pc = .ok (.putfield ix, 3)) (kk : ∀ mm', zTP G E D m0 T (upd g 4 x) mm' → zV l G (y, cc, nL, ret) d0 rv Q (pc + 3) lv st mm') : zV l G (y, cc, nL, ret) d0 rv Q pc lv (.int x :: .ref E :: st) mm :=
  z_put (ci := 3) (k := 4) zin3 tyX3_ok nmX3 rfl (by decide) (by decide) rfl rfl rfl rfl rfl ho hlink hp.1.1 hp.1.2 hd (kk _ (hp.put (by decide) x))
theorem zT_5 (hp : zTP G E D m0 T g mm) (ho : own = y.cls) (hlink : Cond.fieldLink own ix RX3 (TX3 5).2.1 (TX3 5).2.2.1 ∈ zU) (hd : decode cc pc = .ok (.getfield ix, 3)) (kk : zV l G (y, cc, nL, ret) d0 rv Q (pc + 3) lv (.int (g 5) :: st) mm) : zV l G (y, cc, nL, ret) d0 rv Q pc lv (.ref E :: st) mm :=
  z_get (ci := 3) zin3 rfl (by decide) (by decide) rfl ho hlink hp.1.1 hp.1.2 (hp.2.2.2.2.1 5 (by decide) (by decide)) hd kk
theorem zT_p5 {x : Int32} (hp : zTP G E D m0 T g mm) (ho : own = y.cls) (hlink : Cond.fieldLink own ix RX3 (TX3 5).2.1 (TX3 5).2.2.1 ∈ zU) (hd : decode cc pc = .ok (.putfield ix, 3)) (kk : ∀ mm', zTP G E D m0 T (upd g 5 x) mm' → zV l G (y, cc, nL, ret) d0 rv Q (pc + 3) lv st mm') : zV l G (y, cc, nL, ret) d0 rv Q pc lv (.int x :: .ref E :: st) mm :=
  z_put (ci := 3) (k := 5) zin3 tyX3_ok nmX3 rfl (by decide) (by decide) rfl rfl rfl rfl rfl ho hlink hp.1.1 hp.1.2 hd (kk _ (hp.put (by decide) x))
end ZTR
