/-! ===== the class whole: seven States (0 now, 1 kept, 2 .. 6 the history's), the desk O 0, the history O 1, its past O 2, the text O 3, its signs O 4 ===== -/
def zOsh (k : Nat) : Nat × Nat := if k = 0 then (6, 5) else if k = 1 then (2, 3) else if k = 2 then (13, 4) else if k = 3 then (3, 6) else (8, 60)
def zDk (G : zG) (Bs : Nat → Nat → Nat) (O : Nat → Nat) (m0 : zM) (π : Nat → Nat) (vs : Nat → Nat → Int32) (hk cn : Int32) (T g : Nat → Int32) (mm : zM) : Prop :=
  (∀ s, s < 7 → zCV G (Bs s) mm (vs s) mm) ∧
  ((∀ s q i j, s < 7 → q < 7 → s ≠ q → zBd i → zBd j → Bs s i ≠ Bs q j) ∧ (∀ k, k < 5 → O k ∈ zL G ∧ zsh G (O k) = zOsh k) ∧ (∀ i k, i < 5 → k < 5 → O i = O k → i = k) ∧ ∀ k s j, k < 5 → s < 7 → zBd j → O k ≠ Bs s j) ∧
  (mm (O 0) 0 = .ref (Bs 0 0) ∧ mm (O 0) 1 = .ref (Bs 1 0) ∧ mm (O 0) 2 = .int hk ∧ mm (O 0) 3 = .ref (O 1) ∧ mm (O 0) 4 = .ref (O 3)) ∧
  (mm (O 1) 0 = .ref (O 2) ∧ mm (O 1) 1 = .int cn ∧ mm (O 1) 2 = .ref (Bs (π 4) 0) ∧ ∀ i, i < 4 → mm (O 2) i = .ref (Bs (π i) 0)) ∧
  (∀ i, i < 5 → 2 ≤ π i ∧ π i < 7) ∧
  zTP G (O 3) (O 4) mm T g mm ∧
  ∀ b, (∀ k, k < 5 → b ≠ O k) → (∀ s j, s < 7 → zBd j → b ≠ Bs s j) → mm b = m0 b
theorem zCV.move {G : zG} {B : Nat → Nat} {m0 mm m2 : zM} {v : Nat → Int32} (h : zCV G B m0 v mm) (e : ∀ j, zBd j → m2 (B j) = mm (B j)) : zCV G B m2 v m2 := by
  obtain ⟨u, hR, h1, h2, h3, h4, h5, ⟨σ, s1, s2, s3⟩, h8⟩ := h
  refine ⟨u, hR, h1, h2, h3, fun j k c hc => ?_, fun j k i hi => ?_, ⟨σ, s1, s2, fun i hi => ⟨?_, fun k hk => ?_⟩⟩, fun b _ => rfl⟩
  · rw [e j (zCt_bd hc).1]; exact h4 j k c hc
  · rw [e j (zIx_bd hi)]; exact h5 j k i hi
  · rw [e 7 (Or.inl (by decide))]; exact (s3 i hi).1
  · rw [e _ (Or.inr (by have := s1 i hi; omega))]; exact (s3 i hi).2 k hk
theorem zTP.move {G : zG} {E D : Nat} {m0 mm m2 : zM} {T g : Nat → Int32} (h : zTP G E D m0 T g mm) (e1 : m2 E = mm E) (e2 : m2 D = mm D) : zTP G E D m2 T g m2 := by
  obtain ⟨a1, a2, a3, a4, a5, a6, a7, a8⟩ := h
  exact ⟨a1, a2, a3, by rw [e1]; exact a4, by rw [e1]; exact a5, by rw [e2]; exact a6, a7, fun b _ _ => rfl⟩
def zUs (vs : Nat → Nat → Int32) (s : Nat) (v : Nat → Int32) : Nat → Nat → Int32 := fun a => if a = s then v else vs a
/-- a State is changed -/
theorem zDk.step {G : zG} {Bs : Nat → Nat → Nat} {O : Nat → Nat} {m0 mm m2 : zM} {π : Nat → Nat} {vs : Nat → Nat → Int32} {hk cn : Int32} {T g : Nat → Int32} (h : zDk G Bs O m0 π vs hk cn T g mm) {s : Nat} (hs : s < 7) {v : Nat → Int32} (h2 : zCV G (Bs s) mm v m2) : zDk G Bs O m0 π (zUs vs s v) hk cn T g m2 := by
  obtain ⟨a1, ⟨b1, b2, b3, b4⟩, ⟨c1, c2, c3, c4, c5⟩, ⟨d1, d2, d3, d4⟩, e, f, fr⟩ := h
  have eO : ∀ k, k < 5 → m2 (O k) = mm (O k) := fun k hk => h2.out (fun j hj => b4 k s j hk hs hj)
  refine ⟨fun q hq => ?_, ⟨b1, b2, b3, b4⟩, ⟨?_, ?_, ?_, ?_, ?_⟩, ⟨?_, ?_, ?_, fun i hi => ?_⟩, e, f.move (eO 3 (by decide)) (eO 4 (by decide)), fun b x1 x2 => ?_⟩
  · unfold zUs
    by_cases z : q = s
    · subst z; rw [if_pos rfl]; exact h2.move (fun j hj => rfl)
    · rw [if_neg z]; exact (a1 q hq).move (fun j hj => h2.out (fun i hi => b1 q s j i hq hs z hj hi))
  · rw [eO 0 (by decide)]; exact c1
  · rw [eO 0 (by decide)]; exact c2
  · rw [eO 0 (by decide)]; exact c3
  · rw [eO 0 (by decide)]; exact c4
  · rw [eO 0 (by decide)]; exact c5
  · rw [eO 1 (by decide)]; exact d1
  · rw [eO 1 (by decide)]; exact d2
  · rw [eO 1 (by decide)]; exact d3
  · rw [eO 2 (by decide)]; exact d4 i hi
  · rw [h2.out (fun j hj => x2 s j hs hj)]; exact fr b x1 x2
/-- the text is changed -/
theorem zDk.text {G : zG} {Bs : Nat → Nat → Nat} {O : Nat → Nat} {m0 mm m2 : zM} {π : Nat → Nat} {vs : Nat → Nat → Int32} {hk cn : Int32} {T g T2 g2 : Nat → Int32} (h : zDk G Bs O m0 π vs hk cn T g mm) (h2 : zTP G (O 3) (O 4) mm T2 g2 m2) : zDk G Bs O m0 π vs hk cn T2 g2 m2 := by
  obtain ⟨a1, ⟨b1, b2, b3, b4⟩, ⟨c1, c2, c3, c4, c5⟩, ⟨d1, d2, d3, d4⟩, e, f, fr⟩ := h
  have fr2 := h2.2.2.2.2.2.2.2
  have eO : ∀ k, k < 3 → m2 (O k) = mm (O k) := fun k hk => fr2 _ (fun z => by have := b3 _ _ (by omega) (by omega) z; omega) (fun z => by have := b3 _ _ (by omega) (by omega) z; omega)
  refine ⟨fun q hq => ?_, ⟨b1, b2, b3, b4⟩, ⟨?_, ?_, ?_, ?_, ?_⟩, ⟨?_, ?_, ?_, fun i hi => ?_⟩, e, h2.move rfl rfl, fun b x1 x2 => ?_⟩
  · exact (a1 q hq).move (fun j hj => fr2 _ (fun z => b4 3 q j (by omega) hq hj z.symm) (fun z => b4 4 q j (by omega) hq hj z.symm))
  · rw [eO 0 (by decide)]; exact c1
  · rw [eO 0 (by decide)]; exact c2
  · rw [eO 0 (by decide)]; exact c3
  · rw [eO 0 (by decide)]; exact c4
  · rw [eO 0 (by decide)]; exact c5
  · rw [eO 1 (by decide)]; exact d1
  · rw [eO 1 (by decide)]; exact d2
  · rw [eO 1 (by decide)]; exact d3
  · rw [eO 2 (by decide)]; exact d4 i hi
  · rw [fr2 b (x1 3 (by decide)) (x1 4 (by decide))]; exact fr b x1 x2
/-- one of the desk's own cells is changed: b is O 0, O 1 or O 2 -/
theorem zDk.own {G : zG} {Bs : Nat → Nat → Nat} {O : Nat → Nat} {m0 mm m2 : zM} {π : Nat → Nat} {vs : Nat → Nat → Int32} {hk cn : Int32} {T g : Nat → Int32} (h : zDk G Bs O m0 π vs hk cn T g mm) {π2 : Nat → Nat} {hk2 cn2 : Int32} (hm : ∀ b, b ≠ O 0 → b ≠ O 1 → b ≠ O 2 → m2 b = mm b)
    (h0 : m2 (O 0) 0 = .ref (Bs 0 0) ∧ m2 (O 0) 1 = .ref (Bs 1 0) ∧ m2 (O 0) 2 = .int hk2 ∧ m2 (O 0) 3 = .ref (O 1) ∧ m2 (O 0) 4 = .ref (O 3))
    (h1 : m2 (O 1) 0 = .ref (O 2) ∧ m2 (O 1) 1 = .int cn2 ∧ m2 (O 1) 2 = .ref (Bs (π2 4) 0) ∧ ∀ i, i < 4 → m2 (O 2) i = .ref (Bs (π2 i) 0))
    (hπ : ∀ i, i < 5 → 2 ≤ π2 i ∧ π2 i < 7) : zDk G Bs O m0 π2 vs hk2 cn2 T g m2 := by
  obtain ⟨a1, ⟨b1, b2, b3, b4⟩, -, -, -, f, fr⟩ := h
  have ne : ∀ i k, i < 5 → k < 5 → i ≠ k → O i ≠ O k := fun i k hi hk hn z => hn (b3 i k hi hk z)
  refine ⟨fun q hq => ?_, ⟨b1, b2, b3, b4⟩, h0, h1, hπ, f.move (hm _ (ne 3 0 (by omega) (by omega) (by omega)) (ne 3 1 (by omega) (by omega) (by omega)) (ne 3 2 (by omega) (by omega) (by omega))) (hm _ (ne 4 0 (by omega) (by omega) (by omega)) (ne 4 1 (by omega) (by omega) (by omega)) (ne 4 2 (by omega) (by omega) (by omega))), fun b x1 x2 => ?_⟩
  · exact (a1 q hq).move (fun j hj => hm _ (fun z => b4 0 q j (by omega) hq hj z.symm) (fun z => b4 1 q j (by omega) hq hj z.symm) (fun z => b4 2 q j (by omega) hq hj z.symm))
  · rw [hm b (x1 0 (by decide)) (x1 1 (by decide)) (x1 2 (by decide))]; exact fr b x1 x2
theorem zDk.ne {G : zG} {Bs : Nat → Nat → Nat} {O : Nat → Nat} {m0 mm : zM} {π : Nat → Nat} {vs : Nat → Nat → Int32} {hk cn : Int32} {T g : Nat → Int32} (h : zDk G Bs O m0 π vs hk cn T g mm) {i k : Nat} (hi : i < 5) (hk5 : k < 5) (hn : i ≠ k) : O i ≠ O k := fun z => hn (h.2.1.2.2.1 i k hi hk5 z)
theorem zru_rng {π : Nat → Nat} (h : ∀ i, i < 5 → 2 ≤ π i ∧ π i < 7) {n q : Nat} (hq : 2 ≤ q ∧ q < 7) : ∀ i, i < 5 → 2 ≤ zru π n q i ∧ zru π n q i < 7 := fun i hi => by
  unfold zru
  split
  · exact hq
  · exact h i hi
theorem zDk.ast {G : zG} {Bs : Nat → Nat → Nat} {O : Nat → Nat} {m0 mm : zM} {π : Nat → Nat} {vs : Nat → Nat → Int32} {hk cn : Int32} {T g : Nat → Int32} (h : zDk G Bs O m0 π vs hk cn T g mm) {n q : Nat} (hn : n < 4) (hq : 2 ≤ q ∧ q < 7) : zDk G Bs O m0 (zru π n q) vs hk cn T g (zup mm (O 2) n (.ref (Bs q 0))) := by
  have c := h.2.2.1
  have d := h.2.2.2.1
  refine h.own (fun b _ _ b2 => by funext k; exact zup_ne (fun z => b2 z.1)) ?_ ⟨?_, ?_, ?_, fun i hi => ?_⟩ (zru_rng h.2.2.2.2.1 hq)
  · rw [zup_ne (fun z => h.ne (by decide) (by decide) (by decide) z.1), zup_ne (fun z => h.ne (by decide) (by decide) (by decide) z.1), zup_ne (fun z => h.ne (by decide) (by decide) (by decide) z.1), zup_ne (fun z => h.ne (by decide) (by decide) (by decide) z.1), zup_ne (fun z => h.ne (by decide) (by decide) (by decide) z.1)]
    exact c
  · rw [zup_ne (fun z => h.ne (by decide) (by decide) (by decide) z.1)]; exact d.1
  · rw [zup_ne (fun z => h.ne (by decide) (by decide) (by decide) z.1)]; exact d.2.1
  · rw [zup_ne (fun z => h.ne (by decide) (by decide) (by decide) z.1)]; unfold zru; rw [if_neg (by omega)]; exact d.2.2.1
  · unfold zru
    by_cases e : i = n
    · subst e; rw [zup_eq, if_pos rfl]
    · rw [zup_ne (fun z => e z.2), if_neg e]; exact d.2.2.2 i hi
theorem zDk.cnt {G : zG} {Bs : Nat → Nat → Nat} {O : Nat → Nat} {m0 mm : zM} {π : Nat → Nat} {vs : Nat → Nat → Int32} {hk cn : Int32} {T g : Nat → Int32} (h : zDk G Bs O m0 π vs hk cn T g mm) (x : Int32) : zDk G Bs O m0 π vs hk x T g (zup mm (O 1) 1 (.int x)) := by
  have c := h.2.2.1
  have d := h.2.2.2.1
  refine h.own (fun b _ b1 _ => by funext k; exact zup_ne (fun z => b1 z.1)) ?_ ⟨?_, zup_eq _ _ _ _, ?_, fun i hi => ?_⟩ h.2.2.2.2.1
  · rw [zup_ne (fun z => h.ne (by decide) (by decide) (by decide) z.1), zup_ne (fun z => h.ne (by decide) (by decide) (by decide) z.1), zup_ne (fun z => h.ne (by decide) (by decide) (by decide) z.1), zup_ne (fun z => h.ne (by decide) (by decide) (by decide) z.1), zup_ne (fun z => h.ne (by decide) (by decide) (by decide) z.1)]
    exact c
  · rw [zup_ne (fun z => absurd z.2 (by decide))]; exact d.1
  · rw [zup_ne (fun z => absurd z.2 (by decide))]; exact d.2.2.1
  · rw [zup_ne (fun z => h.ne (by decide) (by decide) (by decide) z.1)]; exact d.2.2.2 i hi
theorem zDk.prep {G : zG} {Bs : Nat → Nat → Nat} {O : Nat → Nat} {m0 mm : zM} {π : Nat → Nat} {vs : Nat → Nat → Int32} {hk cn : Int32} {T g : Nat → Int32} (h : zDk G Bs O m0 π vs hk cn T g mm) {q : Nat} (hq : 2 ≤ q ∧ q < 7) : zDk G Bs O m0 (zru π 4 q) vs hk cn T g (zup mm (O 1) 2 (.ref (Bs q 0))) := by
  have c := h.2.2.1
  have d := h.2.2.2.1
  refine h.own (fun b _ b1 _ => by funext k; exact zup_ne (fun z => b1 z.1)) ?_ ⟨?_, ?_, zup_eq _ _ _ _, fun i hi => ?_⟩ (zru_rng h.2.2.2.2.1 hq)
  · rw [zup_ne (fun z => h.ne (by decide) (by decide) (by decide) z.1), zup_ne (fun z => h.ne (by decide) (by decide) (by decide) z.1), zup_ne (fun z => h.ne (by decide) (by decide) (by decide) z.1), zup_ne (fun z => h.ne (by decide) (by decide) (by decide) z.1), zup_ne (fun z => h.ne (by decide) (by decide) (by decide) z.1)]
    exact c
  · rw [zup_ne (fun z => absurd z.2 (by decide))]; exact d.1
  · rw [zup_ne (fun z => absurd z.2 (by decide))]; exact d.2.1
  · rw [zup_ne (fun z => h.ne (by decide) (by decide) (by decide) z.1)]; unfold zru; rw [if_neg (by omega)]; exact d.2.2.2 i hi
theorem zDk.kept {G : zG} {Bs : Nat → Nat → Nat} {O : Nat → Nat} {m0 mm : zM} {π : Nat → Nat} {vs : Nat → Nat → Int32} {hk cn : Int32} {T g : Nat → Int32} (h : zDk G Bs O m0 π vs hk cn T g mm) (x : Int32) : zDk G Bs O m0 π vs x cn T g (zup mm (O 0) 2 (.int x)) := by
  have c := h.2.2.1
  have d := h.2.2.2.1
  refine h.own (fun b b0 _ _ => by funext k; exact zup_ne (fun z => b0 z.1)) ⟨?_, ?_, zup_eq _ _ _ _, ?_, ?_⟩ ⟨?_, ?_, ?_, fun i hi => ?_⟩ h.2.2.2.2.1
  · rw [zup_ne (fun z => absurd z.2 (by decide))]; exact c.1
  · rw [zup_ne (fun z => absurd z.2 (by decide))]; exact c.2.1
  · rw [zup_ne (fun z => absurd z.2 (by decide))]; exact c.2.2.2.1
  · rw [zup_ne (fun z => absurd z.2 (by decide))]; exact c.2.2.2.2
  · rw [zup_ne (fun z => h.ne (by decide) (by decide) (by decide) z.1)]; exact d.1
  · rw [zup_ne (fun z => h.ne (by decide) (by decide) (by decide) z.1)]; exact d.2.1
  · rw [zup_ne (fun z => h.ne (by decide) (by decide) (by decide) z.1)]; exact d.2.2.1
  · rw [zup_ne (fun z => h.ne (by decide) (by decide) (by decide) z.1)]; exact d.2.2.2 i hi
section ZKR
variable {l : Launch} {G : zG} {y : MethodName} {cc : ByteArray} {nL : Nat} {ret : Option FieldType} {d0 : Nat} {rv : Option Value} {Q : zM → Prop} {pc : Nat} {lv : List (Option Value)} {st : List Value} {mm m0 : zM} {Bs : Nat → Nat → Nat} {O π : Nat → Nat} {vs : Nat → Nat → Int32} {hk cn : Int32} {T g : Nat → Int32} {ix n : Nat} {own : String}
theorem zK6_0 (hp : zDk G Bs O m0 π vs hk cn T g mm) (ho : own = y.cls) (hlink : Cond.fieldLink own ix RX6 (TX6 0).2.1 (TX6 0).2.2.1 ∈ zU) (hd : decode cc pc = .ok (.getfield ix, 3)) (kk : zV l G (y, cc, nL, ret) d0 rv Q (pc + 3) lv (.ref (Bs 0 0) :: st) mm) : zV l G (y, cc, nL, ret) d0 rv Q pc lv (.ref (O 0) :: st) mm :=
  z_get (ci := 6) zin6 rfl (by decide) (by decide) rfl ho hlink (hp.2.1.2.1 0 (by decide)).1 (hp.2.1.2.1 0 (by decide)).2 hp.2.2.1.1 hd kk
theorem zK6_1 (hp : zDk G Bs O m0 π vs hk cn T g mm) (ho : own = y.cls) (hlink : Cond.fieldLink own ix RX6 (TX6 1).2.1 (TX6 1).2.2.1 ∈ zU) (hd : decode cc pc = .ok (.getfield ix, 3)) (kk : zV l G (y, cc, nL, ret) d0 rv Q (pc + 3) lv (.ref (Bs 1 0) :: st) mm) : zV l G (y, cc, nL, ret) d0 rv Q pc lv (.ref (O 0) :: st) mm :=
  z_get (ci := 6) zin6 rfl (by decide) (by decide) rfl ho hlink (hp.2.1.2.1 0 (by decide)).1 (hp.2.1.2.1 0 (by decide)).2 hp.2.2.1.2.1 hd kk
theorem zK6_2 (hp : zDk G Bs O m0 π vs hk cn T g mm) (ho : own = y.cls) (hlink : Cond.fieldLink own ix RX6 (TX6 2).2.1 (TX6 2).2.2.1 ∈ zU) (hd : decode cc pc = .ok (.getfield ix, 3)) (kk : zV l G (y, cc, nL, ret) d0 rv Q (pc + 3) lv (.int hk :: st) mm) : zV l G (y, cc, nL, ret) d0 rv Q pc lv (.ref (O 0) :: st) mm :=
  z_get (ci := 6) zin6 rfl (by decide) (by decide) rfl ho hlink (hp.2.1.2.1 0 (by decide)).1 (hp.2.1.2.1 0 (by decide)).2 hp.2.2.1.2.2.1 hd kk
theorem zK6_3 (hp : zDk G Bs O m0 π vs hk cn T g mm) (ho : own = y.cls) (hlink : Cond.fieldLink own ix RX6 (TX6 3).2.1 (TX6 3).2.2.1 ∈ zU) (hd : decode cc pc = .ok (.getfield ix, 3)) (kk : zV l G (y, cc, nL, ret) d0 rv Q (pc + 3) lv (.ref (O 1) :: st) mm) : zV l G (y, cc, nL, ret) d0 rv Q pc lv (.ref (O 0) :: st) mm :=
  z_get (ci := 6) zin6 rfl (by decide) (by decide) rfl ho hlink (hp.2.1.2.1 0 (by decide)).1 (hp.2.1.2.1 0 (by decide)).2 hp.2.2.1.2.2.2.1 hd kk
theorem zK6_4 (hp : zDk G Bs O m0 π vs hk cn T g mm) (ho : own = y.cls) (hlink : Cond.fieldLink own ix RX6 (TX6 4).2.1 (TX6 4).2.2.1 ∈ zU) (hd : decode cc pc = .ok (.getfield ix, 3)) (kk : zV l G (y, cc, nL, ret) d0 rv Q (pc + 3) lv (.ref (O 3) :: st) mm) : zV l G (y, cc, nL, ret) d0 rv Q pc lv (.ref (O 0) :: st) mm :=
  z_get (ci := 6) zin6 rfl (by decide) (by decide) rfl ho hlink (hp.2.1.2.1 0 (by decide)).1 (hp.2.1.2.1 0 (by decide)).2 hp.2.2.1.2.2.2.2 hd kk
theorem zK2_0 (hp : zDk G Bs O m0 π vs hk cn T g mm) (ho : own = y.cls) (hlink : Cond.fieldLink own ix RX2 (TX2 0).2.1 (TX2 0).2.2.1 ∈ zU) (hd : decode cc pc = .ok (.getfield ix, 3)) (kk : zV l G (y, cc, nL, ret) d0 rv Q (pc + 3) lv (.ref (O 2) :: st) mm) : zV l G (y, cc, nL, ret) d0 rv Q pc lv (.ref (O 1) :: st) mm :=
  z_get (ci := 2) zin2 rfl (by decide) (by decide) rfl ho hlink (hp.2.1.2.1 1 (by decide)).1 (hp.2.1.2.1 1 (by decide)).2 hp.2.2.2.1.1 hd kk
theorem zK2_1 (hp : zDk G Bs O m0 π vs hk cn T g mm) (ho : own = y.cls) (hlink : Cond.fieldLink own ix RX2 (TX2 1).2.1 (TX2 1).2.2.1 ∈ zU) (hd : decode cc pc = .ok (.getfield ix, 3)) (kk : zV l G (y, cc, nL, ret) d0 rv Q (pc + 3) lv (.int cn :: st) mm) : zV l G (y, cc, nL, ret) d0 rv Q pc lv (.ref (O 1) :: st) mm :=
  z_get (ci := 2) zin2 rfl (by decide) (by decide) rfl ho hlink (hp.2.1.2.1 1 (by decide)).1 (hp.2.1.2.1 1 (by decide)).2 hp.2.2.2.1.2.1 hd kk
theorem zK2_2 (hp : zDk G Bs O m0 π vs hk cn T g mm) (ho : own = y.cls) (hlink : Cond.fieldLink own ix RX2 (TX2 2).2.1 (TX2 2).2.2.1 ∈ zU) (hd : decode cc pc = .ok (.getfield ix, 3)) (kk : zV l G (y, cc, nL, ret) d0 rv Q (pc + 3) lv (.ref (Bs (π 4) 0) :: st) mm) : zV l G (y, cc, nL, ret) d0 rv Q pc lv (.ref (O 1) :: st) mm :=
  z_get (ci := 2) zin2 rfl (by decide) (by decide) rfl ho hlink (hp.2.1.2.1 1 (by decide)).1 (hp.2.1.2.1 1 (by decide)).2 hp.2.2.2.1.2.2.1 hd kk
theorem zK_ald (hp : zDk G Bs O m0 π vs hk cn T g mm) (hn : n < 4) (hd : decode cc pc = .ok (.aaload, 1)) (kk : zV l G (y, cc, nL, ret) d0 rv Q (pc + 1) lv (.ref (Bs (π n) 0) :: st) mm) : zV l G (y, cc, nL, ret) d0 rv Q pc lv (.int (nI n) :: .ref (O 2) :: st) mm :=
  z_aald (t0 := 5) (C := RX5) (hp.2.1.2.1 2 (by decide)).1 (hp.2.1.2.1 2 (by decide)).2 (by decide) rfl rfl hn (by decide) (hp.2.2.2.1.2.2.2 n hn) hd kk
theorem zK_ast {q : Nat} (hp : zDk G Bs O m0 π vs hk cn T g mm) (hn : n < 4) (hq : 2 ≤ q ∧ q < 7) (hd : decode cc pc = .ok (.aastore, 1)) (kk : ∀ mm', zDk G Bs O m0 (zru π n q) vs hk cn T g mm' → zV l G (y, cc, nL, ret) d0 rv Q (pc + 1) lv st mm') : zV l G (y, cc, nL, ret) d0 rv Q pc lv (.ref (Bs q 0) :: .int (nI n) :: .ref (O 2) :: st) mm :=
  z_aast (t0 := 5) (C := RX5) (hp.2.1.2.1 2 (by decide)).1 (hp.2.1.2.1 2 (by decide)).2 (by decide) rfl ((hp.1 q hq.2).at (j := 0) (Or.inl (by decide))).1 ((hp.1 q hq.2).at (j := 0) (Or.inl (by decide))).2 (by decide) rfl rfl hn (by decide) hd (kk _ (hp.ast hn hq))
theorem zK2_p1 {x : Int32} (hp : zDk G Bs O m0 π vs hk cn T g mm) (ho : own = y.cls) (hlink : Cond.fieldLink own ix RX2 (TX2 1).2.1 (TX2 1).2.2.1 ∈ zU) (hd : decode cc pc = .ok (.putfield ix, 3)) (kk : ∀ mm', zDk G Bs O m0 π vs hk x T g mm' → zV l G (y, cc, nL, ret) d0 rv Q (pc + 3) lv st mm') : zV l G (y, cc, nL, ret) d0 rv Q pc lv (.int x :: .ref (O 1) :: st) mm :=
  z_put (ci := 2) (k := 1) zin2 tyX2_ok nmX2 rfl (by decide) (by decide) rfl rfl rfl rfl rfl ho hlink (hp.2.1.2.1 1 (by decide)).1 (hp.2.1.2.1 1 (by decide)).2 hd (kk _ (hp.cnt x))
theorem zK2_p2 {q : Nat} (hp : zDk G Bs O m0 π vs hk cn T g mm) (hq : 2 ≤ q ∧ q < 7) (ho : own = y.cls) (hlink : Cond.fieldLink own ix RX2 (TX2 2).2.1 (TX2 2).2.2.1 ∈ zU) (hd : decode cc pc = .ok (.putfield ix, 3)) (kk : ∀ mm', zDk G Bs O m0 (zru π 4 q) vs hk cn T g mm' → zV l G (y, cc, nL, ret) d0 rv Q (pc + 3) lv st mm') : zV l G (y, cc, nL, ret) d0 rv Q pc lv (.ref (Bs q 0) :: .ref (O 1) :: st) mm :=
  z_put (ci := 2) (k := 2) zin2 tyX2_ok nmX2 rfl (by decide) (by decide) rfl rfl rfl rfl rfl ho hlink (hp.2.1.2.1 1 (by decide)).1 (hp.2.1.2.1 1 (by decide)).2 hd (kk _ (hp.prep hq))
theorem zK6_p2 (hp : zDk G Bs O m0 π vs hk cn T g mm) (ho : own = y.cls) (hlink : Cond.fieldLink own ix RX6 (TX6 2).2.1 (TX6 2).2.2.1 ∈ zU) (hd : decode cc pc = .ok (.putfield ix, 3)) (kk : ∀ mm', zDk G Bs O m0 π vs 1 cn T g mm' → zV l G (y, cc, nL, ret) d0 rv Q (pc + 3) lv st mm') : zV l G (y, cc, nL, ret) d0 rv Q pc lv (.int 1 :: .ref (O 0) :: st) mm :=
  z_put (ci := 6) (k := 2) zin6 tyX6_ok nmX6 rfl (by decide) (by decide) rfl rfl rfl rfl rfl ho hlink (hp.2.1.2.1 0 (by decide)).1 (hp.2.1.2.1 0 (by decide)).2 hd (kk _ (hp.kept 1))
end ZKR
