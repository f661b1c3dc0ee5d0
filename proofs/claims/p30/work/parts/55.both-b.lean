theorem zV.imp {l : Launch} {G : zG} {Md : zMd} {d : Nat} {rv : Option Value} {Q Q' : zM → Prop} {pc : Nat} {lv : List (Option Value)} {st : List Value} {mm : zM} (h : zV l G Md d rv Q pc lv st mm) (hq : ∀ m', Q m' → Q' m') : zV l G Md d rv Q' pc lv st mm := by
  intro p e s m args below meth c H locs ls a1 a2 a3 a4 a5 a6 a7 a8 a9 a10 a11 a12 a13
  intro T hT X
  obtain ⟨t, b1, o, q1, q2, ⟨⟨r1, m', r2, r3⟩, r4⟩, q3⟩ := h p e s m args below meth c H locs ls a1 a2 a3 a4 a5 a6 a7 a8 a9 a10 a11 a12 a13 T hT X
  exact ⟨t, b1, o, q1, q2, ⟨⟨r1, m', hq m' r2, r3⟩, r4⟩, q3⟩
/-! ===== the reference's perform() ===== -/
/-! ===== the reference as a whole: v now, w kept (if hk), n States P 0 .. P (n - 1) in the history (the latest first), the text T with t signs ===== -/
def zPu (v : Nat → Int32) (P : Nat → Nat → Int32) : Nat → Nat → Int32 := fun i => if i = 0 then v else P (i - 1)
def kN (n : Nat) : Nat := if 4 < n + 1 then 4 else n + 1
theorem kN_le {n : Nat} : kN n ≤ 4 := by unfold kN; split <;> omega
def zHi (S : Nat → Nat → Int32) (n : Nat) (P : Nat → Nat → Int32) : Prop := S 0 3 = nI n ∧ ∀ i k, i < n → k < 607 → S 3 (607 * (n - 1 - i) + k) = P i k
def zFr (S S' : Nat → Nat → Int32) : Prop := S' 0 5 = S 0 5 ∧ S' 0 7 = S 0 7 ∧ S' 5 = S 5 ∧ S' 4 = S 4
theorem zFr.rf (S : Nat → Nat → Int32) : zFr S S := ⟨rfl, rfl, rfl, rfl⟩
theorem zFr.to {S S1 S2 : Nat → Nat → Int32} (a : zFr S S1) (b : zFr S1 S2) : zFr S S2 := ⟨b.1.trans a.1, b.2.1.trans a.2.1, b.2.2.1.trans a.2.2.1, b.2.2.2.trans a.2.2.2⟩
def mDs (G : zG) (A : Nat → Nat) (v w : Nat → Int32) (hk : Int32) (n : Nat) (P : Nat → Nat → Int32) (T : Nat → Int32) (t : Nat) (mm : zM) : Prop :=
  ∃ S, zMP G A mm v S mm ∧ zHi S n P ∧ S 0 5 = hk ∧ S 0 7 = nI t ∧ S 5 = T ∧ ∀ k, k < 607 → ¬ hk = 0 → S 4 k = w k
/-- nothing but the reference's cells has changed -/
def mOut (A : Nat → Nat) (mm m' : zM) : Prop := ∀ b, (∀ j, j < 8 → b ≠ A j) → m' b = mm b
theorem zMP.out {G : zG} {A : Nat → Nat} {m0 mm : zM} {v : Nat → Int32} {S : Nat → Nat → Int32} (h : zMP G A m0 v S mm) : mOut A m0 mm := h.2.2.2.2.2.2.2.2.2
theorem zMP.rb {G : zG} {A : Nat → Nat} {m0 mm m1 : zM} {v : Nat → Int32} {S : Nat → Nat → Int32} (h : zMP G A m0 v S mm) (e : ∀ j, j < 8 → m1 (A j) = mm (A j)) : zMP G A m1 v S m1 := by
  obtain ⟨h1, h2, h3, h4, h5, h6, h7, h8, h9, h10⟩ := h
  refine ⟨h1, h2, h3, fun k a b => ?_, fun k a b => ?_, fun i a => ?_, fun j i a b c => ?_, fun i a => ?_, fun i a => ?_, fun b _ => rfl⟩
  · rw [e 0 (by omega)]; exact h4 k a b
  · rw [e 0 (by omega)]; exact h5 k a b
  · rw [e 1 (by omega)]; exact h6 i a
  · rw [e j (by omega)]; exact h7 j i a b c
  · rw [e 6 (by omega)]; exact h8 i a
  · rw [e 7 (by omega)]; exact h9 i a
theorem mDs.move {G : zG} {A : Nat → Nat} {v w : Nat → Int32} {hk : Int32} {n : Nat} {P : Nat → Nat → Int32} {T : Nat → Int32} {t : Nat} {mm m1 : zM} (h : mDs G A v w hk n P T t mm) (e : ∀ j, j < 8 → m1 (A j) = mm (A j)) : mDs G A v w hk n P T t m1 := by
  obtain ⟨S, a, b⟩ := h
  exact ⟨S, a.rb e, b⟩
def kXn (x : Int32) (n : Nat) : Nat := if 0 ≤ x then kN n else n
def kXP (x : Int32) (v : Nat → Int32) (P : Nat → Nat → Int32) : Nat → Nat → Int32 := if 0 ≤ x then zPu v P else P
/-- what perform() answers, and the numbers behind it -/
def sPf (T : Nat → Int32) (t : Nat) (v : Nat → Int32) : Int32 × (Nat → Int32) :=
  if (sPA T t 62 0).2.1 = true then (if (sFo (sPA T t 62 0).1 v).1 < 0 then ((sFo (sPA T t 62 0).1 v).1, v) else (nI (sPA T t 62 0).1.length, (sFo (sPA T t 62 0).1 v).2)) else (-100 - nI (sPA T t 62 0).2.2, v)
set_option maxRecDepth 4000 in
theorem c_X6_restoreN8 {l : Launch} {G : zG} {Bs : Nat → Nat → Nat} {O : Nat → Nat} {m0 mm : zM} {π : Nat → Nat} {vs : Nat → Nat → Int32} {hk cn : Int32} {T g : Nat → Int32} (hp : zDk G Bs O m0 π vs hk cn T g mm) (hx : hk = 0) : zSem l G (yX6_restore, cX6_restore, 1, (some .int)) 7 [.ref (O 0)] mm (some (.int (-5))) (fun m' => m' = mm) := by
  refine z_met [some (.ref (O 0))] rfl (zc1 (by rfl)) (Nat.le_of_ble_eq_true rfl) rfl ?_
  refine z_aload_n 0 rfl rfl dX6_restore_0 ?_
  refine zK6_2 hp rfl zf_X6_111 dX6_restore_1 ?_
  refine z_if_ne 10 dX6_restore_4 rfl (fun c4 => ?_) (fun c4 => ?_)
  · exact absurd hx c4
  · refine z_bipush (-5) dX6_restore_7 (by decide) ?_
    exact z_iret dX6_restore_9 rfl rfl
/-! ===== the class as a whole, in the same words ===== -/
def kDs (G : zG) (Bs : Nat → Nat → Nat) (O : Nat → Nat) (v w : Nat → Int32) (hk : Int32) (n : Nat) (P : Nat → Nat → Int32) (T : Nat → Int32) (t : Nat) (mm : zM) : Prop :=
  ∃ (π : Nat → Nat) (vs : Nat → Nat → Int32) (p : Nat) (a b c : Int32), zDk G Bs O mm π vs hk (nI n) T (gP t p a b c) mm ∧ (∀ i j, i < 5 → j < 5 → π i = π j → i = j) ∧ vs 0 = v ∧ vs 1 = w ∧ ∀ i, i < n → vs (π i) = P i
/-- nothing but the class' cells has changed -/
def kOut (Bs : Nat → Nat → Nat) (O : Nat → Nat) (mm m' : zM) : Prop := ∀ b, (∀ k, k < 5 → b ≠ O k) → (∀ s j, s < 7 → zBd j → b ≠ Bs s j) → m' b = mm b
theorem zDk.out {G : zG} {Bs : Nat → Nat → Nat} {O : Nat → Nat} {m0 mm : zM} {π : Nat → Nat} {vs : Nat → Nat → Int32} {hk cn : Int32} {T g : Nat → Int32} (h : zDk G Bs O m0 π vs hk cn T g mm) : kOut Bs O m0 mm := h.2.2.2.2.2.2
theorem zDk.rb {G : zG} {Bs : Nat → Nat → Nat} {O : Nat → Nat} {m0 mm m1 : zM} {π : Nat → Nat} {vs : Nat → Nat → Int32} {hk cn : Int32} {T g : Nat → Int32} (h : zDk G Bs O m0 π vs hk cn T g mm) (e1 : ∀ k, k < 5 → m1 (O k) = mm (O k)) (e2 : ∀ s j, s < 7 → zBd j → m1 (Bs s j) = mm (Bs s j)) : zDk G Bs O m1 π vs hk cn T g m1 := by
  obtain ⟨a1, b1, ⟨c1, c2, c3, c4, c5⟩, ⟨d1, d2, d3, d4⟩, e, f, -⟩ := h
  refine ⟨fun s hs => (a1 s hs).move (fun j hj => e2 s j hs hj), b1, ⟨?_, ?_, ?_, ?_, ?_⟩, ⟨?_, ?_, ?_, fun i hi => ?_⟩, e, f.move (e1 3 (by decide)) (e1 4 (by decide)), fun b _ _ => rfl⟩
  · rw [e1 0 (by decide)]; exact c1
  · rw [e1 0 (by decide)]; exact c2
  · rw [e1 0 (by decide)]; exact c3
  · rw [e1 0 (by decide)]; exact c4
  · rw [e1 0 (by decide)]; exact c5
  · rw [e1 1 (by decide)]; exact d1
  · rw [e1 1 (by decide)]; exact d2
  · rw [e1 1 (by decide)]; exact d3
  · rw [e1 2 (by decide)]; exact d4 i hi
theorem kDs.move {G : zG} {Bs : Nat → Nat → Nat} {O : Nat → Nat} {v w : Nat → Int32} {hk : Int32} {n : Nat} {P : Nat → Nat → Int32} {T : Nat → Int32} {t : Nat} {mm m1 : zM} (h : kDs G Bs O v w hk n P T t mm) (e1 : ∀ k, k < 5 → m1 (O k) = mm (O k)) (e2 : ∀ s j, s < 7 → zBd j → m1 (Bs s j) = mm (Bs s j)) : kDs G Bs O v w hk n P T t m1 := by
  obtain ⟨π, vs, p, a, b, c, h1, h2⟩ := h
  exact ⟨π, vs, p, a, b, c, h1.rb e1 e2, h2⟩
theorem zDk.ds {G : zG} {Bs : Nat → Nat → Nat} {O : Nat → Nat} {mm m' : zM} {π : Nat → Nat} {vs : Nat → Nat → Int32} {hk cn : Int32} {T : Nat → Int32} {t p : Nat} {a b c : Int32} (h : zDk G Bs O mm π vs hk cn T (gP t p a b c) m') {n : Nat} {P : Nat → Nat → Int32} (hc : cn = nI n) (hi : ∀ i j, i < 5 → j < 5 → π i = π j → i = j) (hP : ∀ i, i < n → vs (π i) = P i) : kDs G Bs O (vs 0) (vs 1) hk n P T t m' ∧ kOut Bs O mm m' := by
  subst hc
  exact ⟨⟨π, vs, p, a, b, c, h.rb (fun _ _ => rfl) (fun _ _ _ _ => rfl), hi, rfl, rfl, hP⟩, h.out⟩
theorem kRot_inj {π : Nat → Nat} (hi : ∀ i j, i < 5 → j < 5 → π i = π j → i = j) : ∀ i j, i < 5 → j < 5 → kRot π i = kRot π j → i = j := by
  intro i j h1 h2 e
  unfold kRot at e
  have hi := fun a b c d => hi a b c d
  rcases (by omega : i = 0 ∨ i = 1 ∨ i = 2 ∨ i = 3 ∨ i = 4) with rfl | rfl | rfl | rfl | rfl <;> rcases (by omega : j = 0 ∨ j = 1 ∨ j = 2 ∨ j = 3 ∨ j = 4) with rfl | rfl | rfl | rfl | rfl <;> first | rfl | (have := hi _ _ (by decide) (by decide) e; omega)
theorem kUnr_inj {π : Nat → Nat} (hi : ∀ i j, i < 5 → j < 5 → π i = π j → i = j) : ∀ i j, i < 5 → j < 5 → kUnr π i = kUnr π j → i = j := by
  intro i j h1 h2 e
  unfold kUnr at e
  have hi := fun a b c d => hi a b c d
  rcases (by omega : i = 0 ∨ i = 1 ∨ i = 2 ∨ i = 3 ∨ i = 4) with rfl | rfl | rfl | rfl | rfl <;> rcases (by omega : j = 0 ∨ j = 1 ∨ j = 2 ∨ j = 3 ∨ j = 4) with rfl | rfl | rfl | rfl | rfl <;> first | rfl | (have := hi _ _ (by decide) (by decide) e; omega)
theorem kAct.ds {G : zG} {Bs : Nat → Nat → Nat} {O : Nat → Nat} {mm m' : zM} {π : Nat → Nat} {vs : Nat → Nat → Int32} {hk : Int32} {T : Nat → Int32} {t p n : Nat} {a b c x : Int32} {v' : Nat → Int32} {P : Nat → Nat → Int32} (h : kAct G Bs O mm π vs hk (nI n) T (gP t p a b c) x v' m') (hn : n ≤ 4) (hr : ∀ i, i < 5 → 2 ≤ π i ∧ π i < 7) (hi : ∀ i j, i < 5 → j < 5 → π i = π j → i = j) (hP : ∀ i, i < n → vs (π i) = P i) : kDs G Bs O v' (vs 1) hk (kXn x n) (kXP x (vs 0) P) T t m' ∧ kOut Bs O mm m' := by
  have u0 : zUs (zUs vs (π 4) (vs 0)) 0 v' 0 = v' := zUs_s
  have u1 : zUs (zUs vs (π 4) (vs 0)) 0 v' 1 = vs 1 := by rw [zUs_o (by decide), zUs_o (by have := (hr 4 (by decide)).1; omega)]
  have u4 : zUs (zUs vs (π 4) (vs 0)) 0 v' (π 4) = vs 0 := by rw [zUs_o (by have := (hr 4 (by decide)).1; omega), zUs_s]
  have ui : ∀ i, i < 4 → zUs (zUs vs (π 4) (vs 0)) 0 v' (π i) = vs (π i) := fun i h4 => by rw [zUs_o (by have := (hr i (by omega)).1; omega), zUs_o (fun z => by have := hi i 4 (by omega) (by decide) z; omega)]
  unfold kAct at h
  unfold kXn kXP
  by_cases q : 0 ≤ x
  · rw [if_pos q] at h
    rw [if_pos q, if_pos q]
    have k := h.ds (n := kN n) (P := zPu (vs 0) P) (by
      unfold kN
      by_cases z : 4 < n + 1
      · rw [if_pos z, nI_add, if_pos (nI_lt z (by omega))]
      · rw [if_neg z, nI_add, if_neg (nI_nlt (by omega) (by omega))]) (kRot_inj hi) (fun i hi2 => by
      have hle := kN_le (n := n)
      have hle2 : kN n ≤ n + 1 := by unfold kN; split <;> omega
      unfold kRot zPu
      by_cases i0 : i = 0
      · rw [if_pos i0, if_pos i0]; exact u4
      · rw [if_neg i0, if_neg i0, if_pos (by omega), ui _ (by omega)]; exact hP _ (by omega))
    rw [u0, u1] at k
    exact k
  · rw [if_neg q] at h
    rw [if_neg q, if_neg q]
    have k := h.ds (n := n) (P := P) rfl hi (fun i hi2 => by rw [ui i (by omega)]; exact hP i hi2)
    rw [u0, u1] at k
    exact k
theorem d_X6_buy {l : Launch} {G : zG} {Bs : Nat → Nat → Nat} {O : Nat → Nat} {mm : zM} {v w : Nat → Int32} {hk : Int32} {n : Nat} {P : Nat → Nat → Int32} {T : Nat → Int32} {t : Nat} (h : kDs G Bs O v w hk n P T t mm) (hY : zY v) (hn : n ≤ 4) (x y : Int32) : zSem l G (yX6_buy, cX6_buy, 3, (some .int)) 7 [.ref (O 0), .int x, .int y] mm (some (.int ((sDoBuy v x y).1))) (fun m' => kDs G Bs O (sDoBuy v x y).2 w hk (kXn (sDoBuy v x y).1 n) (kXP (sDoBuy v x y).1 v P) T t m' ∧ kOut Bs O mm m') := by
  have h0 := h
  obtain ⟨π, vs, p, a1, b1, c1, hp, hi, rfl, rfl, hP⟩ := h
  exact (c_X6_buy hp x y hY.1.1 hY.1.2).imp (fun m' h => h.ds hn hp.2.2.2.2.1 hi hP)
theorem d_X6_buyOffered {l : Launch} {G : zG} {Bs : Nat → Nat → Nat} {O : Nat → Nat} {mm : zM} {v w : Nat → Int32} {hk : Int32} {n : Nat} {P : Nat → Nat → Int32} {T : Nat → Int32} {t : Nat} (h : kDs G Bs O v w hk n P T t mm) (hY : zY v) (hn : n ≤ 4) (x y : Int32) : zSem l G (yX6_buyOffered, cX6_buyOffered, 3, (some .int)) 7 [.ref (O 0), .int x, .int y] mm (some (.int ((sDoOff v x y).1))) (fun m' => kDs G Bs O (sDoOff v x y).2 w hk (kXn (sDoOff v x y).1 n) (kXP (sDoOff v x y).1 v P) T t m' ∧ kOut Bs O mm m') := by
  have h0 := h
  obtain ⟨π, vs, p, a1, b1, c1, hp, hi, rfl, rfl, hP⟩ := h
  exact (c_X6_buyOffered hp x y hY.1.1 hY.1.2).imp (fun m' h => h.ds hn hp.2.2.2.2.1 hi hP)
theorem d_X6_cancel {l : Launch} {G : zG} {Bs : Nat → Nat → Nat} {O : Nat → Nat} {mm : zM} {v w : Nat → Int32} {hk : Int32} {n : Nat} {P : Nat → Nat → Int32} {T : Nat → Int32} {t : Nat} (h : kDs G Bs O v w hk n P T t mm) (hY : zY v) (hn : n ≤ 4) (x : Int32) : zSem l G (yX6_cancel, cX6_cancel, 2, (some .int)) 7 [.ref (O 0), .int x] mm (some (.int ((sDoCan v x).1))) (fun m' => kDs G Bs O (sDoCan v x).2 w hk (kXn (sDoCan v x).1 n) (kXP (sDoCan v x).1 v P) T t m' ∧ kOut Bs O mm m') := by
  have h0 := h
  obtain ⟨π, vs, p, a1, b1, c1, hp, hi, rfl, rfl, hP⟩ := h
  exact (c_X6_cancel hp x hY.1.1 hY.1.2).imp (fun m' h => h.ds hn hp.2.2.2.2.1 hi hP)
theorem d_X6_offer {l : Launch} {G : zG} {Bs : Nat → Nat → Nat} {O : Nat → Nat} {mm : zM} {v w : Nat → Int32} {hk : Int32} {n : Nat} {P : Nat → Nat → Int32} {T : Nat → Int32} {t : Nat} (h : kDs G Bs O v w hk n P T t mm) (hY : zY v) (hn : n ≤ 4) (x y : Int32) : zSem l G (yX6_offer, cX6_offer, 3, (some .int)) 7 [.ref (O 0), .int x, .int y] mm (some (.int ((sDoOfr v x y).1))) (fun m' => kDs G Bs O (sDoOfr v x y).2 w hk (kXn (sDoOfr v x y).1 n) (kXP (sDoOfr v x y).1 v P) T t m' ∧ kOut Bs O mm m') := by
  have h0 := h
  obtain ⟨π, vs, p, a1, b1, c1, hp, hi, rfl, rfl, hP⟩ := h
  exact (c_X6_offer hp x y hY.1.1 hY.1.2).imp (fun m' h => h.ds hn hp.2.2.2.2.1 hi hP)
theorem d_X6_exercise {l : Launch} {G : zG} {Bs : Nat → Nat → Nat} {O : Nat → Nat} {mm : zM} {v w : Nat → Int32} {hk : Int32} {n : Nat} {P : Nat → Nat → Int32} {T : Nat → Int32} {t : Nat} (h : kDs G Bs O v w hk n P T t mm) (hY : zY v) (hn : n ≤ 4) (x : Int32) : zSem l G (yX6_exercise, cX6_exercise, 2, (some .int)) 7 [.ref (O 0), .int x] mm (some (.int ((sDoEx v x).1))) (fun m' => kDs G Bs O (sDoEx v x).2 w hk (kXn (sDoEx v x).1 n) (kXP (sDoEx v x).1 v P) T t m' ∧ kOut Bs O mm m') := by
  have h0 := h
  obtain ⟨π, vs, p, a1, b1, c1, hp, hi, rfl, rfl, hP⟩ := h
  exact (c_X6_exercise hp x hY.1.1 hY.1.2).imp (fun m' h => h.ds hn hp.2.2.2.2.1 hi hP)
theorem d_X6_addDate {l : Launch} {G : zG} {Bs : Nat → Nat → Nat} {O : Nat → Nat} {mm : zM} {v w : Nat → Int32} {hk : Int32} {n : Nat} {P : Nat → Nat → Int32} {T : Nat → Int32} {t : Nat} (h : kDs G Bs O v w hk n P T t mm) (hY : zY v) (hn : n ≤ 4) (a b c e f : Int32) : zSem l G (yX6_addDate, cX6_addDate, 6, (some .int)) 7 [.ref (O 0), .int a, .int b, .int c, .int e, .int f] mm (some (.int ((sAdd v a b c e f).1))) (fun m' => kDs G Bs O (sAdd v a b c e f).2.1 w hk (kXn (sAdd v a b c e f).1 n) (kXP (sAdd v a b c e f).1 v P) T t m' ∧ kOut Bs O mm m') := by
  have h0 := h
  obtain ⟨π, vs, p, a1, b1, c1, hp, hi, rfl, rfl, hP⟩ := h
  exact (c_X6_addDate hp a b c e f hY.1.1 hY.1.2).imp (fun m' h => h.ds hn hp.2.2.2.2.1 hi hP)
theorem d_X6_setStage {l : Launch} {G : zG} {Bs : Nat → Nat → Nat} {O : Nat → Nat} {mm : zM} {v w : Nat → Int32} {hk : Int32} {n : Nat} {P : Nat → Nat → Int32} {T : Nat → Int32} {t : Nat} (h : kDs G Bs O v w hk n P T t mm) (hY : zY v) (hn : n ≤ 4) (x y z : Int32) : zSem l G (yX6_setStage, cX6_setStage, 4, (some .int)) 7 [.ref (O 0), .int x, .int y, .int z] mm (some (.int ((sSt v x y z).1))) (fun m' => kDs G Bs O (sSt v x y z).2.1 w hk (kXn (sSt v x y z).1 n) (kXP (sSt v x y z).1 v P) T t m' ∧ kOut Bs O mm m') := by
  have h0 := h
  obtain ⟨π, vs, p, a1, b1, c1, hp, hi, rfl, rfl, hP⟩ := h
  exact (c_X6_setStage hp x y z hY.1.1 hY.1.2).imp (fun m' h => h.ds hn hp.2.2.2.2.1 hi hP)
theorem d_X6_set {l : Launch} {G : zG} {Bs : Nat → Nat → Nat} {O : Nat → Nat} {mm : zM} {v w : Nat → Int32} {hk : Int32} {n : Nat} {P : Nat → Nat → Int32} {T : Nat → Int32} {t : Nat} (h : kDs G Bs O v w hk n P T t mm) (hY : zY v) (hn : n ≤ 4) (x y : Int32) : zSem l G (yX6_set, cX6_set, 3, (some .int)) 7 [.ref (O 0), .int x, .int y] mm (some (.int ((sSet v x y).1))) (fun m' => kDs G Bs O (sSet v x y).2.1 w hk (kXn (sSet v x y).1 n) (kXP (sSet v x y).1 v P) T t m' ∧ kOut Bs O mm m') := by
  have h0 := h
  obtain ⟨π, vs, p, a1, b1, c1, hp, hi, rfl, rfl, hP⟩ := h
  exact (c_X6_set hp x y hY.1.1 hY.1.2).imp (fun m' h => h.ds hn hp.2.2.2.2.1 hi hP)
theorem d_X6_takeBack {l : Launch} {G : zG} {Bs : Nat → Nat → Nat} {O : Nat → Nat} {mm : zM} {v w : Nat → Int32} {hk : Int32} {n : Nat} {P : Nat → Nat → Int32} {T : Nat → Int32} {t : Nat} (h : kDs G Bs O v w hk n P T t mm) (hY : zY v) (hn : n ≤ 4) (x : Int32) : zSem l G (yX6_takeBack, cX6_takeBack, 2, (some .int)) 7 [.ref (O 0), .int x] mm (some (.int ((sTk v x).1))) (fun m' => kDs G Bs O (sTk v x).2.1 w hk (kXn (sTk v x).1 n) (kXP (sTk v x).1 v P) T t m' ∧ kOut Bs O mm m') := by
  have h0 := h
  obtain ⟨π, vs, p, a1, b1, c1, hp, hi, rfl, rfl, hP⟩ := h
  exact (c_X6_takeBack hp x hY.1.1 hY.1.2).imp (fun m' h => h.ds hn hp.2.2.2.2.1 hi hP)
theorem d_X6_await {l : Launch} {G : zG} {Bs : Nat → Nat → Nat} {O : Nat → Nat} {mm : zM} {v w : Nat → Int32} {hk : Int32} {n : Nat} {P : Nat → Nat → Int32} {T : Nat → Int32} {t : Nat} (h : kDs G Bs O v w hk n P T t mm) (hY : zY v) (hn : n ≤ 4) (x y : Int32) : zSem l G (yX6_await, cX6_await, 3, (some .int)) 7 [.ref (O 0), .int x, .int y] mm (some (.int ((sAw v x y).1))) (fun m' => kDs G Bs O (sAw v x y).2.1 w hk (kXn (sAw v x y).1 n) (kXP (sAw v x y).1 v P) T t m' ∧ kOut Bs O mm m') := by
  have h0 := h
  obtain ⟨π, vs, p, a1, b1, c1, hp, hi, rfl, rfl, hP⟩ := h
  exact (c_X6_await hp x y hY.1.1 hY.1.2).imp (fun m' h => h.ds hn hp.2.2.2.2.1 hi hP)
theorem d_X6_leave {l : Launch} {G : zG} {Bs : Nat → Nat → Nat} {O : Nat → Nat} {mm : zM} {v w : Nat → Int32} {hk : Int32} {n : Nat} {P : Nat → Nat → Int32} {T : Nat → Int32} {t : Nat} (h : kDs G Bs O v w hk n P T t mm) (hY : zY v) (hn : n ≤ 4) (x y : Int32) : zSem l G (yX6_leave, cX6_leave, 3, (some .int)) 7 [.ref (O 0), .int x, .int y] mm (some (.int ((sLv v x y).1))) (fun m' => kDs G Bs O (sLv v x y).2.1 w hk (kXn (sLv v x y).1 n) (kXP (sLv v x y).1 v P) T t m' ∧ kOut Bs O mm m') := by
  have h0 := h
  obtain ⟨π, vs, p, a1, b1, c1, hp, hi, rfl, rfl, hP⟩ := h
  exact (c_X6_leave hp x y hY.1.1 hY.1.2).imp (fun m' h => h.ds hn hp.2.2.2.2.1 hi hP)
theorem d_X6_pass {l : Launch} {G : zG} {Bs : Nat → Nat → Nat} {O : Nat → Nat} {mm : zM} {v w : Nat → Int32} {hk : Int32} {n : Nat} {P : Nat → Nat → Int32} {T : Nat → Int32} {t : Nat} (h : kDs G Bs O v w hk n P T t mm) (hY : zY v) (hn : n ≤ 4) (x : Int32) : zSem l G (yX6_pass, cX6_pass, 2, (some .int)) 7 [.ref (O 0), .int x] mm (some (.int ((sPass v x).1))) (fun m' => kDs G Bs O (sPass v x).2.1 w hk (kXn (sPass v x).1 n) (kXP (sPass v x).1 v P) T t m' ∧ kOut Bs O mm m') := by
  have h0 := h
  obtain ⟨π, vs, p, a1, b1, c1, hp, hi, rfl, rfl, hP⟩ := h
  exact (c_X6_pass hp x hY.1.1 hY.1.2).imp (fun m' h => h.ds hn hp.2.2.2.2.1 hi hP)
theorem d_X6_date {l : Launch} {G : zG} {Bs : Nat → Nat → Nat} {O : Nat → Nat} {mm : zM} {v w : Nat → Int32} {hk : Int32} {n : Nat} {P : Nat → Nat → Int32} {T : Nat → Int32} {t : Nat} (h : kDs G Bs O v w hk n P T t mm) (hY : zY v) (hn : n ≤ 4) (x y : Int32) : zSem l G (yX6_date, cX6_date, 4, (some .int)) 6 [.ref (O 0), .int x, .int y] mm (some (.int (sDate v x y))) (fun m' => kDs G Bs O v w hk n P T t m' ∧ kOut Bs O mm m') := by
  have h0 := h
  obtain ⟨π, vs, p, a1, b1, c1, hp, hi, rfl, rfl, hP⟩ := h
  exact (c_X6_date hp x y hY.1.1).imp (fun m' h => by subst h; exact ⟨h0, fun _ _ _ => rfl⟩)
theorem d_X6_waiting {l : Launch} {G : zG} {Bs : Nat → Nat → Nat} {O : Nat → Nat} {mm : zM} {v w : Nat → Int32} {hk : Int32} {n : Nat} {P : Nat → Nat → Int32} {T : Nat → Int32} {t : Nat} (h : kDs G Bs O v w hk n P T t mm) (hY : zY v) (hn : n ≤ 4) (x y : Int32) : zSem l G (yX6_waiting, cX6_waiting, 4, (some .int)) 6 [.ref (O 0), .int x, .int y] mm (some (.int (sWait v x y))) (fun m' => kDs G Bs O v w hk n P T t m' ∧ kOut Bs O mm m') := by
  have h0 := h
  obtain ⟨π, vs, p, a1, b1, c1, hp, hi, rfl, rfl, hP⟩ := h
  exact (c_X6_waiting hp x y hY.1.1).imp (fun m' h => by subst h; exact ⟨h0, fun _ _ _ => rfl⟩)
theorem d_X6_right {l : Launch} {G : zG} {Bs : Nat → Nat → Nat} {O : Nat → Nat} {mm : zM} {v w : Nat → Int32} {hk : Int32} {n : Nat} {P : Nat → Nat → Int32} {T : Nat → Int32} {t : Nat} (h : kDs G Bs O v w hk n P T t mm) (hY : zY v) (hn : n ≤ 4) (x y : Int32) : zSem l G (yX6_right, cX6_right, 4, (some .int)) 6 [.ref (O 0), .int x, .int y] mm (some (.int (sRight v x y))) (fun m' => kDs G Bs O v w hk n P T t m' ∧ kOut Bs O mm m') := by
  have h0 := h
  obtain ⟨π, vs, p, a1, b1, c1, hp, hi, rfl, rfl, hP⟩ := h
  exact (c_X6_right hp x y hY.1.1 hY.1.2).imp (fun m' h => by subst h; exact ⟨h0, fun _ _ _ => rfl⟩)
theorem d_X6_stage {l : Launch} {G : zG} {Bs : Nat → Nat → Nat} {O : Nat → Nat} {mm : zM} {v w : Nat → Int32} {hk : Int32} {n : Nat} {P : Nat → Nat → Int32} {T : Nat → Int32} {t : Nat} (h : kDs G Bs O v w hk n P T t mm) (hY : zY v) (hn : n ≤ 4) (x y : Int32) : zSem l G (yX6_stage, cX6_stage, 3, (some .int)) 6 [.ref (O 0), .int x, .int y] mm (some (.int (sStg v x y))) (fun m' => kDs G Bs O v w hk n P T t m' ∧ kOut Bs O mm m') := by
  have h0 := h
  obtain ⟨π, vs, p, a1, b1, c1, hp, hi, rfl, rfl, hP⟩ := h
  exact (c_X6_stage hp x y ).imp (fun m' h => by subst h; exact ⟨h0, fun _ _ _ => rfl⟩)
theorem d_X6_priceIn {l : Launch} {G : zG} {Bs : Nat → Nat → Nat} {O : Nat → Nat} {mm : zM} {v w : Nat → Int32} {hk : Int32} {n : Nat} {P : Nat → Nat → Int32} {T : Nat → Int32} {t : Nat} (h : kDs G Bs O v w hk n P T t mm) (hY : zY v) (hn : n ≤ 4) (x y : Int32) : zSem l G (yX6_priceIn, cX6_priceIn, 5, (some .int)) 6 [.ref (O 0), .int x, .int y] mm (some (.int (sPin v x y))) (fun m' => kDs G Bs O v w hk n P T t m' ∧ kOut Bs O mm m') := by
  have h0 := h
  obtain ⟨π, vs, p, a1, b1, c1, hp, hi, rfl, rfl, hP⟩ := h
  exact (c_X6_priceIn hp x y hY.1.1).imp (fun m' h => by subst h; exact ⟨h0, fun _ _ _ => rfl⟩)
theorem d_X6_event {l : Launch} {G : zG} {Bs : Nat → Nat → Nat} {O : Nat → Nat} {mm : zM} {v w : Nat → Int32} {hk : Int32} {n : Nat} {P : Nat → Nat → Int32} {T : Nat → Int32} {t : Nat} (h : kDs G Bs O v w hk n P T t mm) (hY : zY v) (hn : n ≤ 4) (x y : Int32) : zSem l G (yX6_event, cX6_event, 4, (some .int)) 6 [.ref (O 0), .int x, .int y] mm (some (.int (sEv v x y))) (fun m' => kDs G Bs O v w hk n P T t m' ∧ kOut Bs O mm m') := by
  have h0 := h
  obtain ⟨π, vs, p, a1, b1, c1, hp, hi, rfl, rfl, hP⟩ := h
  exact (c_X6_event hp x y hY.1.1).imp (fun m' h => by subst h; exact ⟨h0, fun _ _ _ => rfl⟩)
theorem d_X6_holder {l : Launch} {G : zG} {Bs : Nat → Nat → Nat} {O : Nat → Nat} {mm : zM} {v w : Nat → Int32} {hk : Int32} {n : Nat} {P : Nat → Nat → Int32} {T : Nat → Int32} {t : Nat} (h : kDs G Bs O v w hk n P T t mm) (hY : zY v) (hn : n ≤ 4) (x y : Int32) : zSem l G (yX6_holder, cX6_holder, 3, (some .int)) 6 [.ref (O 0), .int x, .int y] mm (some (.int (sHold v x y))) (fun m' => kDs G Bs O v w hk n P T t m' ∧ kOut Bs O mm m') := by
  have h0 := h
  obtain ⟨π, vs, p, a1, b1, c1, hp, hi, rfl, rfl, hP⟩ := h
  exact (c_X6_holder hp x y hY.1.1).imp (fun m' h => by subst h; exact ⟨h0, fun _ _ _ => rfl⟩)
theorem d_X6_count {l : Launch} {G : zG} {Bs : Nat → Nat → Nat} {O : Nat → Nat} {mm : zM} {v w : Nat → Int32} {hk : Int32} {n : Nat} {P : Nat → Nat → Int32} {T : Nat → Int32} {t : Nat} (h : kDs G Bs O v w hk n P T t mm) (hY : zY v) (hn : n ≤ 4) (x : Int32) : zSem l G (yX6_count, cX6_count, 2, (some .int)) 6 [.ref (O 0), .int x] mm (some (.int (if x = nI 14 then nI n else if x = nI 15 then nI t else kCount v x))) (fun m' => kDs G Bs O v w hk n P T t m' ∧ kOut Bs O mm m') := by
  have h0 := h
  obtain ⟨π, vs, p, a1, b1, c1, hp, hi, rfl, rfl, hP⟩ := h
  exact (c_X6_count hp x hY.1.1).imp (fun m' h => by subst h; exact ⟨h0, fun _ _ _ => rfl⟩)
theorem d_X6_wouldCover {l : Launch} {G : zG} {Bs : Nat → Nat → Nat} {O : Nat → Nat} {mm : zM} {v w : Nat → Int32} {hk : Int32} {n : Nat} {P : Nat → Nat → Int32} {T : Nat → Int32} {t : Nat} (h : kDs G Bs O v w hk n P T t mm) (hY : zY v) (hn : n ≤ 4) (x : Int32) : zSem l G (yX6_wouldCover, cX6_wouldCover, 3, (some .int)) 6 [.ref (O 0), .int x] mm (some (.int ((sWc v x).1))) (fun m' => kDs G Bs O v w hk n P T t m' ∧ kOut Bs O mm m') := by
  have h0 := h
  obtain ⟨π, vs, p, a1, b1, c1, hp, hi, rfl, rfl, hP⟩ := h
  have hr := hp.2.2.2.2.1
  refine (c_X6_wouldCover hp x hY.1.1).imp (fun m' h => ?_)
  obtain ⟨v', h⟩ := h
  have k := h.ds (n := n) (P := P) rfl hi (fun i hi2 => by rw [zUs_o (fun z => by have := hi i 4 (by omega) (by decide) z; omega)]; exact hP i hi2)
  rw [zUs_o (by have := (hr 4 (by decide)).1; omega), zUs_o (by have := (hr 4 (by decide)).1; omega)] at k
  exact k
theorem d_X6_keep {l : Launch} {G : zG} {Bs : Nat → Nat → Nat} {O : Nat → Nat} {mm : zM} {v w : Nat → Int32} {hk : Int32} {n : Nat} {P : Nat → Nat → Int32} {T : Nat → Int32} {t : Nat} (h : kDs G Bs O v w hk n P T t mm) (hY : zY v) (hn : n ≤ 4) : zSem l G (yX6_keep, cX6_keep, 1, (some .int)) 4 [.ref (O 0)] mm (some (.int (v 0))) (fun m' => kDs G Bs O v v (nI 1) n P T t m' ∧ kOut Bs O mm m') := by
  have h0 := h
  obtain ⟨π, vs, p, a1, b1, c1, hp, hi, rfl, rfl, hP⟩ := h
  have hr := hp.2.2.2.2.1
  refine (c_X6_keep hp).imp (fun m' h => ?_)
  have k := h.ds (n := n) (P := P) rfl hi (fun i hi2 => by rw [zUs_o (by have := (hr i (by omega)).1; omega)]; exact hP i hi2)
  rw [zUs_o (by decide), zUs_s] at k
  exact k
theorem d_X6_undo {l : Launch} {G : zG} {Bs : Nat → Nat → Nat} {O : Nat → Nat} {mm : zM} {v w : Nat → Int32} {hk : Int32} {n : Nat} {P : Nat → Nat → Int32} {T : Nat → Int32} {t : Nat} (h : kDs G Bs O v w hk n P T t mm) (hY : zY v) (hn : n ≤ 4) : zSem l G (yX6_undo, cX6_undo, 2, (some .int)) 4 [.ref (O 0)] mm (some (.int (if n = 0 then -5 else nI (n - 1)))) (fun m' => kDs G Bs O (if n = 0 then v else P 0) w hk (n - 1) (fun i => P (i + 1)) T t m' ∧ kOut Bs O mm m') := by
  have h0 := h
  obtain ⟨π, vs, p, a1, b1, c1, hp, hi, rfl, rfl, hP⟩ := h
  have hr := hp.2.2.2.2.1
  by_cases q : n = 0
  · subst q
    rw [if_pos rfl, if_pos rfl]
    refine (c_X6_undoN hp rfl).imp (fun m' h => ?_)
    subst h
    exact ⟨⟨π, vs, p, a1, b1, c1, hp, hi, rfl, rfl, fun i hi2 => by omega⟩, fun _ _ _ => rfl⟩
  · rw [if_neg q, if_neg q]
    have k := c_X6_undo (l := l) hp (fun z => q ((nI_eq (a := n) (b := 0) (by omega) (by omega)).mp z))
    rw [nI_sub (by omega)] at k
    refine k.imp (fun m' h => ?_)
    have k := h.ds (n := n - 1) (P := fun i => P (i + 1)) rfl (kUnr_inj hi) (fun i hi2 => by
      unfold kUnr
      rw [if_pos (by omega), zUs_o (by have := (hr (i + 1) (by omega)).1; omega)]
      exact hP (i + 1) (by omega))
    rw [zUs_s, zUs_o (by decide), hP 0 (by omega)] at k
    exact k
theorem d_X6_restore {l : Launch} {G : zG} {Bs : Nat → Nat → Nat} {O : Nat → Nat} {mm : zM} {v w : Nat → Int32} {hk : Int32} {n : Nat} {P : Nat → Nat → Int32} {T : Nat → Int32} {t : Nat} (h : kDs G Bs O v w hk n P T t mm) (hY : zY v) (hn : n ≤ 4) (hw : ¬ hk = 0 → zY w) : zSem l G (yX6_restore, cX6_restore, 1, (some .int)) 7 [.ref (O 0)] mm (some (.int (if hk = 0 then -5 else w 0))) (fun m' => kDs G Bs O (if hk = 0 then v else w) w hk (if hk = 0 then n else kN n) (if hk = 0 then P else zPu v P) T t m' ∧ kOut Bs O mm m') := by
  have h0 := h
  obtain ⟨π, vs, p, a1, b1, c1, hp, hi, rfl, rfl, hP⟩ := h
  by_cases q : hk = 0
  · rw [if_pos q, if_pos q, if_pos q, if_pos q]
    exact (c_X6_restoreN8 hp q).imp (fun m' h => by subst h; exact ⟨h0, fun _ _ _ => rfl⟩)
  · rw [if_neg q, if_neg q, if_neg q, if_neg q]
    obtain ⟨x, hx, ex⟩ := (hw q).1.1.2.1
    have h1 : 0 ≤ vs 1 0 := by rw [ex]; exact nI_nn (by omega)
    refine (c_X6_restore hp q h1).imp (fun m' h => ?_)
    have k := h.ds hn hp.2.2.2.2.1 hi hP
    rw [show kXn (vs 1 0) n = kN n from if_pos h1, show kXP (vs 1 0) (vs 0) P = zPu (vs 0) P from if_pos h1] at k
    exact k
theorem d_X6_perform {l : Launch} {G : zG} {Bs : Nat → Nat → Nat} {O : Nat → Nat} {mm : zM} {v w : Nat → Int32} {hk : Int32} {n : Nat} {P : Nat → Nat → Int32} {T : Nat → Int32} {t : Nat} (h : kDs G Bs O v w hk n P T t mm) (hY : zY v) (hn : n ≤ 4) (ht : t ≤ 60) : zSem l G (yX6_perform, cX6_perform, 4, (some .int)) 7 [.ref (O 0)] mm (some (.int ((sPf T t v).1))) (fun m' => kDs G Bs O (sPf T t v).2 w hk (kXn (sPf T t v).1 n) (kXP (sPf T t v).1 v P) T t m' ∧ kOut Bs O mm m') := by
  have h0 := h
  obtain ⟨π, vs, p, a1, b1, c1, hp, hi, rfl, rfl, hP⟩ := h
  have hln := sPA_len (T := T) (t := t) 62 0
  have hle := sPA_le (T := T) (t := t) 62 0 (by omega)
  by_cases hg : (sPA T t 62 0).2.1 = true
  · have k := c_X6_perform (l := l) hp ht hg hY.1
    by_cases hx : (sFo (sPA T t 62 0).1 (vs 0)).1 < 0
    · have e9 : sPf T t (vs 0) = ((sFo (sPA T t 62 0).1 (vs 0)).1, vs 0) := by unfold sPf; rw [if_pos hg, if_pos hx]
      rw [e9]
      simp only [if_pos hx] at k
      refine k.imp (fun m' h => ?_)
      obtain ⟨p2, a2, b2, c2, h⟩ := h
      have h' : kAct G Bs O mm π vs hk (nI n) T (gP t p2 a2 b2 c2) (sFo (sPA T t 62 0).1 (vs 0)).1 (vs 0) m' := by unfold kAct; rw [if_neg (i_not_le.mpr hx)]; exact h
      exact h'.ds hn hp.2.2.2.2.1 hi hP
    · have e9 : sPf T t (vs 0) = (nI (sPA T t 62 0).1.length, (sFo (sPA T t 62 0).1 (vs 0)).2) := by unfold sPf; rw [if_pos hg, if_neg hx]
      rw [e9]
      simp only [if_neg hx] at k
      refine k.imp (fun m' h => ?_)
      obtain ⟨p2, a2, b2, c2, h⟩ := h
      have h' : kAct G Bs O mm π vs hk (nI n) T (gP t p2 a2 b2 c2) (nI (sPA T t 62 0).1.length) (sFo (sPA T t 62 0).1 (vs 0)).2 m' := by unfold kAct; rw [if_pos (nI_nn (by omega))]; exact h
      exact h'.ds hn hp.2.2.2.2.1 hi hP
  · have hb : (sPA T t 62 0).2.1 = false := by simpa using hg
    have e9 : sPf T t (vs 0) = (-100 - nI (sPA T t 62 0).2.2, vs 0) := by unfold sPf; rw [if_neg hg]
    have hx : (-100 - nI (sPA T t 62 0).2.2 : Int32) < 0 := kNg (by omega)
    rw [e9]
    refine (c_X6_performN hp ht hb).imp (fun m' h => ?_)
    obtain ⟨p2, a2, b2, c2, h⟩ := h
    have k := h.ds (n := n) (P := P) rfl hi hP
    rw [show kXn (-100 - nI (sPA T t 62 0).2.2) n = n from if_neg (i_not_le.mpr hx), show kXP (-100 - nI (sPA T t 62 0).2.2) (vs 0) P = P from if_neg (i_not_le.mpr hx)]
    exact k
