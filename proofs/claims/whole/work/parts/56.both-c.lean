/-! ===== class and reference side by side ===== -/
def zSm (v w : Nat → Int32) (hk : Int32) (n : Nat) (P : Nat → Nat → Int32) (t : Nat) : Prop := zY v ∧ (¬ hk = 0 → zY w) ∧ n ≤ 4 ∧ (∀ i, i < n → zY (P i)) ∧ t ≤ 60
def zTw (G : zG) (Bs : Nat → Nat → Nat) (O A : Nat → Nat) (mm : zM) : Prop := ∃ (v w : Nat → Int32) (hk : Int32) (n : Nat) (P : Nat → Nat → Int32) (T : Nat → Int32) (t : Nat), zSm v w hk n P t ∧ kDs G Bs O v w hk n P T t mm ∧ mDs G A v w hk n P T t mm
def zAp (Bs : Nat → Nat → Nat) (O A : Nat → Nat) : Prop := (∀ k j, k < 5 → j < 8 → O k ≠ A j) ∧ ∀ s i j, s < 7 → zBd i → j < 8 → Bs s i ≠ A j
/-- one call of both: the same answer, and they stand side by side again -/
def zPr (l : Launch) (G : zG) (Bs : Nat → Nat → Nat) (O A : Nat → Nat) (mC : zMd) (dC : Nat) (aC : List Value) (mM : zMd) (dM : Nat) (aM : List Value) : Prop :=
  ∀ mm, zTw G Bs O A mm → ∃ (F : Int32) (X : zM → Prop), zSem l G mC dC aC mm (some (.int F)) X ∧ ∀ m', X m' → zSem l G mM dM aM m' (some (.int F)) (zTw G Bs O A)
theorem zTw.go {l : Launch} {G : zG} {Bs : Nat → Nat → Nat} {O A : Nat → Nat} (hA : zAp Bs O A) {mC : zMd} {dC : Nat} {aC : List Value} {mM : zMd} {dM : Nat} {aM : List Value} {mm : zM} {F : Int32} {v w v' w' : Nat → Int32} {hk hk' : Int32} {n n' : Nat} {P P' : Nat → Nat → Int32} {T T' : Nat → Int32} {t t' : Nat}
    (hm : mDs G A v w hk n P T t mm) (hC : zSem l G mC dC aC mm (some (.int F)) (fun m' => kDs G Bs O v' w' hk' n' P' T' t' m' ∧ kOut Bs O mm m')) (hM : ∀ m', mDs G A v w hk n P T t m' → zSem l G mM dM aM m' (some (.int F)) (fun m'' => mDs G A v' w' hk' n' P' T' t' m'' ∧ mOut A m' m'')) (hY : zSm v' w' hk' n' P' t') :
    ∃ (F : Int32) (X : zM → Prop), zSem l G mC dC aC mm (some (.int F)) X ∧ ∀ m', X m' → zSem l G mM dM aM m' (some (.int F)) (zTw G Bs O A) := by
  refine ⟨F, _, hC, fun m' h => ?_⟩
  obtain ⟨h1, h2⟩ := h
  have e : ∀ j, j < 8 → m' (A j) = mm (A j) := fun j hj => h2 _ (fun k hk z => hA.1 k j hk hj z.symm) (fun s i hs hi z => hA.2 s i j hs hi hj z.symm)
  refine (hM m' (hm.move e)).imp (fun m2 q => ?_)
  obtain ⟨q1, q2⟩ := q
  exact ⟨v', w', hk', n', P', T', t', hY, h1.move (fun k hk => q2 _ (fun j hj z => hA.1 k j hk hj z)) (fun s i hs hi => q2 _ (fun j hj z => hA.2 s i j hs hi hj z)), q1⟩
theorem zSm.act {v w v' : Nat → Int32} {hk : Int32} {n : Nat} {P : Nat → Nat → Int32} {t : Nat} (h : zSm v w hk n P t) (h2 : zY v') (x : Int32) : zSm v' w hk (kXn x n) (kXP x v P) t := by
  obtain ⟨a, b, c, d, e⟩ := h
  refine ⟨h2, b, ?_, ?_, e⟩
  · unfold kXn; split
    · exact kN_le
    · exact c
  · intro i hi
    unfold kXn at hi
    unfold kXP
    by_cases q : 0 ≤ x
    · rw [if_pos q] at hi
      rw [if_pos q]
      unfold zPu
      by_cases i0 : i = 0
      · rw [if_pos i0]; exact a
      · rw [if_neg i0]
        exact d _ (by have : kN n ≤ n + 1 := by unfold kN; split <;> omega
                      omega)
    · rw [if_neg q] at hi
      rw [if_neg q]; exact d i hi
theorem zP_addDate {l : Launch} {G : zG} {Bs : Nat → Nat → Nat} {O A : Nat → Nat} (hA : zAp Bs O A) (x1 x2 x3 x4 x5 : Int32) : zPr l G Bs O A (yX6_addDate, cX6_addDate, 6, (some .int)) 8 [.ref (O 0), .int x1, .int x2, .int x3, .int x4, .int x5] (yX7_addDate, cX7_addDate, 7, (some .int)) 2 [.ref (A 0), .int x1, .int x2, .int x3, .int x4, .int x5] := by
  rintro mm ⟨v, w, hk, n, P, T, t, hY, hc, hm⟩
  exact zTw.go hA hm (d_X6_addDate hc hY.1 hY.2.2.1 x1 x2 x3 x4 x5) (fun m' h => d_X7_addDate h hY.1 hY.2.2.1 x1 x2 x3 x4 x5) (hY.act (hY.1.add x1 x2 x3 x4 x5) _)
theorem zP_setStage {l : Launch} {G : zG} {Bs : Nat → Nat → Nat} {O A : Nat → Nat} (hA : zAp Bs O A) (x1 x2 x3 : Int32) : zPr l G Bs O A (yX6_setStage, cX6_setStage, 4, (some .int)) 8 [.ref (O 0), .int x1, .int x2, .int x3] (yX7_setStage, cX7_setStage, 8, (some .int)) 2 [.ref (A 0), .int x1, .int x2, .int x3] := by
  rintro mm ⟨v, w, hk, n, P, T, t, hY, hc, hm⟩
  exact zTw.go hA hm (d_X6_setStage hc hY.1 hY.2.2.1 x1 x2 x3) (fun m' h => d_X7_setStage h hY.1 hY.2.2.1 x1 x2 x3) (hY.act (hY.1.st x1 x2 x3) _)
theorem zP_set {l : Launch} {G : zG} {Bs : Nat → Nat → Nat} {O A : Nat → Nat} (hA : zAp Bs O A) (x1 x2 : Int32) : zPr l G Bs O A (yX6_set, cX6_set, 3, (some .int)) 8 [.ref (O 0), .int x1, .int x2] (yX7_set, cX7_set, 4, (some .int)) 2 [.ref (A 0), .int x1, .int x2] := by
  rintro mm ⟨v, w, hk, n, P, T, t, hY, hc, hm⟩
  exact zTw.go hA hm (d_X6_set hc hY.1 hY.2.2.1 x1 x2) (fun m' h => d_X7_set h hY.1 hY.2.2.1 x1 x2) (hY.act (hY.1.set x1 x2) _)
theorem zP_buy {l : Launch} {G : zG} {Bs : Nat → Nat → Nat} {O A : Nat → Nat} (hA : zAp Bs O A) (x1 x2 : Int32) : zPr l G Bs O A (yX6_buy, cX6_buy, 3, (some .int)) 8 [.ref (O 0), .int x1, .int x2] (yX7_buy, cX7_buy, 3, (some .int)) 8 [.ref (A 0), .int x1, .int x2] := by
  rintro mm ⟨v, w, hk, n, P, T, t, hY, hc, hm⟩
  exact zTw.go hA hm (d_X6_buy hc hY.1 hY.2.2.1 x1 x2) (fun m' h => d_X7_buy h hY.1 hY.2.2.1 x1 x2) (hY.act (hY.1.buy x1 x2) _)
theorem zP_buyOffered {l : Launch} {G : zG} {Bs : Nat → Nat → Nat} {O A : Nat → Nat} (hA : zAp Bs O A) (x1 x2 : Int32) : zPr l G Bs O A (yX6_buyOffered, cX6_buyOffered, 3, (some .int)) 8 [.ref (O 0), .int x1, .int x2] (yX7_buyOffered, cX7_buyOffered, 3, (some .int)) 6 [.ref (A 0), .int x1, .int x2] := by
  rintro mm ⟨v, w, hk, n, P, T, t, hY, hc, hm⟩
  exact zTw.go hA hm (d_X6_buyOffered hc hY.1 hY.2.2.1 x1 x2) (fun m' h => d_X7_buyOffered h hY.1 hY.2.2.1 x1 x2) (hY.act (hY.1.off x1 x2) _)
theorem zP_cancel {l : Launch} {G : zG} {Bs : Nat → Nat → Nat} {O A : Nat → Nat} (hA : zAp Bs O A) (x1 : Int32) : zPr l G Bs O A (yX6_cancel, cX6_cancel, 2, (some .int)) 8 [.ref (O 0), .int x1] (yX7_cancel, cX7_cancel, 2, (some .int)) 9 [.ref (A 0), .int x1] := by
  rintro mm ⟨v, w, hk, n, P, T, t, hY, hc, hm⟩
  exact zTw.go hA hm (d_X6_cancel hc hY.1 hY.2.2.1 x1) (fun m' h => d_X7_cancel h hY.1 hY.2.2.1 x1) (hY.act (hY.1.can x1) _)
theorem zP_offer {l : Launch} {G : zG} {Bs : Nat → Nat → Nat} {O A : Nat → Nat} (hA : zAp Bs O A) (x1 x2 : Int32) : zPr l G Bs O A (yX6_offer, cX6_offer, 3, (some .int)) 8 [.ref (O 0), .int x1, .int x2] (yX7_offer, cX7_offer, 3, (some .int)) 5 [.ref (A 0), .int x1, .int x2] := by
  rintro mm ⟨v, w, hk, n, P, T, t, hY, hc, hm⟩
  exact zTw.go hA hm (d_X6_offer hc hY.1 hY.2.2.1 x1 x2) (fun m' h => d_X7_offer h hY.1 hY.2.2.1 x1 x2) (hY.act (hY.1.ofr x1 x2) _)
theorem zP_takeBack {l : Launch} {G : zG} {Bs : Nat → Nat → Nat} {O A : Nat → Nat} (hA : zAp Bs O A) (x1 : Int32) : zPr l G Bs O A (yX6_takeBack, cX6_takeBack, 2, (some .int)) 8 [.ref (O 0), .int x1] (yX7_takeBack, cX7_takeBack, 3, (some .int)) 3 [.ref (A 0), .int x1] := by
  rintro mm ⟨v, w, hk, n, P, T, t, hY, hc, hm⟩
  exact zTw.go hA hm (d_X6_takeBack hc hY.1 hY.2.2.1 x1) (fun m' h => d_X7_takeBack h hY.1 hY.2.2.1 x1) (hY.act (hY.1.tk x1) _)
theorem zP_exercise {l : Launch} {G : zG} {Bs : Nat → Nat → Nat} {O A : Nat → Nat} (hA : zAp Bs O A) (x1 : Int32) : zPr l G Bs O A (yX6_exercise, cX6_exercise, 2, (some .int)) 8 [.ref (O 0), .int x1] (yX7_exercise, cX7_exercise, 2, (some .int)) 6 [.ref (A 0), .int x1] := by
  rintro mm ⟨v, w, hk, n, P, T, t, hY, hc, hm⟩
  exact zTw.go hA hm (d_X6_exercise hc hY.1 hY.2.2.1 x1) (fun m' h => d_X7_exercise h hY.1 hY.2.2.1 x1) (hY.act (hY.1.ex x1) _)
theorem zP_await {l : Launch} {G : zG} {Bs : Nat → Nat → Nat} {O A : Nat → Nat} (hA : zAp Bs O A) (x1 x2 : Int32) : zPr l G Bs O A (yX6_await, cX6_await, 3, (some .int)) 8 [.ref (O 0), .int x1, .int x2] (yX7_await, cX7_await, 3, (some .int)) 5 [.ref (A 0), .int x1, .int x2] := by
  rintro mm ⟨v, w, hk, n, P, T, t, hY, hc, hm⟩
  exact zTw.go hA hm (d_X6_await hc hY.1 hY.2.2.1 x1 x2) (fun m' h => d_X7_await h hY.1 hY.2.2.1 x1 x2) (hY.act (hY.1.aw x1 x2) _)
theorem zP_leave {l : Launch} {G : zG} {Bs : Nat → Nat → Nat} {O A : Nat → Nat} (hA : zAp Bs O A) (x1 x2 : Int32) : zPr l G Bs O A (yX6_leave, cX6_leave, 3, (some .int)) 8 [.ref (O 0), .int x1, .int x2] (yX7_leave, cX7_leave, 4, (some .int)) 4 [.ref (A 0), .int x1, .int x2] := by
  rintro mm ⟨v, w, hk, n, P, T, t, hY, hc, hm⟩
  exact zTw.go hA hm (d_X6_leave hc hY.1 hY.2.2.1 x1 x2) (fun m' h => d_X7_leave h hY.1 hY.2.2.1 x1 x2) (hY.act (hY.1.lv x1 x2) _)
theorem zP_pass {l : Launch} {G : zG} {Bs : Nat → Nat → Nat} {O A : Nat → Nat} (hA : zAp Bs O A) (x1 : Int32) : zPr l G Bs O A (yX6_pass, cX6_pass, 2, (some .int)) 8 [.ref (O 0), .int x1] (yX7_pass, cX7_pass, 4, (some .int)) 9 [.ref (A 0), .int x1] := by
  rintro mm ⟨v, w, hk, n, P, T, t, hY, hc, hm⟩
  exact zTw.go hA hm (d_X6_pass hc hY.1 hY.2.2.1 x1) (fun m' h => d_X7_pass h hY.1 hY.2.2.1 x1) (hY.act (hY.1.pass x1) _)
theorem zP_type {l : Launch} {G : zG} {Bs : Nat → Nat → Nat} {O A : Nat → Nat} (hA : zAp Bs O A) (x1 : Int32) (hx : vp_nar .char x1 = x1) : zPr l G Bs O A (yX6_type, cX6_type, 2, (some .int)) 4 [.ref (O 0), .int x1] (yX7_type, cX7_type, 2, (some .int)) 1 [.ref (A 0), .int x1] := by
  rintro mm ⟨v, w, hk, n, P, T, t, hY, hc, hm⟩
  exact zTw.go hA hm (d_X6_type hc hY.1 hY.2.2.1 x1 hY.2.2.2.2 hx) (fun m' h => d_X7_type h hY.1 hY.2.2.1 x1 hY.2.2.2.2) ⟨hY.1, hY.2.1, hY.2.2.1, hY.2.2.2.1, by have := hY.2.2.2.2; split <;> omega⟩
theorem zP_clearText {l : Launch} {G : zG} {Bs : Nat → Nat → Nat} {O A : Nat → Nat} (hA : zAp Bs O A) : zPr l G Bs O A (yX6_clearText, cX6_clearText, 1, (some .int)) 4 [.ref (O 0)] (yX7_clearText, cX7_clearText, 2, (some .int)) 1 [.ref (A 0)] := by
  rintro mm ⟨v, w, hk, n, P, T, t, hY, hc, hm⟩
  exact zTw.go hA hm (d_X6_clearText hc hY.1 hY.2.2.1 hY.2.2.2.2) (fun m' h => d_X7_clearText h hY.1 hY.2.2.1 ) ⟨hY.1, hY.2.1, hY.2.2.1, hY.2.2.2.1, by omega⟩
theorem zP_perform {l : Launch} {G : zG} {Bs : Nat → Nat → Nat} {O A : Nat → Nat} (hA : zAp Bs O A) : zPr l G Bs O A (yX6_perform, cX6_perform, 4, (some .int)) 8 [.ref (O 0)] (yX7_perform, cX7_perform, 3, (some .int)) 10 [.ref (A 0)] := by
  rintro mm ⟨v, w, hk, n, P, T, t, hY, hc, hm⟩
  exact zTw.go hA hm (d_X6_perform hc hY.1 hY.2.2.1 hY.2.2.2.2) (fun m' h => d_X7_perform h hY.1 hY.2.2.1 hY.2.2.2.2) (hY.act (hY.1.pf T t) _)
theorem zP_undo {l : Launch} {G : zG} {Bs : Nat → Nat → Nat} {O A : Nat → Nat} (hA : zAp Bs O A) : zPr l G Bs O A (yX6_undo, cX6_undo, 2, (some .int)) 4 [.ref (O 0)] (yX7_undo, cX7_undo, 2, (some .int)) 1 [.ref (A 0)] := by
  rintro mm ⟨v, w, hk, n, P, T, t, hY, hc, hm⟩
  exact zTw.go hA hm (d_X6_undo hc hY.1 hY.2.2.1 ) (fun m' h => d_X7_undo h hY.1 hY.2.2.1 ) ⟨by split; exact hY.1; exact hY.2.2.2.1 0 (by omega), hY.2.1, by have := hY.2.2.1; omega, fun i hi => hY.2.2.2.1 (i + 1) (by omega), hY.2.2.2.2⟩
theorem zP_keep {l : Launch} {G : zG} {Bs : Nat → Nat → Nat} {O A : Nat → Nat} (hA : zAp Bs O A) : zPr l G Bs O A (yX6_keep, cX6_keep, 1, (some .int)) 4 [.ref (O 0)] (yX7_keep, cX7_keep, 2, (some .int)) 1 [.ref (A 0)] := by
  rintro mm ⟨v, w, hk, n, P, T, t, hY, hc, hm⟩
  exact zTw.go hA hm (d_X6_keep hc hY.1 hY.2.2.1 ) (fun m' h => d_X7_keep h hY.1 hY.2.2.1 ) ⟨hY.1, fun _ => hY.1, hY.2.2.1, hY.2.2.2.1, hY.2.2.2.2⟩
theorem zP_restore {l : Launch} {G : zG} {Bs : Nat → Nat → Nat} {O A : Nat → Nat} (hA : zAp Bs O A) : zPr l G Bs O A (yX6_restore, cX6_restore, 1, (some .int)) 8 [.ref (O 0)] (yX7_restore, cX7_restore, 2, (some .int)) 2 [.ref (A 0)] := by
  rintro mm ⟨v, w, hk, n, P, T, t, hY, hc, hm⟩
  exact zTw.go hA hm (d_X6_restore hc hY.1 hY.2.2.1 hY.2.1) (fun m' h => d_X7_restore h hY.1 hY.2.2.1 ) (by
    by_cases q : hk = 0
    · rw [if_pos q, if_pos q, if_pos q]; exact hY
    · rw [if_neg q, if_neg q, if_neg q]
      have k := hY.act (hY.2.1 q) 0
      rw [show kXn 0 n = kN n from if_pos (by decide), show kXP 0 v P = zPu v P from if_pos (by decide)] at k
      exact k)
theorem zP_date {l : Launch} {G : zG} {Bs : Nat → Nat → Nat} {O A : Nat → Nat} (hA : zAp Bs O A) (x1 x2 : Int32) : zPr l G Bs O A (yX6_date, cX6_date, 4, (some .int)) 8 [.ref (O 0), .int x1, .int x2] (yX7_date, cX7_date, 4, (some .int)) 6 [.ref (A 0), .int x1, .int x2] := by
  rintro mm ⟨v, w, hk, n, P, T, t, hY, hc, hm⟩
  exact zTw.go hA hm (d_X6_date hc hY.1 hY.2.2.1 x1 x2) (fun m' h => d_X7_date h hY.1 hY.2.2.1 x1 x2) hY
theorem zP_waiting {l : Launch} {G : zG} {Bs : Nat → Nat → Nat} {O A : Nat → Nat} (hA : zAp Bs O A) (x1 x2 : Int32) : zPr l G Bs O A (yX6_waiting, cX6_waiting, 4, (some .int)) 8 [.ref (O 0), .int x1, .int x2] (yX7_waiting, cX7_waiting, 3, (some .int)) 3 [.ref (A 0), .int x1, .int x2] := by
  rintro mm ⟨v, w, hk, n, P, T, t, hY, hc, hm⟩
  exact zTw.go hA hm (d_X6_waiting hc hY.1 hY.2.2.1 x1 x2) (fun m' h => d_X7_waiting h hY.1 hY.2.2.1 x1 x2) hY
theorem zP_right {l : Launch} {G : zG} {Bs : Nat → Nat → Nat} {O A : Nat → Nat} (hA : zAp Bs O A) (x1 x2 : Int32) : zPr l G Bs O A (yX6_right, cX6_right, 4, (some .int)) 8 [.ref (O 0), .int x1, .int x2] (yX7_right, cX7_right, 3, (some .int)) 6 [.ref (A 0), .int x1, .int x2] := by
  rintro mm ⟨v, w, hk, n, P, T, t, hY, hc, hm⟩
  exact zTw.go hA hm (d_X6_right hc hY.1 hY.2.2.1 x1 x2) (fun m' h => d_X7_right h hY.1 hY.2.2.1 x1 x2) hY
theorem zP_holder {l : Launch} {G : zG} {Bs : Nat → Nat → Nat} {O A : Nat → Nat} (hA : zAp Bs O A) (x1 x2 : Int32) : zPr l G Bs O A (yX6_holder, cX6_holder, 3, (some .int)) 8 [.ref (O 0), .int x1, .int x2] (yX7_holder, cX7_holder, 7, (some .int)) 4 [.ref (A 0), .int x1, .int x2] := by
  rintro mm ⟨v, w, hk, n, P, T, t, hY, hc, hm⟩
  exact zTw.go hA hm (d_X6_holder hc hY.1 hY.2.2.1 x1 x2) (fun m' h => d_X7_holder h hY.1 hY.2.2.1 x1 x2) hY
theorem zP_stage {l : Launch} {G : zG} {Bs : Nat → Nat → Nat} {O A : Nat → Nat} (hA : zAp Bs O A) (x1 x2 : Int32) : zPr l G Bs O A (yX6_stage, cX6_stage, 3, (some .int)) 8 [.ref (O 0), .int x1, .int x2] (yX7_stage, cX7_stage, 3, (some .int)) 2 [.ref (A 0), .int x1, .int x2] := by
  rintro mm ⟨v, w, hk, n, P, T, t, hY, hc, hm⟩
  exact zTw.go hA hm (d_X6_stage hc hY.1 hY.2.2.1 x1 x2) (fun m' h => d_X7_stage h hY.1 hY.2.2.1 x1 x2) hY
theorem zP_priceIn {l : Launch} {G : zG} {Bs : Nat → Nat → Nat} {O A : Nat → Nat} (hA : zAp Bs O A) (x1 x2 : Int32) : zPr l G Bs O A (yX6_priceIn, cX6_priceIn, 5, (some .int)) 8 [.ref (O 0), .int x1, .int x2] (yX7_priceIn, cX7_priceIn, 4, (some .int)) 6 [.ref (A 0), .int x1, .int x2] := by
  rintro mm ⟨v, w, hk, n, P, T, t, hY, hc, hm⟩
  exact zTw.go hA hm (d_X6_priceIn hc hY.1 hY.2.2.1 x1 x2) (fun m' h => d_X7_priceIn h hY.1 hY.2.2.1 x1 x2) hY
theorem zP_wouldCover {l : Launch} {G : zG} {Bs : Nat → Nat → Nat} {O A : Nat → Nat} (hA : zAp Bs O A) (x1 : Int32) : zPr l G Bs O A (yX6_wouldCover, cX6_wouldCover, 3, (some .int)) 8 [.ref (O 0), .int x1] (yX7_wouldCover, cX7_wouldCover, 3, (some .int)) 6 [.ref (A 0), .int x1] := by
  rintro mm ⟨v, w, hk, n, P, T, t, hY, hc, hm⟩
  exact zTw.go hA hm (d_X6_wouldCover hc hY.1 hY.2.2.1 x1) (fun m' h => d_X7_wouldCover h hY.1 hY.2.2.1 x1) hY
theorem zP_event {l : Launch} {G : zG} {Bs : Nat → Nat → Nat} {O A : Nat → Nat} (hA : zAp Bs O A) (x1 x2 : Int32) : zPr l G Bs O A (yX6_event, cX6_event, 4, (some .int)) 8 [.ref (O 0), .int x1, .int x2] (yX7_event, cX7_event, 3, (some .int)) 2 [.ref (A 0), .int x1, .int x2] := by
  rintro mm ⟨v, w, hk, n, P, T, t, hY, hc, hm⟩
  exact zTw.go hA hm (d_X6_event hc hY.1 hY.2.2.1 x1 x2) (fun m' h => d_X7_event h hY.1 hY.2.2.1 x1 x2) hY
theorem zP_count {l : Launch} {G : zG} {Bs : Nat → Nat → Nat} {O A : Nat → Nat} (hA : zAp Bs O A) (x1 : Int32) : zPr l G Bs O A (yX6_count, cX6_count, 2, (some .int)) 8 [.ref (O 0), .int x1] (yX7_count, cX7_count, 4, (some .int)) 3 [.ref (A 0), .int x1] := by
  rintro mm ⟨v, w, hk, n, P, T, t, hY, hc, hm⟩
  exact zTw.go hA hm (d_X6_count hc hY.1 hY.2.2.1 x1) (fun m' h => d_X7_count h hY.1 hY.2.2.1 x1) hY
