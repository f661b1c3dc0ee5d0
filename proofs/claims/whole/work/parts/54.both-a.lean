/-! ===== the reference as a whole: v now, w kept (if hk), n States P 0 .. P (n - 1) in the history (the latest first), the text T with t signs ===== -/
def zPu (v : Nat → Int32) (P : Nat → Nat → Int32) : Nat → Nat → Int32 := fun i => if i = 0 then v else P (i - 1)
def kN (n : Nat) : Nat := if 4 < n + 1 then 4 else n + 1
theorem kN_le {n : Nat} : kN n ≤ 4 := by unfold kN; split <;> omega
def zHi (S : Nat → Nat → Int32) (n : Nat) (P : Nat → Nat → Int32) : Prop := S 0 3 = nI n ∧ ∀ i k, i < n → k < 607 → S 3 (607 * (n - 1 - i) + k) = P i k
def zFr (S S' : Nat → Nat → Int32) : Prop := S' 0 5 = S 0 5 ∧ S' 0 7 = S 0 7 ∧ S' 5 = S 5 ∧ S' 4 = S 4
theorem zFr.rf (S : Nat → Nat → Int32) : zFr S S := ⟨rfl, rfl, rfl, rfl⟩
theorem zFr.to {S S1 S2 : Nat → Nat → Int32} (a : zFr S S1) (b : zFr S1 S2) : zFr S S2 := ⟨b.1.trans a.1, b.2.1.trans a.2.1, b.2.2.1.trans a.2.2.1, b.2.2.2.trans a.2.2.2⟩
theorem zFr.as {v : Nat → Int32} {S : Nat → Nat → Int32} {i : Nat} : zFr S (zAs v S i) := ⟨by rw [zAs_o (by decide)], by rw [zAs_o (by decide)], zAs_o (by decide), zAs_o (by decide)⟩
theorem zFr.par {S : Nat → Nat → Int32} {p : Nat} {lt a b nm : Int32} : zFr S (zPar S p lt a b nm) := ⟨zPar_ne (Or.inr (by decide)), zPar_ne (Or.inr (by decide)), zPar_o (by decide), zPar_o (by decide)⟩
theorem zFr.rc {v : Nat → Int32} {S : Nat → Nat → Int32} {n : Nat} : zFr S (sRec v S n) := ⟨sRec_ne (by decide) (by omega), sRec_ne (by decide) (by omega), by funext k; exact sRec_ne (by decide) (by omega), by funext k; exact sRec_ne (by decide) (by omega)⟩
theorem zHi.as {v : Nat → Int32} {S : Nat → Nat → Int32} {i n : Nat} {P : Nat → Nat → Int32} (h : zHi S n P) : zHi (zAs v S i) n P := ⟨by rw [zAs_o (by decide)]; exact h.1, fun j k hj hk => by rw [zAs_o (by decide)]; exact h.2 j k hj hk⟩
theorem zHi.par {S : Nat → Nat → Int32} {p n : Nat} {lt a b nm : Int32} {P : Nat → Nat → Int32} (h : zHi S n P) : zHi (zPar S p lt a b nm) n P := ⟨by rw [zPar_ne (Or.inr (by decide))]; exact h.1, fun j k hj hk => by rw [zPar_o (by decide)]; exact h.2 j k hj hk⟩
theorem zHi.rc {u v : Nat → Int32} {S : Nat → Nat → Int32} {n : Nat} {P : Nat → Nat → Int32} (h : zHi S n P) (hn : n ≤ 4) (e : ∀ k, k < 607 → u k = v k) : zHi (sRec u S n) (kN n) (zPu v P) := by
  obtain ⟨h1, h2⟩ := h
  unfold sRec kN
  by_cases q : n = 4
  · subst q
    rw [if_pos rfl, if_pos (by omega)]
    unfold sRec0
    refine ⟨suS_eq, fun i k hi hk => ?_⟩
    rw [suS_ne (by omega)]
    unfold zFill zPu
    by_cases i0 : i = 0
    · subst i0
      rw [if_pos (by omega), if_pos rfl, show 607 * (4 - 1 - 0) + k - 607 * 3 = k by omega]; exact e k hk
    · rw [if_neg (by omega), if_neg i0, suS_ne (by omega)]
      unfold zShift
      rw [if_pos ⟨rfl, by omega⟩, show 607 * (4 - 1 - i) + k + 607 = 607 * (4 - 1 - (i - 1)) + k by omega]
      exact h2 (i - 1) k (by omega) hk
  · rw [if_neg q, if_neg (by omega)]
    unfold sRec0
    refine ⟨suS_eq, fun i k hi hk => ?_⟩
    rw [suS_ne (by omega)]
    unfold zFill zPu
    by_cases i0 : i = 0
    · subst i0
      rw [if_pos (by omega), if_pos rfl, show 607 * (n + 1 - 1 - 0) + k - 607 * n = k by omega]; exact e k hk
    · rw [if_neg (by omega), if_neg i0, show 607 * (n + 1 - 1 - i) + k = 607 * (n - 1 - (i - 1)) + k by omega]
      exact h2 (i - 1) k (by omega) hk
def mDs (G : zG) (A : Nat → Nat) (v w : Nat → Int32) (hk : Int32) (n : Nat) (P : Nat → Nat → Int32) (T : Nat → Int32) (t : Nat) (mm : zM) : Prop :=
  ∃ S, zMP G A mm v S mm ∧ zHi S n P ∧ S 0 5 = hk ∧ S 0 7 = nI t ∧ S 5 = T ∧ ∀ k, k < 607 → ¬ hk = 0 → S 4 k = w k
/-- nothing but the reference's cells has changed -/
def mOut (A : Nat → Nat) (mm m' : zM) : Prop := ∀ b, (∀ j, j < 8 → b ≠ A j) → m' b = mm b
theorem zMP.out {G : zG} {A : Nat → Nat} {m0 mm : zM} {v : Nat → Int32} {S : Nat → Nat → Int32} (h : zMP G A m0 v S mm) : mOut A m0 mm := h.2.2.2.2.2.2.2.2.2
theorem zMP.rb {G : zG} {A : Nat → Nat} {m0 mm m1 : zM} {v : Nat → Int32} {S : Nat → Nat → Int32} (h : zMP G A m0 v S mm) (e : ∀ j, j < 8 → m1 (A j) = mm (A j)) : zMP G A m1 v S m1 := by
  obtain ⟨h1, h2, h3, h4, h5, h6, h7, h8, h9, h10⟩ := h
  refine ⟨h1, h2, h3, fun k a b => ?_, fun k a b => ?_, fun i a => ?_, fun j i a b c => ?_, fun i a => ?_, fun i a => ?_, fun b _ => rfl⟩
  · rw [e 0 (by omega)]; exact h4 k a b
  · rw [e 0 (by omega)]; exact h5 k a b
  · rw [e 1 (by omega)]; exact h6 i a
  · rw [e j (by omega)]; exact h7 j i a b c
  · rw [e 6 (by omega)]; exact h8 i a
  · rw [e 7 (by omega)]; exact h9 i a
theorem mDs.move {G : zG} {A : Nat → Nat} {v w : Nat → Int32} {hk : Int32} {n : Nat} {P : Nat → Nat → Int32} {T : Nat → Int32} {t : Nat} {mm m1 : zM} (h : mDs G A v w hk n P T t mm) (e : ∀ j, j < 8 → m1 (A j) = mm (A j)) : mDs G A v w hk n P T t m1 := by
  obtain ⟨S, a, b⟩ := h
  exact ⟨S, a.rb e, b⟩
theorem mDs.mk {G : zG} {A : Nat → Nat} {w v' : Nat → Int32} {hk : Int32} {n' : Nat} {P' : Nat → Nat → Int32} {T : Nat → Int32} {t : Nat} {mm m' : zM} {S S' : Nat → Nat → Int32} (hp : zMP G A mm v' S' m') (hh : zHi S' n' P') (hf : zFr S S') (h5 : S 0 5 = hk) (h7 : S 0 7 = nI t) (hT : S 5 = T) (h4 : ∀ k, k < 607 → ¬ hk = 0 → S 4 k = w k) : mDs G A v' w hk n' P' T t m' ∧ mOut A mm m' :=
  ⟨⟨S', hp.rb (fun _ _ => rfl), hh, hf.1.trans h5, hf.2.1.trans h7, hf.2.2.1.trans hT, fun k a b => by rw [hf.2.2.2]; exact h4 k a b⟩, hp.out⟩
def kXn (x : Int32) (n : Nat) : Nat := if 0 ≤ x then kN n else n
def kXP (x : Int32) (v : Nat → Int32) (P : Nat → Nat → Int32) : Nat → Nat → Int32 := if 0 ≤ x then zPu v P else P
theorem sActd_hi {x : Int32} {v v' : Nat → Int32} {S S1 : Nat → Nat → Int32} {n : Nat} {P : Nat → Nat → Int32} (h : zHi S1 n P) (hn : n ≤ 4) (e : ∀ k, k < 607 → S1 2 k = v k) (hf : zFr S S1) : zHi (sActd x v' S1 n) (kXn x n) (kXP x v P) ∧ zFr S (sActd x v' S1 n) := by
  unfold sActd kXn kXP
  by_cases q : 0 ≤ x
  · rw [if_pos q, if_pos q, if_pos q]
    unfold sActS
    exact ⟨h.as.rc hn (fun k hk => by unfold zBr; rw [if_pos hk]; exact e k hk), (hf.to .as).to .rc⟩
  · rw [if_neg q, if_neg q, if_neg q]
    exact ⟨h, hf⟩
theorem sRec_hi {x : Int32} {f : Bool} {v : Nat → Int32} {S : Nat → Nat → Int32} {n : Nat} {P : Nat → Nat → Int32} (h : zHi S n P) (hn : n ≤ 4) (e : f = decide (0 ≤ x)) : zHi (if f = true then sRec v S n else S) (kXn x n) (kXP x v P) ∧ zFr S (if f = true then sRec v S n else S) := by
  subst e
  unfold kXn kXP
  by_cases q : 0 ≤ x
  · rw [if_pos q, if_pos q, if_pos (decide_eq_true q)]
    exact ⟨h.rc hn (fun _ _ => rfl), .rc⟩
  · rw [if_neg q, if_neg q, if_neg (by rw [decide_eq_false q]; decide)]
    exact ⟨h, .rf S⟩
theorem d_X7_buy {l : Launch} {G : zG} {A : Nat → Nat} {mm : zM} {v w : Nat → Int32} {hk : Int32} {n : Nat} {P : Nat → Nat → Int32} {T : Nat → Int32} {t : Nat} (h : mDs G A v w hk n P T t mm) (hY : zY v) (hn : n ≤ 4) (x y : Int32) : zSem l G (yX7_buy, cX7_buy, 3, (some .int)) 8 [.ref (A 0), .int x, .int y] mm (some (.int ((sDoBuy v x y).1))) (fun m' => mDs G A (sDoBuy v x y).2 w hk (kXn (sDoBuy v x y).1 n) (kXP (sDoBuy v x y).1 v P) T t m' ∧ mOut A mm m') := by
  obtain ⟨S, hp, hh, h5, h7, hT, h4⟩ := h
  refine (c_X7_buy hp x y hY.1.1.1 n hn hh.1).imp (fun m' h => ?_)
  obtain ⟨a, b⟩ := sActd_hi (x := (sDoBuy v x y).1) (v := v) (v' := (sDoBuy v x y).2) (hh.as (v := v) (i := 607)) hn (fun k hk => by unfold zAs; rw [if_pos ⟨rfl, hk⟩]) (.as (v := v) (S := S) (i := 607))
  exact mDs.mk h a b h5 h7 hT h4
theorem d_X7_buyOffered {l : Launch} {G : zG} {A : Nat → Nat} {mm : zM} {v w : Nat → Int32} {hk : Int32} {n : Nat} {P : Nat → Nat → Int32} {T : Nat → Int32} {t : Nat} (h : mDs G A v w hk n P T t mm) (hY : zY v) (hn : n ≤ 4) (x y : Int32) : zSem l G (yX7_buyOffered, cX7_buyOffered, 3, (some .int)) 6 [.ref (A 0), .int x, .int y] mm (some (.int ((sDoOff v x y).1))) (fun m' => mDs G A (sDoOff v x y).2 w hk (kXn (sDoOff v x y).1 n) (kXP (sDoOff v x y).1 v P) T t m' ∧ mOut A mm m') := by
  obtain ⟨S, hp, hh, h5, h7, hT, h4⟩ := h
  refine (c_X7_buyOffered hp x y hY.1.1.1 n hn hh.1).imp (fun m' h => ?_)
  obtain ⟨a, b⟩ := sActd_hi (x := (sDoOff v x y).1) (v := v) (v' := (sDoOff v x y).2) (hh.as (v := v) (i := 607)) hn (fun k hk => by unfold zAs; rw [if_pos ⟨rfl, hk⟩]) (.as (v := v) (S := S) (i := 607))
  exact mDs.mk h a b h5 h7 hT h4
theorem d_X7_cancel {l : Launch} {G : zG} {A : Nat → Nat} {mm : zM} {v w : Nat → Int32} {hk : Int32} {n : Nat} {P : Nat → Nat → Int32} {T : Nat → Int32} {t : Nat} (h : mDs G A v w hk n P T t mm) (hY : zY v) (hn : n ≤ 4) (x : Int32) : zSem l G (yX7_cancel, cX7_cancel, 2, (some .int)) 9 [.ref (A 0), .int x] mm (some (.int ((sDoCan v x).1))) (fun m' => mDs G A (sDoCan v x).2 w hk (kXn (sDoCan v x).1 n) (kXP (sDoCan v x).1 v P) T t m' ∧ mOut A mm m') := by
  obtain ⟨S, hp, hh, h5, h7, hT, h4⟩ := h
  refine (c_X7_cancel hp x hY.1.1.1 hY.1.opn n hn hh.1).imp (fun m' h => ?_)
  obtain ⟨a, b⟩ := sActd_hi (x := (sDoCan v x).1) (v := v) (v' := (sDoCan v x).2) (hh.as (v := v) (i := 607)) hn (fun k hk => by unfold zAs; rw [if_pos ⟨rfl, hk⟩]) (.as (v := v) (S := S) (i := 607))
  exact mDs.mk h a b h5 h7 hT h4
theorem d_X7_offer {l : Launch} {G : zG} {A : Nat → Nat} {mm : zM} {v w : Nat → Int32} {hk : Int32} {n : Nat} {P : Nat → Nat → Int32} {T : Nat → Int32} {t : Nat} (h : mDs G A v w hk n P T t mm) (hY : zY v) (hn : n ≤ 4) (x y : Int32) : zSem l G (yX7_offer, cX7_offer, 3, (some .int)) 5 [.ref (A 0), .int x, .int y] mm (some (.int ((sDoOfr v x y).1))) (fun m' => mDs G A (sDoOfr v x y).2 w hk (kXn (sDoOfr v x y).1 n) (kXP (sDoOfr v x y).1 v P) T t m' ∧ mOut A mm m') := by
  obtain ⟨S, hp, hh, h5, h7, hT, h4⟩ := h
  refine (c_X7_offer hp x y hY.1.1.1 n hn hh.1).imp (fun m' h => ?_)
  obtain ⟨a, b⟩ := sActd_hi (x := (sDoOfr v x y).1) (v := v) (v' := (sDoOfr v x y).2) (hh.as (v := v) (i := 607)) hn (fun k hk => by unfold zAs; rw [if_pos ⟨rfl, hk⟩]) (.as (v := v) (S := S) (i := 607))
  exact mDs.mk h a b h5 h7 hT h4
theorem d_X7_exercise {l : Launch} {G : zG} {A : Nat → Nat} {mm : zM} {v w : Nat → Int32} {hk : Int32} {n : Nat} {P : Nat → Nat → Int32} {T : Nat → Int32} {t : Nat} (h : mDs G A v w hk n P T t mm) (hY : zY v) (hn : n ≤ 4) (x : Int32) : zSem l G (yX7_exercise, cX7_exercise, 2, (some .int)) 6 [.ref (A 0), .int x] mm (some (.int ((sDoEx v x).1))) (fun m' => mDs G A (sDoEx v x).2 w hk (kXn (sDoEx v x).1 n) (kXP (sDoEx v x).1 v P) T t m' ∧ mOut A mm m') := by
  obtain ⟨S, hp, hh, h5, h7, hT, h4⟩ := h
  refine (c_X7_exercise hp x hY.1.1.1 n hn hh.1).imp (fun m' h => ?_)
  obtain ⟨a, b⟩ := sActd_hi (x := (sDoEx v x).1) (v := v) (v' := (sDoEx v x).2) (hh.as (v := v) (i := 607)) hn (fun k hk => by unfold zAs; rw [if_pos ⟨rfl, hk⟩]) (.as (v := v) (S := S) (i := 607))
  exact mDs.mk h a b h5 h7 hT h4
theorem d_X7_addDate {l : Launch} {G : zG} {A : Nat → Nat} {mm : zM} {v w : Nat → Int32} {hk : Int32} {n : Nat} {P : Nat → Nat → Int32} {T : Nat → Int32} {t : Nat} (h : mDs G A v w hk n P T t mm) (hY : zY v) (hn : n ≤ 4) (a b c e f : Int32) : zSem l G (yX7_addDate, cX7_addDate, 7, (some .int)) 2 [.ref (A 0), .int a, .int b, .int c, .int e, .int f] mm (some (.int ((sAdd v a b c e f).1))) (fun m' => mDs G A (sAdd v a b c e f).2.1 w hk (kXn (sAdd v a b c e f).1 n) (kXP (sAdd v a b c e f).1 v P) T t m' ∧ mOut A mm m') := by
  obtain ⟨S, hp, hh, h5, h7, hT, h4⟩ := h
  refine (c_X7_addDate hp a b c e f hY.1.1.1 n hn hh.1).imp (fun m' h => ?_)
  obtain ⟨a1, b1⟩ := sRec_hi (x := (sAdd v a b c e f).1) (v := v) hh hn (sAdd_fl hY a b c e f)
  exact mDs.mk h a1 b1 h5 h7 hT h4
theorem d_X7_setStage {l : Launch} {G : zG} {A : Nat → Nat} {mm : zM} {v w : Nat → Int32} {hk : Int32} {n : Nat} {P : Nat → Nat → Int32} {T : Nat → Int32} {t : Nat} (h : mDs G A v w hk n P T t mm) (hY : zY v) (hn : n ≤ 4) (x y z : Int32) : zSem l G (yX7_setStage, cX7_setStage, 8, (some .int)) 2 [.ref (A 0), .int x, .int y, .int z] mm (some (.int ((sSt v x y z).1))) (fun m' => mDs G A (sSt v x y z).2.1 w hk (kXn (sSt v x y z).1 n) (kXP (sSt v x y z).1 v P) T t m' ∧ mOut A mm m') := by
  obtain ⟨S, hp, hh, h5, h7, hT, h4⟩ := h
  refine (c_X7_setStage hp x y z hY.1.1.1 n hn hh.1).imp (fun m' h => ?_)
  obtain ⟨a1, b1⟩ := sRec_hi (x := (sSt v x y z).1) (v := v) hh hn (sSt_fl hY x y z)
  exact mDs.mk h a1 b1 h5 h7 hT h4
theorem d_X7_set {l : Launch} {G : zG} {A : Nat → Nat} {mm : zM} {v w : Nat → Int32} {hk : Int32} {n : Nat} {P : Nat → Nat → Int32} {T : Nat → Int32} {t : Nat} (h : mDs G A v w hk n P T t mm) (hY : zY v) (hn : n ≤ 4) (x y : Int32) : zSem l G (yX7_set, cX7_set, 4, (some .int)) 2 [.ref (A 0), .int x, .int y] mm (some (.int ((sSet v x y).1))) (fun m' => mDs G A (sSet v x y).2.1 w hk (kXn (sSet v x y).1 n) (kXP (sSet v x y).1 v P) T t m' ∧ mOut A mm m') := by
  obtain ⟨S, hp, hh, h5, h7, hT, h4⟩ := h
  refine (c_X7_set hp x y hY.1.1.1 n hn hh.1).imp (fun m' h => ?_)
  obtain ⟨a1, b1⟩ := sRec_hi (x := (sSet v x y).1) (v := v) hh hn (sSet_fl hY x y)
  exact mDs.mk h a1 b1 h5 h7 hT h4
theorem d_X7_takeBack {l : Launch} {G : zG} {A : Nat → Nat} {mm : zM} {v w : Nat → Int32} {hk : Int32} {n : Nat} {P : Nat → Nat → Int32} {T : Nat → Int32} {t : Nat} (h : mDs G A v w hk n P T t mm) (hY : zY v) (hn : n ≤ 4) (x : Int32) : zSem l G (yX7_takeBack, cX7_takeBack, 3, (some .int)) 3 [.ref (A 0), .int x] mm (some (.int ((sTk v x).1))) (fun m' => mDs G A (sTk v x).2.1 w hk (kXn (sTk v x).1 n) (kXP (sTk v x).1 v P) T t m' ∧ mOut A mm m') := by
  obtain ⟨S, hp, hh, h5, h7, hT, h4⟩ := h
  refine (c_X7_takeBack hp x hY.1.1.1 n hn hh.1).imp (fun m' h => ?_)
  obtain ⟨a1, b1⟩ := sRec_hi (x := (sTk v x).1) (v := v) hh hn (sTk_fl hY x)
  exact mDs.mk h a1 b1 h5 h7 hT h4
theorem d_X7_await {l : Launch} {G : zG} {A : Nat → Nat} {mm : zM} {v w : Nat → Int32} {hk : Int32} {n : Nat} {P : Nat → Nat → Int32} {T : Nat → Int32} {t : Nat} (h : mDs G A v w hk n P T t mm) (hY : zY v) (hn : n ≤ 4) (x y : Int32) : zSem l G (yX7_await, cX7_await, 3, (some .int)) 5 [.ref (A 0), .int x, .int y] mm (some (.int ((sAw v x y).1))) (fun m' => mDs G A (sAw v x y).2.1 w hk (kXn (sAw v x y).1 n) (kXP (sAw v x y).1 v P) T t m' ∧ mOut A mm m') := by
  obtain ⟨S, hp, hh, h5, h7, hT, h4⟩ := h
  refine (c_X7_await hp x y hY.1.1.1 n hn hh.1).imp (fun m' h => ?_)
  obtain ⟨a1, b1⟩ := sRec_hi (x := (sAw v x y).1) (v := v) hh hn (sAw_fl hY x y)
  exact mDs.mk h a1 b1 h5 h7 hT h4
theorem d_X7_leave {l : Launch} {G : zG} {A : Nat → Nat} {mm : zM} {v w : Nat → Int32} {hk : Int32} {n : Nat} {P : Nat → Nat → Int32} {T : Nat → Int32} {t : Nat} (h : mDs G A v w hk n P T t mm) (hY : zY v) (hn : n ≤ 4) (x y : Int32) : zSem l G (yX7_leave, cX7_leave, 4, (some .int)) 4 [.ref (A 0), .int x, .int y] mm (some (.int ((sLv v x y).1))) (fun m' => mDs G A (sLv v x y).2.1 w hk (kXn (sLv v x y).1 n) (kXP (sLv v x y).1 v P) T t m' ∧ mOut A mm m') := by
  obtain ⟨S, hp, hh, h5, h7, hT, h4⟩ := h
  refine (c_X7_leave hp x y hY.1.1.1 n hn hh.1).imp (fun m' h => ?_)
  obtain ⟨a1, b1⟩ := sRec_hi (x := (sLv v x y).1) (v := v) hh hn (sLv_fl hY x y)
  exact mDs.mk h a1 b1 h5 h7 hT h4
theorem d_X7_pass {l : Launch} {G : zG} {A : Nat → Nat} {mm : zM} {v w : Nat → Int32} {hk : Int32} {n : Nat} {P : Nat → Nat → Int32} {T : Nat → Int32} {t : Nat} (h : mDs G A v w hk n P T t mm) (hY : zY v) (hn : n ≤ 4) (x : Int32) : zSem l G (yX7_pass, cX7_pass, 4, (some .int)) 9 [.ref (A 0), .int x] mm (some (.int ((sPass v x).1))) (fun m' => mDs G A (sPass v x).2.1 w hk (kXn (sPass v x).1 n) (kXP (sPass v x).1 v P) T t m' ∧ mOut A mm m') := by
  obtain ⟨S, hp, hh, h5, h7, hT, h4⟩ := h
  refine (c_X7_pass hp x hY.1.1.1 n hn hh.1).imp (fun m' h => ?_)
  obtain ⟨a1, b1⟩ := sRec_hi (x := (sPass v x).1) (v := v) hh hn (sPass_fl hY x)
  exact mDs.mk h a1 b1 h5 h7 hT h4
theorem d_X7_date {l : Launch} {G : zG} {A : Nat → Nat} {mm : zM} {v w : Nat → Int32} {hk : Int32} {n : Nat} {P : Nat → Nat → Int32} {T : Nat → Int32} {t : Nat} (h : mDs G A v w hk n P T t mm) (hY : zY v) (hn : n ≤ 4) (x y : Int32) : zSem l G (yX7_date, cX7_date, 4, (some .int)) 6 [.ref (A 0), .int x, .int y] mm (some (.int (sDate v x y))) (fun m' => mDs G A v w hk n P T t m' ∧ mOut A mm m') := by
  obtain ⟨S, hp, hh, h5, h7, hT, h4⟩ := h
  refine (c_X7_date hp x y hY.1.1.2.2.1.1 hY.1.1.1).imp (fun m' h => ?_)
  subst h
  exact ⟨⟨S, hp, hh, h5, h7, hT, h4⟩, fun _ _ => rfl⟩
theorem d_X7_waiting {l : Launch} {G : zG} {A : Nat → Nat} {mm : zM} {v w : Nat → Int32} {hk : Int32} {n : Nat} {P : Nat → Nat → Int32} {T : Nat → Int32} {t : Nat} (h : mDs G A v w hk n P T t mm) (hY : zY v) (hn : n ≤ 4) (x y : Int32) : zSem l G (yX7_waiting, cX7_waiting, 3, (some .int)) 3 [.ref (A 0), .int x, .int y] mm (some (.int (sWait v x y))) (fun m' => mDs G A v w hk n P T t m' ∧ mOut A mm m') := by
  obtain ⟨S, hp, hh, h5, h7, hT, h4⟩ := h
  refine (c_X7_waiting hp x y hY.1.1.1).imp (fun m' h => ?_)
  subst h
  exact ⟨⟨S, hp, hh, h5, h7, hT, h4⟩, fun _ _ => rfl⟩
theorem d_X7_right {l : Launch} {G : zG} {A : Nat → Nat} {mm : zM} {v w : Nat → Int32} {hk : Int32} {n : Nat} {P : Nat → Nat → Int32} {T : Nat → Int32} {t : Nat} (h : mDs G A v w hk n P T t mm) (hY : zY v) (hn : n ≤ 4) (x y : Int32) : zSem l G (yX7_right, cX7_right, 3, (some .int)) 6 [.ref (A 0), .int x, .int y] mm (some (.int (sRight v x y))) (fun m' => mDs G A v w hk n P T t m' ∧ mOut A mm m') := by
  obtain ⟨S, hp, hh, h5, h7, hT, h4⟩ := h
  refine (c_X7_right hp x y hY.1.1.2.2.1.1 hY.1.opn hY.1.1.1).imp (fun m' h => ?_)
  subst h
  exact ⟨⟨S, hp, hh, h5, h7, hT, h4⟩, fun _ _ => rfl⟩
theorem d_X7_stage {l : Launch} {G : zG} {A : Nat → Nat} {mm : zM} {v w : Nat → Int32} {hk : Int32} {n : Nat} {P : Nat → Nat → Int32} {T : Nat → Int32} {t : Nat} (h : mDs G A v w hk n P T t mm) (hY : zY v) (hn : n ≤ 4) (x y : Int32) : zSem l G (yX7_stage, cX7_stage, 3, (some .int)) 2 [.ref (A 0), .int x, .int y] mm (some (.int (sStg v x y))) (fun m' => mDs G A v w hk n P T t m' ∧ mOut A mm m') := by
  obtain ⟨S, hp, hh, h5, h7, hT, h4⟩ := h
  refine (c_X7_stage hp x y hY.1.1.1).imp (fun m' h => ?_)
  subst h
  exact ⟨⟨S, hp, hh, h5, h7, hT, h4⟩, fun _ _ => rfl⟩
theorem d_X7_priceIn {l : Launch} {G : zG} {A : Nat → Nat} {mm : zM} {v w : Nat → Int32} {hk : Int32} {n : Nat} {P : Nat → Nat → Int32} {T : Nat → Int32} {t : Nat} (h : mDs G A v w hk n P T t mm) (hY : zY v) (hn : n ≤ 4) (x y : Int32) : zSem l G (yX7_priceIn, cX7_priceIn, 4, (some .int)) 6 [.ref (A 0), .int x, .int y] mm (some (.int (sPin v x y))) (fun m' => mDs G A v w hk n P T t m' ∧ mOut A mm m') := by
  obtain ⟨S, hp, hh, h5, h7, hT, h4⟩ := h
  refine (c_X7_priceIn hp x y hY.1.1.1).imp (fun m' h => ?_)
  subst h
  exact ⟨⟨S, hp, hh, h5, h7, hT, h4⟩, fun _ _ => rfl⟩
theorem d_X7_event {l : Launch} {G : zG} {A : Nat → Nat} {mm : zM} {v w : Nat → Int32} {hk : Int32} {n : Nat} {P : Nat → Nat → Int32} {T : Nat → Int32} {t : Nat} (h : mDs G A v w hk n P T t mm) (hY : zY v) (hn : n ≤ 4) (x y : Int32) : zSem l G (yX7_event, cX7_event, 3, (some .int)) 2 [.ref (A 0), .int x, .int y] mm (some (.int (sEv v x y))) (fun m' => mDs G A v w hk n P T t m' ∧ mOut A mm m') := by
  obtain ⟨S, hp, hh, h5, h7, hT, h4⟩ := h
  refine (c_X7_event hp x y hY.1.1.2.2.2.2.2.2 hY.1.1.1).imp (fun m' h => ?_)
  subst h
  exact ⟨⟨S, hp, hh, h5, h7, hT, h4⟩, fun _ _ => rfl⟩
theorem d_X7_holder {l : Launch} {G : zG} {A : Nat → Nat} {mm : zM} {v w : Nat → Int32} {hk : Int32} {n : Nat} {P : Nat → Nat → Int32} {T : Nat → Int32} {t : Nat} (h : mDs G A v w hk n P T t mm) (hY : zY v) (hn : n ≤ 4) (x y : Int32) : zSem l G (yX7_holder, cX7_holder, 7, (some .int)) 4 [.ref (A 0), .int x, .int y] mm (some (.int (sHold v x y))) (fun m' => mDs G A v w hk n P T t m' ∧ mOut A mm m') := by
  obtain ⟨S, hp, hh, h5, h7, hT, h4⟩ := h
  refine (c_X7_holder hp x y hY.1.1.1).imp (fun m' h => ?_)
  subst h
  exact ⟨⟨S, hp, hh, h5, h7, hT, h4⟩, fun _ _ => rfl⟩
theorem sCount_k (v : Nat → Int32) (S : Nat → Nat → Int32) (x : Int32) : sCount v S x = if x = nI 14 then S 0 3 else if x = nI 15 then S 0 7 else kCount v x := by
  by_cases h : zIn x (nI 0) (nI 15) = true
  · obtain ⟨j, hj, rfl⟩ := zIn_nI (by omega) h
    unfold sCount kCount
    rw [if_pos h, zn_nI (by omega)]
    by_cases q : j ≤ 13
    · rw [if_neg (fun z => by have := (nI_eq (a := j) (b := 14) (by omega) (by omega)).mp z; omega), if_neg (fun z => by have := (nI_eq (a := j) (b := 15) (by omega) (by omega)).mp z; omega), if_pos (zIn_le q (by omega))]
      rcases (by omega : j = 0 ∨ j = 1 ∨ j = 2 ∨ j = 3 ∨ j = 4 ∨ j = 5 ∨ j = 6 ∨ j = 7 ∨ j = 8 ∨ j = 9 ∨ j = 10 ∨ j = 11 ∨ j = 12 ∨ j = 13) with rfl | rfl | rfl | rfl | rfl | rfl | rfl | rfl | rfl | rfl | rfl | rfl | rfl | rfl <;> rfl
    · rcases (by omega : j = 14 ∨ j = 15) with rfl | rfl
      · rw [if_pos rfl]; rfl
      · rw [if_neg (by decide), if_pos rfl]; rfl
  · have h1 : ¬ x = nI 14 := fun z => h (by rw [z]; decide)
    have h2 : ¬ x = nI 15 := fun z => h (by rw [z]; decide)
    have h3 : ¬ zIn x (nI 0) (nI 13) = true := fun z => by
      obtain ⟨j, hj, rfl⟩ := zIn_nI (by omega) z
      exact h (zIn_le (by omega) (by omega))
    unfold sCount kCount
    rw [if_neg h, if_neg h1, if_neg h2, if_neg h3]
theorem d_X7_count {l : Launch} {G : zG} {A : Nat → Nat} {mm : zM} {v w : Nat → Int32} {hk : Int32} {n : Nat} {P : Nat → Nat → Int32} {T : Nat → Int32} {t : Nat} (h : mDs G A v w hk n P T t mm) (hY : zY v) (hn : n ≤ 4) (x : Int32) : zSem l G (yX7_count, cX7_count, 4, (some .int)) 3 [.ref (A 0), .int x] mm (some (.int (if x = nI 14 then nI n else if x = nI 15 then nI t else kCount v x))) (fun m' => mDs G A v w hk n P T t m' ∧ mOut A mm m') := by
  obtain ⟨S, hp, hh, h5, h7, hT, h4⟩ := h
  have e : sCount v S x = if x = nI 14 then nI n else if x = nI 15 then nI t else kCount v x := by
    rw [← hh.1, ← h7]; exact sCount_k v S x
  rw [← e]
  refine (c_X7_count hp x hY.1.1.1).imp (fun m' h => ?_)
  subst h
  exact ⟨⟨S, hp, hh, h5, h7, hT, h4⟩, fun _ _ => rfl⟩
theorem d_X7_wouldCover {l : Launch} {G : zG} {A : Nat → Nat} {mm : zM} {v w : Nat → Int32} {hk : Int32} {n : Nat} {P : Nat → Nat → Int32} {T : Nat → Int32} {t : Nat} (h : mDs G A v w hk n P T t mm) (hY : zY v) (hn : n ≤ 4) (x : Int32) : zSem l G (yX7_wouldCover, cX7_wouldCover, 3, (some .int)) 6 [.ref (A 0), .int x] mm (some (.int ((sWc v x).1))) (fun m' => mDs G A v w hk n P T t m' ∧ mOut A mm m') := by
  obtain ⟨S, hp, hh, h5, h7, hT, h4⟩ := h
  refine (c_X7_wouldCover hp x hY.1.1.1).imp (fun m' h => ?_)
  by_cases q : (sWc v x).2 = true
  · rw [if_pos q] at h; exact mDs.mk h hh.as .as h5 h7 hT h4
  · rw [if_neg q] at h; exact mDs.mk h hh (.rf S) h5 h7 hT h4
theorem d_X7_type {l : Launch} {G : zG} {A : Nat → Nat} {mm : zM} {v w : Nat → Int32} {hk : Int32} {n : Nat} {P : Nat → Nat → Int32} {T : Nat → Int32} {t : Nat} (h : mDs G A v w hk n P T t mm) (hY : zY v) (hn : n ≤ 4) (x : Int32) (ht : t ≤ 60) : zSem l G (yX7_type, cX7_type, 2, (some .int)) 1 [.ref (A 0), .int x] mm (some (.int (if t = 60 then -3 else nI (t + 1)))) (fun m' => mDs G A v w hk n P (if t = 60 then T else upd T t x) (if t = 60 then t else t + 1) m' ∧ mOut A mm m') := by
  obtain ⟨S, hp, hh, h5, h7, hT, h4⟩ := h
  refine (c_X7_type hp x t ht h7).imp (fun m' h => ?_)
  by_cases q : t = 60
  · rw [if_pos q] at h
    rw [if_pos q, if_pos q]; exact mDs.mk h hh (.rf S) h5 h7 hT h4
  · rw [if_neg q] at h
    rw [if_neg q, if_neg q]
    refine ⟨⟨_, h.rb (fun _ _ => rfl), ⟨?_, fun i k hi hk => ?_⟩, ?_, suS_eq, ?_, fun k hk hq => ?_⟩, h.out⟩
    · rw [suS_ne (by omega), suS_ne (by omega)]; exact hh.1
    · rw [suS_ne (by omega), suS_ne (by omega)]; exact hh.2 i k hi hk
    · rw [suS_ne (by omega), suS_ne (by omega)]; exact h5
    · funext k
      rw [suS_ne (by omega)]
      unfold suS upd
      by_cases z : k = t
      · rw [if_pos ⟨rfl, z⟩, if_pos z]
      · rw [if_neg (fun y => z y.2), if_neg z, hT]
    · rw [suS_ne (by omega), suS_ne (by omega)]; exact h4 k hk hq
theorem d_X7_clearText {l : Launch} {G : zG} {A : Nat → Nat} {mm : zM} {v w : Nat → Int32} {hk : Int32} {n : Nat} {P : Nat → Nat → Int32} {T : Nat → Int32} {t : Nat} (h : mDs G A v w hk n P T t mm) (hY : zY v) (hn : n ≤ 4) : zSem l G (yX7_clearText, cX7_clearText, 2, (some .int)) 1 [.ref (A 0)] mm (some (.int (nI t))) (fun m' => mDs G A v w hk n P T 0 m' ∧ mOut A mm m') := by
  obtain ⟨S, hp, hh, h5, h7, hT, h4⟩ := h
  rw [← h7]
  refine (c_X7_clearText hp).imp (fun m' h => ?_)
  refine ⟨⟨_, h.rb (fun _ _ => rfl), ⟨?_, fun i k hi hk => ?_⟩, ?_, suS_eq, ?_, fun k hk hq => ?_⟩, h.out⟩
  · rw [suS_ne (by omega)]; exact hh.1
  · rw [suS_ne (by omega)]; exact hh.2 i k hi hk
  · rw [suS_ne (by omega)]; exact h5
  · rw [← hT]; funext k; rw [suS_ne (by omega)]
  · rw [suS_ne (by omega)]; exact h4 k hk hq
theorem d_X7_keep {l : Launch} {G : zG} {A : Nat → Nat} {mm : zM} {v w : Nat → Int32} {hk : Int32} {n : Nat} {P : Nat → Nat → Int32} {T : Nat → Int32} {t : Nat} (h : mDs G A v w hk n P T t mm) (hY : zY v) (hn : n ≤ 4) : zSem l G (yX7_keep, cX7_keep, 2, (some .int)) 1 [.ref (A 0)] mm (some (.int (v 0))) (fun m' => mDs G A v v (nI 1) n P T t m' ∧ mOut A mm m') := by
  obtain ⟨S, hp, hh, h5, h7, hT, h4⟩ := h
  refine (c_X7_keep hp).imp (fun m' h => ?_)
  have zk : ∀ b k, b ≠ 4 → zKp v S 607 b k = S b k := fun b k hb => by unfold zKp; rw [if_neg (fun z => hb z.1)]
  refine ⟨⟨_, h.rb (fun _ _ => rfl), ⟨?_, fun i k hi hk => ?_⟩, suS_eq, ?_, ?_, fun k hk hq => ?_⟩, h.out⟩
  · rw [suS_ne (by omega), zk _ _ (by decide)]; exact hh.1
  · rw [suS_ne (by omega), zk _ _ (by decide)]; exact hh.2 i k hi hk
  · rw [suS_ne (by omega), zk _ _ (by decide)]; exact h7
  · rw [← hT]; funext k; rw [suS_ne (by omega), zk _ _ (by decide)]
  · rw [suS_ne (by omega)]; unfold zKp; rw [if_pos ⟨rfl, hk⟩]
theorem d_X7_undo {l : Launch} {G : zG} {A : Nat → Nat} {mm : zM} {v w : Nat → Int32} {hk : Int32} {n : Nat} {P : Nat → Nat → Int32} {T : Nat → Int32} {t : Nat} (h : mDs G A v w hk n P T t mm) (hY : zY v) (hn : n ≤ 4) : zSem l G (yX7_undo, cX7_undo, 2, (some .int)) 1 [.ref (A 0)] mm (some (.int (if n = 0 then -5 else nI (n - 1)))) (fun m' => mDs G A (if n = 0 then v else P 0) w hk (n - 1) (fun i => P (i + 1)) T t m' ∧ mOut A mm m') := by
  obtain ⟨S, hp, hh, h5, h7, hT, h4⟩ := h
  refine (c_X7_undo hp n hn hh.1).imp (fun m' h => ?_)
  by_cases q : n = 0
  · subst q
    rw [if_pos rfl, if_pos rfl] at h
    rw [if_pos rfl]
    exact mDs.mk h ⟨hh.1, fun i k hi => by omega⟩ (.rf S) h5 h7 hT h4
  · rw [if_neg q, if_neg q] at h
    rw [if_neg q]
    have h := h.congr (w := P 0) (fun k hk => by
      unfold sUndoV zBr
      rw [if_pos hk]
      exact (hh.2 0 k (by omega) hk).symm)
    unfold sUndoS at h
    refine ⟨⟨_, h.rb (fun _ _ => rfl), ⟨suS_eq, fun i k hi hk => ?_⟩, ?_, ?_, ?_, fun k hk hq => ?_⟩, h.out⟩
    · rw [suS_ne (by omega), show n - 1 - 1 - i = n - 1 - (i + 1) by omega]; exact hh.2 (i + 1) k (by omega) hk
    · rw [suS_ne (by omega)]; exact h5
    · rw [suS_ne (by omega)]; exact h7
    · rw [← hT]; funext k; rw [suS_ne (by omega)]
    · rw [suS_ne (by omega)]; exact h4 k hk hq
theorem d_X7_restore {l : Launch} {G : zG} {A : Nat → Nat} {mm : zM} {v w : Nat → Int32} {hk : Int32} {n : Nat} {P : Nat → Nat → Int32} {T : Nat → Int32} {t : Nat} (h : mDs G A v w hk n P T t mm) (hY : zY v) (hn : n ≤ 4) : zSem l G (yX7_restore, cX7_restore, 2, (some .int)) 2 [.ref (A 0)] mm (some (.int (if hk = 0 then -5 else w 0))) (fun m' => mDs G A (if hk = 0 then v else w) w hk (if hk = 0 then n else kN n) (if hk = 0 then P else zPu v P) T t m' ∧ mOut A mm m') := by
  obtain ⟨S, hp, hh, h5, h7, hT, h4⟩ := h
  have e : (if S 0 5 = 0 then -5 else S 4 0) = (if hk = 0 then -5 else w 0) := by
    rw [h5]
    split
    · rfl
    · rename_i q; exact h4 0 (by omega) q
  rw [← e]
  refine (c_X7_restore hp n hn hh.1).imp (fun m' h => ?_)
  rw [h5] at h
  by_cases q : hk = 0
  · rw [if_pos q, if_pos q] at h
    rw [if_pos q, if_pos q, if_pos q]
    exact mDs.mk h hh (.rf S) h5 h7 hT h4
  · rw [if_neg q, if_neg q] at h
    rw [if_neg q, if_neg q, if_neg q]
    have h := h.congr (w := w) (fun k hk => by
      unfold zBr
      rw [if_pos hk]
      exact (h4 k hk q).symm)
    exact mDs.mk h (hh.rc hn (fun _ _ => rfl)) .rc h5 h7 hT h4
/-- what perform() answers, and the numbers behind it -/
def sPf (T : Nat → Int32) (t : Nat) (v : Nat → Int32) : Int32 × (Nat → Int32) :=
  if (sPA T t 62 0).2.1 = true then (if (sFo (sPA T t 62 0).1 v).1 < 0 then ((sFo (sPA T t 62 0).1 v).1, v) else (nI (sPA T t 62 0).1.length, (sFo (sPA T t 62 0).1 v).2)) else (-100 - nI (sPA T t 62 0).2.2, v)
theorem zY.pf {v : Nat → Int32} (h : zY v) (T : Nat → Int32) (t : Nat) : zY (sPf T t v).2 := by
  unfold sPf
  split
  · split
    · exact h
    · exact h.fo _
  · exact h
theorem d_X7_perform {l : Launch} {G : zG} {A : Nat → Nat} {mm : zM} {v w : Nat → Int32} {hk : Int32} {n : Nat} {P : Nat → Nat → Int32} {T : Nat → Int32} {t : Nat} (h : mDs G A v w hk n P T t mm) (hY : zY v) (hn : n ≤ 4) (ht : t ≤ 60) : zSem l G (yX7_perform, cX7_perform, 3, (some .int)) 10 [.ref (A 0)] mm (some (.int ((sPf T t v).1))) (fun m' => mDs G A (sPf T t v).2 w hk (kXn (sPf T t v).1 n) (kXP (sPf T t v).1 v P) T t m' ∧ mOut A mm m') := by
  obtain ⟨S, hp, hh, h5, h7, hT, h4⟩ := h
  subst hT
  have hln := sPA_len (T := S 5) (t := t) 62 0
  have hle := sPA_le (T := S 5) (t := t) 62 0 (by omega)
  by_cases hg : (sPA (S 5) t 62 0).2.1 = true
  · by_cases hx : (sFo (sPA (S 5) t 62 0).1 v).1 < 0
    · have e9 : sPf (S 5) t v = ((sFo (sPA (S 5) t 62 0).1 v).1, v) := by unfold sPf; rw [if_pos hg, if_pos hx]
      rw [e9]
      have k := c_X7_perform (l := l) hp h7 ht hh.1 hn hY.1 hg
      simp only [if_pos hx] at k
      refine k.imp (fun m' h => ?_)
      obtain ⟨p, lt, a, b, nm, u, h⟩ := h
      have h := h.congr (w := v) (fun k hk => by unfold zBr zAs; rw [if_pos hk, if_pos ⟨rfl, hk⟩])
      have en : kXn (sFo (sPA (S 5) t 62 0).1 v).1 n = n := if_neg (i_not_le.mpr hx)
      have ep : kXP (sFo (sPA (S 5) t 62 0).1 v).1 v P = P := if_neg (i_not_le.mpr hx)
      show mDs G A v w hk (kXn (sFo (sPA (S 5) t 62 0).1 v).1 n) (kXP (sFo (sPA (S 5) t 62 0).1 v).1 v P) (S 5) t m' ∧ mOut A mm m'
      rw [en, ep]
      exact mDs.mk h hh.as.par (zFr.as.to .par) h5 h7 rfl h4
    · have e9 : sPf (S 5) t v = (nI (sPA (S 5) t 62 0).1.length, (sFo (sPA (S 5) t 62 0).1 v).2) := by unfold sPf; rw [if_pos hg, if_neg hx]
      rw [e9]
      have k := c_X7_perform (l := l) hp h7 ht hh.1 hn hY.1 hg
      simp only [if_neg hx] at k
      refine k.imp (fun m' h => ?_)
      obtain ⟨p, lt, a, b, nm, h⟩ := h
      obtain ⟨a1, b1⟩ := sActd_hi (x := nI (sPA (S 5) t 62 0).1.length) (v := v) (v' := (sFo (sPA (S 5) t 62 0).1 v).2) ((hh.as (v := v) (i := 607)).par (p := p) (lt := lt) (a := a) (b := b) (nm := nm)) hn (fun k hk => by rw [zPar_o (by decide)]; unfold zAs; rw [if_pos ⟨rfl, hk⟩]) ((zFr.as (v := v) (S := S) (i := 607)).to .par)
      exact mDs.mk h a1 b1 h5 h7 rfl h4
  · have hb : (sPA (S 5) t 62 0).2.1 = false := by simpa using hg
    have e9 : sPf (S 5) t v = (-100 - nI (sPA (S 5) t 62 0).2.2, v) := by unfold sPf; rw [if_neg hg]
    have hx : (-100 - nI (sPA (S 5) t 62 0).2.2 : Int32) < 0 := kNg (by omega)
    rw [e9]
    refine (c_X7_performN hp h7 ht hb).imp (fun m' h => ?_)
    obtain ⟨p, lt, a, b, nm, h⟩ := h
    have en : kXn (-100 - nI (sPA (S 5) t 62 0).2.2) n = n := if_neg (i_not_le.mpr hx)
    have ep : kXP (-100 - nI (sPA (S 5) t 62 0).2.2) v P = P := if_neg (i_not_le.mpr hx)
    show mDs G A v w hk (kXn (-100 - nI (sPA (S 5) t 62 0).2.2) n) (kXP (-100 - nI (sPA (S 5) t 62 0).2.2) v P) (S 5) t m' ∧ mOut A mm m'
    rw [en, ep]
    exact mDs.mk h hh.par .par h5 h7 rfl h4
