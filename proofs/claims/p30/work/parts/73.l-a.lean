section ZL
variable {l : Launch} {G : zG} {y : MethodName} {cc : ByteArray} {nL : Nat} {ret : Option FieldType} {d : Nat} {rv : Option Value} {Q : zM → Prop} {pc : Nat} {lv : List (Option Value)} {st : List Value} {mm : zM}
variable {y2 : MethodName} {b2 : ByteArray} {n2 d2 np ix : Nat} {r2 : Option FieldType} {Q2 : zM → Prop} {own : String} {v2 : Value}
theorem z_ldc {v : Int32} {ix : Nat} {own : String} (hk : Cond.constant own ix v ∈ zU) (ho : own = y.cls) (hd : decode cc pc = .ok (.ldc ix, 2)) (k : zV l G (y, cc, nL, ret) d rv Q (pc + 2) lv (.int v :: st) mm) : zV l G (y, cc, nL, ret) d rv Q pc lv st mm := by
  intro p e s m args below meth c H locs ls hx hb hml hrt hown hlk hts hK hSt hN hl hP hS
  subst ho
  exact lv_ldc hx hb hown (hts _ hk) hd (k p e s m args below meth c H locs ls hx hb hml hrt hown hlk hts hK hSt hN hl hP hS)
theorem z_if_gt {a : Int32} {off : Int} (tgt : Nat) (hd : decode cc pc = .ok (.ifCond .gt off, 3)) (ht : (pc : Int) + off = (tgt : Int)) (kt : 0 < a → zV l G (y, cc, nL, ret) d rv Q tgt lv st mm) (kf : ¬ 0 < a → zV l G (y, cc, nL, ret) d rv Q (pc + 3) lv st mm) : zV l G (y, cc, nL, ret) d rv Q pc lv (.int a :: st) mm := by
  intro p e s m args below meth c H locs ls hx hb hml hrt hown hlk hts hK hSt hN hl hP hS
  exact lv_if_gt hx hb hd ht (fun h => kt h p e s m args below meth c H locs ls hx hb hml hrt hown hlk hts hK hSt hN hl hP hS) (fun h => kf h p e s m args below meth c H locs ls hx hb hml hrt hown hlk hts hK hSt hN hl hP hS)
theorem z_irem {a b : Int32} (hd : decode cc pc = .ok (.irem, 1)) (hb0 : ¬ b = 0) (k : zV l G (y, cc, nL, ret) d rv Q (pc + 1) lv (.int (a - a / b * b) :: st) mm) : zV l G (y, cc, nL, ret) d rv Q pc lv (.int b :: .int a :: st) mm := by
  intro p e s m args below meth c H locs ls hx hb hml hrt hown hlk hts hK hSt hN hl hP hS
  exact lv_irem hx hb hd hb0 (k p e s m args below meth c H locs ls hx hb hml hrt hown hlk hts hK hSt hN hl hP hS)
theorem z_ishr {a b : Int32} (hd : decode cc pc = .ok (.ishr, 1)) (k : zV l G (y, cc, nL, ret) d rv Q (pc + 1) lv (.int (a >>> (b &&& 31)) :: st) mm) : zV l G (y, cc, nL, ret) d rv Q pc lv (.int b :: .int a :: st) mm := by
  intro p e s m args below meth c H locs ls hx hb hml hrt hown hlk hts hK hSt hN hl hP hS
  exact lv_ishr hx hb hd (k p e s m args below meth c H locs ls hx hb hml hrt hown hlk hts hK hSt hN hl hP hS)
theorem z_iand {a b : Int32} (hd : decode cc pc = .ok (.iand, 1)) (k : zV l G (y, cc, nL, ret) d rv Q (pc + 1) lv (.int (a &&& b) :: st) mm) : zV l G (y, cc, nL, ret) d rv Q pc lv (.int b :: .int a :: st) mm := by
  intro p e s m args below meth c H locs ls hx hb hml hrt hown hlk hts hK hSt hN hl hP hS
  exact lv_iand hx hb hd (k p e s m args below meth c H locs ls hx hb hml hrt hown hlk hts hK hSt hN hl hP hS)
theorem z_iremN {a b : Nat} (hd : decode cc pc = .ok (.irem, 1)) (ha : a < 2 ^ 31) (hb0 : 0 < b) (hb : b < 2 ^ 31) (k : zV l G (y, cc, nL, ret) d rv Q (pc + 1) lv (.int (nI (a % b)) :: st) mm) : zV l G (y, cc, nL, ret) d rv Q pc lv (.int (nI b) :: .int (nI a) :: st) mm :=
  z_irem hd (nI_ne0 hb0 hb) (by rw [pk_rem ha hb0 hb]; exact k)
theorem z_ishrN {a b : Nat} (n : Nat) (hn : n = 2 ^ b) (hd : decode cc pc = .ok (.ishr, 1)) (ha : a < 2 ^ 31) (hs : ((nI b &&& 31).toBitVec.smod 32).toNat = b) (k : zV l G (y, cc, nL, ret) d rv Q (pc + 1) lv (.int (nI (a / n)) :: st) mm) : zV l G (y, cc, nL, ret) d rv Q pc lv (.int (nI b) :: .int (nI a) :: st) mm :=
  z_ishr hd (by rw [pk_shrN ha (nI b &&& 31) b hs, ← hn]; exact k)
theorem z_iandN {a : Nat} (m j n : Nat) (hn : n = 2 ^ j) (hm : (nI m).toBitVec.toNat = 2 ^ j - 1) (hd : decode cc pc = .ok (.iand, 1)) (ha : a < 2 ^ 31) (k : zV l G (y, cc, nL, ret) d rv Q (pc + 1) lv (.int (nI (a % n)) :: st) mm) : zV l G (y, cc, nL, ret) d rv Q pc lv (.int (nI m) :: .int (nI a) :: st) mm :=
  z_iand hd (by rw [pk_andN (by omega) j hm, ← hn]; exact k)
theorem z_uS1 {a1 : Value} (hy : zMS y2 b2 n2 r2 1) (hs : zSem l G (y2, b2, n2, r2) d2 [a1] mm (some v2) Q2) (ho : own = y.cls) (hlink : Cond.methodLink own ix y2 ∈ zU) (hd2 : d2 < d) (hW : (st.map fun v => v.category).sum ≤ 8) (hd : decode cc pc = .ok (.invokestatic ix, 3)) (kk : ∀ m', Q2 m' → zV l G (y, cc, nL, ret) d rv Q (pc + 3) lv (v2 :: st) m') : zV l G (y, cc, nL, ret) d rv Q pc lv (a1 :: st) mm :=
  z_callS (As := [a1]) hy hs ho hlink hd2 rfl hW hd (fun m' h => kk m' h)
theorem z_uS2 {a1 a2 : Value} (hy : zMS y2 b2 n2 r2 2) (hs : zSem l G (y2, b2, n2, r2) d2 [a1, a2] mm (some v2) Q2) (ho : own = y.cls) (hlink : Cond.methodLink own ix y2 ∈ zU) (hd2 : d2 < d) (hW : (st.map fun v => v.category).sum ≤ 8) (hd : decode cc pc = .ok (.invokestatic ix, 3)) (kk : ∀ m', Q2 m' → zV l G (y, cc, nL, ret) d rv Q (pc + 3) lv (v2 :: st) m') : zV l G (y, cc, nL, ret) d rv Q pc lv (a2 :: a1 :: st) mm :=
  z_callS (As := [a1, a2]) hy hs ho hlink hd2 rfl hW hd (fun m' h => kk m' h)
end ZL
/-! the desk, as the law sees it: v now, w kept (if hk); the text is empty -/
def lT (G : zG) (Bs : Nat → Nat → Nat) (O : Nat → Nat) (v w : Nat → Int32) (hk : Int32) (mm : zM) : Prop := ∃ (n : Nat) (P : Nat → Nat → Int32) (T : Nat → Int32), kDs G Bs O v w hk n P T 0 mm ∧ n ≤ 4
/-- .. and undo() brings u back -/
def lS (G : zG) (Bs : Nat → Nat → Nat) (O : Nat → Nat) (v w : Nat → Int32) (hk : Int32) (u : Nat → Int32) (mm : zM) : Prop := ∃ (n : Nat) (P : Nat → Nat → Int32) (T : Nat → Int32), kDs G Bs O v w hk n P T 0 mm ∧ n ≤ 4 ∧ 0 < n ∧ P 0 = u
theorem kXn_le {x : Int32} {n : Nat} (h : n ≤ 4) : kXn x n ≤ 4 := by
  unfold kXn; split
  · exact kN_le
  · exact h
theorem kN_pos {n : Nat} : 0 < kN n := by unfold kN; split <;> omega
theorem q_date {l : Launch} {G : zG} {Bs : Nat → Nat → Nat} {O : Nat → Nat} {mm : zM} {v w : Nat → Int32} {hk : Int32} (h : lT G Bs O v w hk mm) (hA : zAll v) {a b x : Int32} (e : sDate v a b = x) : zSem l G (yX6_date, cX6_date, 4, (some .int)) 6 [.ref (O 0), .int a, .int b] mm (some (.int x)) (lT G Bs O v w hk) := by
  obtain ⟨n, P, T, hD, hn⟩ := h
  subst e
  exact (d_X6_date hD hA.1 hn a b).imp (fun m' q => ⟨n, P, T, q.1, hn⟩)
theorem q_waiting {l : Launch} {G : zG} {Bs : Nat → Nat → Nat} {O : Nat → Nat} {mm : zM} {v w : Nat → Int32} {hk : Int32} (h : lT G Bs O v w hk mm) (hA : zAll v) {a b x : Int32} (e : sWait v a b = x) : zSem l G (yX6_waiting, cX6_waiting, 4, (some .int)) 6 [.ref (O 0), .int a, .int b] mm (some (.int x)) (lT G Bs O v w hk) := by
  obtain ⟨n, P, T, hD, hn⟩ := h
  subst e
  exact (d_X6_waiting hD hA.1 hn a b).imp (fun m' q => ⟨n, P, T, q.1, hn⟩)
theorem q_right {l : Launch} {G : zG} {Bs : Nat → Nat → Nat} {O : Nat → Nat} {mm : zM} {v w : Nat → Int32} {hk : Int32} (h : lT G Bs O v w hk mm) (hA : zAll v) {a b x : Int32} (e : sRight v a b = x) : zSem l G (yX6_right, cX6_right, 4, (some .int)) 6 [.ref (O 0), .int a, .int b] mm (some (.int x)) (lT G Bs O v w hk) := by
  obtain ⟨n, P, T, hD, hn⟩ := h
  subst e
  exact (d_X6_right hD hA.1 hn a b).imp (fun m' q => ⟨n, P, T, q.1, hn⟩)
theorem q_holder {l : Launch} {G : zG} {Bs : Nat → Nat → Nat} {O : Nat → Nat} {mm : zM} {v w : Nat → Int32} {hk : Int32} (h : lT G Bs O v w hk mm) (hA : zAll v) {a b x : Int32} (e : sHold v a b = x) : zSem l G (yX6_holder, cX6_holder, 3, (some .int)) 6 [.ref (O 0), .int a, .int b] mm (some (.int x)) (lT G Bs O v w hk) := by
  obtain ⟨n, P, T, hD, hn⟩ := h
  subst e
  exact (d_X6_holder hD hA.1 hn a b).imp (fun m' q => ⟨n, P, T, q.1, hn⟩)
theorem q_stage {l : Launch} {G : zG} {Bs : Nat → Nat → Nat} {O : Nat → Nat} {mm : zM} {v w : Nat → Int32} {hk : Int32} (h : lT G Bs O v w hk mm) (hA : zAll v) {a b x : Int32} (e : sStg v a b = x) : zSem l G (yX6_stage, cX6_stage, 3, (some .int)) 6 [.ref (O 0), .int a, .int b] mm (some (.int x)) (lT G Bs O v w hk) := by
  obtain ⟨n, P, T, hD, hn⟩ := h
  subst e
  exact (d_X6_stage hD hA.1 hn a b).imp (fun m' q => ⟨n, P, T, q.1, hn⟩)
theorem q_priceIn {l : Launch} {G : zG} {Bs : Nat → Nat → Nat} {O : Nat → Nat} {mm : zM} {v w : Nat → Int32} {hk : Int32} (h : lT G Bs O v w hk mm) (hA : zAll v) {a b x : Int32} (e : sPin v a b = x) : zSem l G (yX6_priceIn, cX6_priceIn, 5, (some .int)) 6 [.ref (O 0), .int a, .int b] mm (some (.int x)) (lT G Bs O v w hk) := by
  obtain ⟨n, P, T, hD, hn⟩ := h
  subst e
  exact (d_X6_priceIn hD hA.1 hn a b).imp (fun m' q => ⟨n, P, T, q.1, hn⟩)
theorem q_event {l : Launch} {G : zG} {Bs : Nat → Nat → Nat} {O : Nat → Nat} {mm : zM} {v w : Nat → Int32} {hk : Int32} (h : lT G Bs O v w hk mm) (hA : zAll v) {a b x : Int32} (e : sEv v a b = x) : zSem l G (yX6_event, cX6_event, 4, (some .int)) 6 [.ref (O 0), .int a, .int b] mm (some (.int x)) (lT G Bs O v w hk) := by
  obtain ⟨n, P, T, hD, hn⟩ := h
  subst e
  exact (d_X6_event hD hA.1 hn a b).imp (fun m' q => ⟨n, P, T, q.1, hn⟩)
theorem q_wouldCover {l : Launch} {G : zG} {Bs : Nat → Nat → Nat} {O : Nat → Nat} {mm : zM} {v w : Nat → Int32} {hk : Int32} (h : lT G Bs O v w hk mm) (hA : zAll v) {a x : Int32} (e : (sWc v a).1 = x) : zSem l G (yX6_wouldCover, cX6_wouldCover, 3, (some .int)) 6 [.ref (O 0), .int a] mm (some (.int x)) (lT G Bs O v w hk) := by
  obtain ⟨n, P, T, hD, hn⟩ := h
  subst e
  exact (d_X6_wouldCover hD hA.1 hn a).imp (fun m' q => ⟨n, P, T, q.1, hn⟩)
theorem q_count {l : Launch} {G : zG} {Bs : Nat → Nat → Nat} {O : Nat → Nat} {mm : zM} {v w : Nat → Int32} {hk : Int32} (h : lT G Bs O v w hk mm) (hA : zAll v) {b : Nat} (hb : b ≤ 13) {x : Int32} (e : sCountW v (fun _ _ => 0) b = x) : zSem l G (yX6_count, cX6_count, 2, (some .int)) 6 [.ref (O 0), .int (nI b)] mm (some (.int x)) (lT G Bs O v w hk) := by
  obtain ⟨n, P, T, hD, hn⟩ := h
  subst e
  rw [← e_count (n := n) (t := 0) hb]
  exact (d_X6_count hD hA.1 hn (nI b)).imp (fun m' q => ⟨n, P, T, q.1, hn⟩)
theorem q_countS {l : Launch} {G : zG} {Bs : Nat → Nat → Nat} {O : Nat → Nat} {mm : zM} {v w : Nat → Int32} {hk : Int32} {u : Nat → Int32} (h : lS G Bs O v w hk u mm) (hA : zAll v) {b : Nat} (hb : b ≤ 13) {x : Int32} (e : sCountW v (fun _ _ => 0) b = x) : zSem l G (yX6_count, cX6_count, 2, (some .int)) 6 [.ref (O 0), .int (nI b)] mm (some (.int x)) (lS G Bs O v w hk u) := by
  obtain ⟨n, P, T, hD, hn, h0, hP⟩ := h
  subst e
  rw [← e_count (n := n) (t := 0) hb]
  exact (d_X6_count hD hA.1 hn (nI b)).imp (fun m' q => ⟨n, P, T, q.1, hn, h0, hP⟩)
theorem q_dateW {l : Launch} {G : zG} {Bs : Nat → Nat → Nat} {O : Nat → Nat} {mm : zM} {v w : Nat → Int32} {hk : Int32} (h : lT G Bs O v w hk mm) (hA : zAll v) {d b : Nat} (hd : d < nD v) (hb : b ≤ 13) {x : Int32} (e : sDateW v d b = x) : zSem l G (yX6_date, cX6_date, 4, (some .int)) 6 [.ref (O 0), .int (nI d), .int (nI b)] mm (some (.int x)) (lT G Bs O v w hk) :=
  q_date h hA ((e_date hA.1.1.1.1.1 hd hb).trans e)
theorem q_rightW {l : Launch} {G : zG} {Bs : Nat → Nat → Nat} {O : Nat → Nat} {mm : zM} {v w : Nat → Int32} {hk : Int32} (h : lT G Bs O v w hk mm) (hA : zAll v) {r b : Nat} (hr : r < nR v) (hb : b ≤ 6) {x : Int32} (e : v (147 + 7 * r + b) = x) : zSem l G (yX6_right, cX6_right, 4, (some .int)) 6 [.ref (O 0), .int (nI r), .int (nI b)] mm (some (.int x)) (lT G Bs O v w hk) :=
  q_right h hA ((e_right hA.1.1.1.1.2.1 hr hb).trans e)
theorem q_holdW {l : Launch} {G : zG} {Bs : Nat → Nat → Nat} {O : Nat → Nat} {mm : zM} {v w : Nat → Int32} {hk : Int32} (h : lT G Bs O v w hk mm) (hA : zAll v) {g b : Nat} (hg : g < 10) (hb : b ≤ 3) {x : Int32} (e : sHoldW v g b = x) : zSem l G (yX6_holder, cX6_holder, 3, (some .int)) 6 [.ref (O 0), .int (nI g), .int (nI b)] mm (some (.int x)) (lT G Bs O v w hk) :=
  q_holder h hA ((e_hold hg hb).trans e)
theorem q_stgW {l : Launch} {G : zG} {Bs : Nat → Nat → Nat} {O : Nat → Nat} {mm : zM} {v w : Nat → Int32} {hk : Int32} (h : lT G Bs O v w hk mm) (hA : zAll v) {k : Nat} (hk3 : k ≤ 3) {x : Int32} (e : v (9 + 2 * k) = x) : zSem l G (yX6_stage, cX6_stage, 3, (some .int)) 6 [.ref (O 0), .int (nI k), .int (nI 0)] mm (some (.int x)) (lT G Bs O v w hk) :=
  q_stage h hA ((e_stg hk3).trans e)
theorem q_buy {l : Launch} {G : zG} {Bs : Nat → Nat → Nat} {O : Nat → Nat} {mm : zM} {v w : Nat → Int32} {hk : Int32} (h : lT G Bs O v w hk mm) (hA : zAll v) {a b x : Int32} {v' : Nat → Int32} (e : sDoBuy v a b = (x, v')) : zSem l G (yX6_buy, cX6_buy, 3, (some .int)) 7 [.ref (O 0), .int a, .int b] mm (some (.int x)) (lT G Bs O v' w hk) := by
  obtain ⟨n, P, T, hD, hn⟩ := h
  have e1 : (sDoBuy v a b).1 = x := by rw [e]
  have e2 : (sDoBuy v a b).2 = v' := by rw [e]
  subst e1 e2
  exact (d_X6_buy hD hA.1 hn a b).imp (fun m' q => ⟨_, _, T, q.1, kXn_le hn⟩)
theorem q_buyOffered {l : Launch} {G : zG} {Bs : Nat → Nat → Nat} {O : Nat → Nat} {mm : zM} {v w : Nat → Int32} {hk : Int32} (h : lT G Bs O v w hk mm) (hA : zAll v) {a b x : Int32} {v' : Nat → Int32} (e : sDoOff v a b = (x, v')) : zSem l G (yX6_buyOffered, cX6_buyOffered, 3, (some .int)) 7 [.ref (O 0), .int a, .int b] mm (some (.int x)) (lT G Bs O v' w hk) := by
  obtain ⟨n, P, T, hD, hn⟩ := h
  have e1 : (sDoOff v a b).1 = x := by rw [e]
  have e2 : (sDoOff v a b).2 = v' := by rw [e]
  subst e1 e2
  exact (d_X6_buyOffered hD hA.1 hn a b).imp (fun m' q => ⟨_, _, T, q.1, kXn_le hn⟩)
theorem q_cancel {l : Launch} {G : zG} {Bs : Nat → Nat → Nat} {O : Nat → Nat} {mm : zM} {v w : Nat → Int32} {hk : Int32} (h : lT G Bs O v w hk mm) (hA : zAll v) {a x : Int32} {v' : Nat → Int32} (e : sDoCan v a = (x, v')) : zSem l G (yX6_cancel, cX6_cancel, 2, (some .int)) 7 [.ref (O 0), .int a] mm (some (.int x)) (lT G Bs O v' w hk) := by
  obtain ⟨n, P, T, hD, hn⟩ := h
  have e1 : (sDoCan v a).1 = x := by rw [e]
  have e2 : (sDoCan v a).2 = v' := by rw [e]
  subst e1 e2
  exact (d_X6_cancel hD hA.1 hn a).imp (fun m' q => ⟨_, _, T, q.1, kXn_le hn⟩)
theorem q_offer {l : Launch} {G : zG} {Bs : Nat → Nat → Nat} {O : Nat → Nat} {mm : zM} {v w : Nat → Int32} {hk : Int32} (h : lT G Bs O v w hk mm) (hA : zAll v) {a b x : Int32} {v' : Nat → Int32} (e : sDoOfr v a b = (x, v')) : zSem l G (yX6_offer, cX6_offer, 3, (some .int)) 7 [.ref (O 0), .int a, .int b] mm (some (.int x)) (lT G Bs O v' w hk) := by
  obtain ⟨n, P, T, hD, hn⟩ := h
  have e1 : (sDoOfr v a b).1 = x := by rw [e]
  have e2 : (sDoOfr v a b).2 = v' := by rw [e]
  subst e1 e2
  exact (d_X6_offer hD hA.1 hn a b).imp (fun m' q => ⟨_, _, T, q.1, kXn_le hn⟩)
theorem q_exercise {l : Launch} {G : zG} {Bs : Nat → Nat → Nat} {O : Nat → Nat} {mm : zM} {v w : Nat → Int32} {hk : Int32} (h : lT G Bs O v w hk mm) (hA : zAll v) {a x : Int32} {v' : Nat → Int32} (e : sDoEx v a = (x, v')) : zSem l G (yX6_exercise, cX6_exercise, 2, (some .int)) 7 [.ref (O 0), .int a] mm (some (.int x)) (lT G Bs O v' w hk) := by
  obtain ⟨n, P, T, hD, hn⟩ := h
  have e1 : (sDoEx v a).1 = x := by rw [e]
  have e2 : (sDoEx v a).2 = v' := by rw [e]
  subst e1 e2
  exact (d_X6_exercise hD hA.1 hn a).imp (fun m' q => ⟨_, _, T, q.1, kXn_le hn⟩)
theorem q_takeBack {l : Launch} {G : zG} {Bs : Nat → Nat → Nat} {O : Nat → Nat} {mm : zM} {v w : Nat → Int32} {hk : Int32} (h : lT G Bs O v w hk mm) (hA : zAll v) {a x : Int32} {v' : Nat → Int32} {f' : Bool} (e : sTk v a = (x, v', f')) : zSem l G (yX6_takeBack, cX6_takeBack, 2, (some .int)) 7 [.ref (O 0), .int a] mm (some (.int x)) (lT G Bs O v' w hk) := by
  obtain ⟨n, P, T, hD, hn⟩ := h
  have e1 : (sTk v a).1 = x := by rw [e]
  have e2 : (sTk v a).2.1 = v' := by rw [e]
  subst e1 e2
  exact (d_X6_takeBack hD hA.1 hn a).imp (fun m' q => ⟨_, _, T, q.1, kXn_le hn⟩)
theorem q_await {l : Launch} {G : zG} {Bs : Nat → Nat → Nat} {O : Nat → Nat} {mm : zM} {v w : Nat → Int32} {hk : Int32} (h : lT G Bs O v w hk mm) (hA : zAll v) {a b x : Int32} {v' : Nat → Int32} {f' : Bool} (e : sAw v a b = (x, v', f')) : zSem l G (yX6_await, cX6_await, 3, (some .int)) 7 [.ref (O 0), .int a, .int b] mm (some (.int x)) (lT G Bs O v' w hk) := by
  obtain ⟨n, P, T, hD, hn⟩ := h
  have e1 : (sAw v a b).1 = x := by rw [e]
  have e2 : (sAw v a b).2.1 = v' := by rw [e]
  subst e1 e2
  exact (d_X6_await hD hA.1 hn a b).imp (fun m' q => ⟨_, _, T, q.1, kXn_le hn⟩)
theorem q_leave {l : Launch} {G : zG} {Bs : Nat → Nat → Nat} {O : Nat → Nat} {mm : zM} {v w : Nat → Int32} {hk : Int32} (h : lT G Bs O v w hk mm) (hA : zAll v) {a b x : Int32} {v' : Nat → Int32} {f' : Bool} (e : sLv v a b = (x, v', f')) : zSem l G (yX6_leave, cX6_leave, 3, (some .int)) 7 [.ref (O 0), .int a, .int b] mm (some (.int x)) (lT G Bs O v' w hk) := by
  obtain ⟨n, P, T, hD, hn⟩ := h
  have e1 : (sLv v a b).1 = x := by rw [e]
  have e2 : (sLv v a b).2.1 = v' := by rw [e]
  subst e1 e2
  exact (d_X6_leave hD hA.1 hn a b).imp (fun m' q => ⟨_, _, T, q.1, kXn_le hn⟩)
theorem q_pass {l : Launch} {G : zG} {Bs : Nat → Nat → Nat} {O : Nat → Nat} {mm : zM} {v w : Nat → Int32} {hk : Int32} (h : lT G Bs O v w hk mm) (hA : zAll v) {a x : Int32} {v' : Nat → Int32} {f' : Bool} (e : sPass v a = (x, v', f')) : zSem l G (yX6_pass, cX6_pass, 2, (some .int)) 7 [.ref (O 0), .int a] mm (some (.int x)) (lT G Bs O v' w hk) := by
  obtain ⟨n, P, T, hD, hn⟩ := h
  have e1 : (sPass v a).1 = x := by rw [e]
  have e2 : (sPass v a).2.1 = v' := by rw [e]
  subst e1 e2
  exact (d_X6_pass hD hA.1 hn a).imp (fun m' q => ⟨_, _, T, q.1, kXn_le hn⟩)
theorem q_set {l : Launch} {G : zG} {Bs : Nat → Nat → Nat} {O : Nat → Nat} {mm : zM} {v w : Nat → Int32} {hk : Int32} (h : lT G Bs O v w hk mm) (hA : zAll v) {a b x : Int32} {v' : Nat → Int32} {f' : Bool} (e : sSet v a b = (x, v', f')) : zSem l G (yX6_set, cX6_set, 3, (some .int)) 7 [.ref (O 0), .int a, .int b] mm (some (.int x)) (lT G Bs O v' w hk) := by
  obtain ⟨n, P, T, hD, hn⟩ := h
  have e1 : (sSet v a b).1 = x := by rw [e]
  have e2 : (sSet v a b).2.1 = v' := by rw [e]
  subst e1 e2
  exact (d_X6_set hD hA.1 hn a b).imp (fun m' q => ⟨_, _, T, q.1, kXn_le hn⟩)
theorem q_setStage {l : Launch} {G : zG} {Bs : Nat → Nat → Nat} {O : Nat → Nat} {mm : zM} {v w : Nat → Int32} {hk : Int32} (h : lT G Bs O v w hk mm) (hA : zAll v) {a b c x : Int32} {v' : Nat → Int32} {f' : Bool} (e : sSt v a b c = (x, v', f')) : zSem l G (yX6_setStage, cX6_setStage, 4, (some .int)) 7 [.ref (O 0), .int a, .int b, .int c] mm (some (.int x)) (lT G Bs O v' w hk) := by
  obtain ⟨n, P, T, hD, hn⟩ := h
  have e1 : (sSt v a b c).1 = x := by rw [e]
  have e2 : (sSt v a b c).2.1 = v' := by rw [e]
  subst e1 e2
  exact (d_X6_setStage hD hA.1 hn a b c).imp (fun m' q => ⟨_, _, T, q.1, kXn_le hn⟩)
theorem q_addDate {l : Launch} {G : zG} {Bs : Nat → Nat → Nat} {O : Nat → Nat} {mm : zM} {v w : Nat → Int32} {hk : Int32} (h : lT G Bs O v w hk mm) (hA : zAll v) {a b c e0 f x : Int32} {v' : Nat → Int32} {f' : Bool} (e : sAdd v a b c e0 f = (x, v', f')) : zSem l G (yX6_addDate, cX6_addDate, 6, (some .int)) 7 [.ref (O 0), .int a, .int b, .int c, .int e0, .int f] mm (some (.int x)) (lT G Bs O v' w hk) := by
  obtain ⟨n, P, T, hD, hn⟩ := h
  have e1 : (sAdd v a b c e0 f).1 = x := by rw [e]
  have e2 : (sAdd v a b c e0 f).2.1 = v' := by rw [e]
  subst e1 e2
  exact (d_X6_addDate hD hA.1 hn a b c e0 f).imp (fun m' q => ⟨_, _, T, q.1, kXn_le hn⟩)
theorem q_passS {l : Launch} {G : zG} {Bs : Nat → Nat → Nat} {O : Nat → Nat} {mm : zM} {v w : Nat → Int32} {hk : Int32} (h : lT G Bs O v w hk mm) (hA : zAll v) {a x : Int32} {v' : Nat → Int32} {f' : Bool} (e : sPass v a = (x, v', f')) (hx : 0 ≤ x) : zSem l G (yX6_pass, cX6_pass, 2, (some .int)) 7 [.ref (O 0), .int a] mm (some (.int x)) (lS G Bs O v' w hk v) := by
  obtain ⟨n, P, T, hD, hn⟩ := h
  have e1 : (sPass v a).1 = x := by rw [e]
  have e2 : (sPass v a).2.1 = v' := by rw [e]
  subst e1 e2
  exact (d_X6_pass hD hA.1 hn a).imp (fun m' q => ⟨_, _, T, q.1, kXn_le hn, by unfold kXn; rw [if_pos hx]; exact kN_pos, by unfold kXP; rw [if_pos hx]; rfl⟩)
theorem q_undo {l : Launch} {G : zG} {Bs : Nat → Nat → Nat} {O : Nat → Nat} {mm : zM} {v w : Nat → Int32} {hk : Int32} {u : Nat → Int32} (h : lS G Bs O v w hk u mm) (hA : zAll v) : ∃ k, k ≤ 3 ∧ zSem l G (yX6_undo, cX6_undo, 2, (some .int)) 4 [.ref (O 0)] mm (some (.int (nI k))) (lT G Bs O u w hk) := by
  obtain ⟨n, P, T, hD, hn, h0, hP⟩ := h
  have q := d_X6_undo (l := l) hD hA.1 hn
  rw [if_neg (by omega), if_neg (by omega), hP] at q
  exact ⟨n - 1, by omega, q.imp (fun m' q => ⟨_, _, T, q.1, by omega⟩)⟩
theorem q_keep {l : Launch} {G : zG} {Bs : Nat → Nat → Nat} {O : Nat → Nat} {mm : zM} {v w : Nat → Int32} {hk : Int32} (h : lT G Bs O v w hk mm) (hA : zAll v) {x : Int32} (e : v 0 = x) : zSem l G (yX6_keep, cX6_keep, 1, (some .int)) 4 [.ref (O 0)] mm (some (.int x)) (lT G Bs O v v (nI 1)) := by
  obtain ⟨n, P, T, hD, hn⟩ := h
  subst e
  exact (d_X6_keep hD hA.1 hn).imp (fun m' q => ⟨_, _, T, q.1, hn⟩)
theorem q_restore {l : Launch} {G : zG} {Bs : Nat → Nat → Nat} {O : Nat → Nat} {mm : zM} {v w : Nat → Int32} {hk : Int32} (h : lT G Bs O v w (nI 1) mm) (hA : zAll v) (hB : zAll w) {x : Int32} (e : w 0 = x) : zSem l G (yX6_restore, cX6_restore, 1, (some .int)) 7 [.ref (O 0)] mm (some (.int x)) (lT G Bs O w w (nI 1)) := by
  obtain ⟨n, P, T, hD, hn⟩ := h
  subst e
  have q := d_X6_restore (l := l) hD hA.1 hn (fun _ => hB.1)
  rw [if_neg (by decide), if_neg (by decide), if_neg (by decide), if_neg (by decide)] at q
  exact q.imp (fun m' q => ⟨_, _, T, q.1, kN_le⟩)
theorem q_perform {l : Launch} {G : zG} {Bs : Nat → Nat → Nat} {O : Nat → Nat} {mm : zM} {v w : Nat → Int32} {hk : Int32} (h : lT G Bs O v w hk mm) (hA : zAll v) : zSem l G (yX6_perform, cX6_perform, 4, (some .int)) 7 [.ref (O 0)] mm (some (.int (-100))) (lT G Bs O v w hk) := by
  obtain ⟨n, P, T, hD, hn⟩ := h
  have e0 : (sRO T 0 0 0 0) = (false, 0, 0, 0) := by
    unfold sRO
    rw [show sSg T 0 0 (nI 98) = false from rfl, show sSg T 0 0 (nI 109) = false from rfl, show sSg T 0 0 (nI 99) = false from rfl, show sSg T 0 0 (nI 120) = false from rfl, show sSg T 0 0 (nI 111) = false from rfl]
    rfl
  have e1 : sPA T 0 62 0 = ([], false, 0) := by
    unfold sPA
    rw [e0]; rfl
  have e : sPf T 0 v = (-100, v) := by
    unfold sPf
    rw [e1]; rfl
  have q := d_X6_perform (l := l) hD hA.1 hn (Nat.zero_le _)
  rw [e] at q
  exact q.imp (fun m' q => ⟨_, _, T, q.1, kXn_le hn⟩)
