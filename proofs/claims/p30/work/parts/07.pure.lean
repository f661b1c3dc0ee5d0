section ZA
variable {l : Launch} {G : zG} {y : MethodName} {cc : ByteArray} {nL : Nat} {ret : Option FieldType} {d : Nat} {rv : Option Value} {Q : zM → Prop} {pc : Nat} {lv : List (Option Value)} {st : List Value} {mm : zM}
variable {y2 : MethodName} {b2 : ByteArray} {n2 d2 np ix : Nat} {r2 : Option FieldType} {Q2 : zM → Prop} {own : String} {v2 : Value}
theorem z_pV0 {a ci N : Nat} {C : String} {T : u_T} (hy : zMV y2 b2 n2 r2 0) (hs : zSem l G (y2, b2, n2, r2) d2 [.ref a] mm (some v2) (fun m' => m' = mm)) (ho : own = y.cls) (hlink : Cond.methodLink own ix y2 ∈ zU) (hc : vwCl[ci]? = some (C, T, N)) (hC : C = y2.cls) (hci : ci < 8) (ha : a ∈ zL G) (hsh : zsh G a = (ci, N)) (hd2 : d2 < d) (hW : (st.map fun v => v.category).sum ≤ 8) (hd : decode cc pc = .ok (.invokevirtual ix, 3)) (kk : zV l G (y, cc, nL, ret) d rv Q (pc + 3) lv (v2 :: st) mm) : zV l G (y, cc, nL, ret) d rv Q pc lv (.ref a :: st) mm :=
  z_callV (As := []) hy hs ho hlink hc hC hci ha hsh hd2 rfl hW hd (fun m' h => by subst h; exact kk)
theorem z_uV0 {a ci N : Nat} {C : String} {T : u_T} (hy : zMV y2 b2 n2 r2 0) (hs : zSem l G (y2, b2, n2, r2) d2 [.ref a] mm (some v2) Q2) (ho : own = y.cls) (hlink : Cond.methodLink own ix y2 ∈ zU) (hc : vwCl[ci]? = some (C, T, N)) (hC : C = y2.cls) (hci : ci < 8) (ha : a ∈ zL G) (hsh : zsh G a = (ci, N)) (hd2 : d2 < d) (hW : (st.map fun v => v.category).sum ≤ 8) (hd : decode cc pc = .ok (.invokevirtual ix, 3)) (kk : ∀ m', Q2 m' → zV l G (y, cc, nL, ret) d rv Q (pc + 3) lv (v2 :: st) m') : zV l G (y, cc, nL, ret) d rv Q pc lv (.ref a :: st) mm :=
  z_callV (As := []) hy hs ho hlink hc hC hci ha hsh hd2 rfl hW hd (fun m' h => kk m' h)
theorem z_vV0 {a ci N : Nat} {C : String} {T : u_T} (hy : zMV y2 b2 n2 r2 0) (hs : zSem l G (y2, b2, n2, r2) d2 [.ref a] mm none Q2) (ho : own = y.cls) (hlink : Cond.methodLink own ix y2 ∈ zU) (hc : vwCl[ci]? = some (C, T, N)) (hC : C = y2.cls) (hci : ci < 8) (ha : a ∈ zL G) (hsh : zsh G a = (ci, N)) (hd2 : d2 < d) (hW : (st.map fun v => v.category).sum ≤ 8) (hd : decode cc pc = .ok (.invokevirtual ix, 3)) (kk : ∀ m', Q2 m' → zV l G (y, cc, nL, ret) d rv Q (pc + 3) lv st m') : zV l G (y, cc, nL, ret) d rv Q pc lv (.ref a :: st) mm :=
  z_callV (As := []) hy hs ho hlink hc hC hci ha hsh hd2 rfl hW hd (fun m' h => kk m' h)
theorem z_pV1 {a1 : Value} {a ci N : Nat} {C : String} {T : u_T} (hy : zMV y2 b2 n2 r2 1) (hs : zSem l G (y2, b2, n2, r2) d2 [.ref a, a1] mm (some v2) (fun m' => m' = mm)) (ho : own = y.cls) (hlink : Cond.methodLink own ix y2 ∈ zU) (hc : vwCl[ci]? = some (C, T, N)) (hC : C = y2.cls) (hci : ci < 8) (ha : a ∈ zL G) (hsh : zsh G a = (ci, N)) (hd2 : d2 < d) (hW : (st.map fun v => v.category).sum ≤ 8) (hd : decode cc pc = .ok (.invokevirtual ix, 3)) (kk : zV l G (y, cc, nL, ret) d rv Q (pc + 3) lv (v2 :: st) mm) : zV l G (y, cc, nL, ret) d rv Q pc lv (a1 :: .ref a :: st) mm :=
  z_callV (As := [a1]) hy hs ho hlink hc hC hci ha hsh hd2 rfl hW hd (fun m' h => by subst h; exact kk)
theorem z_uV1 {a1 : Value} {a ci N : Nat} {C : String} {T : u_T} (hy : zMV y2 b2 n2 r2 1) (hs : zSem l G (y2, b2, n2, r2) d2 [.ref a, a1] mm (some v2) Q2) (ho : own = y.cls) (hlink : Cond.methodLink own ix y2 ∈ zU) (hc : vwCl[ci]? = some (C, T, N)) (hC : C = y2.cls) (hci : ci < 8) (ha : a ∈ zL G) (hsh : zsh G a = (ci, N)) (hd2 : d2 < d) (hW : (st.map fun v => v.category).sum ≤ 8) (hd : decode cc pc = .ok (.invokevirtual ix, 3)) (kk : ∀ m', Q2 m' → zV l G (y, cc, nL, ret) d rv Q (pc + 3) lv (v2 :: st) m') : zV l G (y, cc, nL, ret) d rv Q pc lv (a1 :: .ref a :: st) mm :=
  z_callV (As := [a1]) hy hs ho hlink hc hC hci ha hsh hd2 rfl hW hd (fun m' h => kk m' h)
theorem z_vV1 {a1 : Value} {a ci N : Nat} {C : String} {T : u_T} (hy : zMV y2 b2 n2 r2 1) (hs : zSem l G (y2, b2, n2, r2) d2 [.ref a, a1] mm none Q2) (ho : own = y.cls) (hlink : Cond.methodLink own ix y2 ∈ zU) (hc : vwCl[ci]? = some (C, T, N)) (hC : C = y2.cls) (hci : ci < 8) (ha : a ∈ zL G) (hsh : zsh G a = (ci, N)) (hd2 : d2 < d) (hW : (st.map fun v => v.category).sum ≤ 8) (hd : decode cc pc = .ok (.invokevirtual ix, 3)) (kk : ∀ m', Q2 m' → zV l G (y, cc, nL, ret) d rv Q (pc + 3) lv st m') : zV l G (y, cc, nL, ret) d rv Q pc lv (a1 :: .ref a :: st) mm :=
  z_callV (As := [a1]) hy hs ho hlink hc hC hci ha hsh hd2 rfl hW hd (fun m' h => kk m' h)
theorem z_pV2 {a1 a2 : Value} {a ci N : Nat} {C : String} {T : u_T} (hy : zMV y2 b2 n2 r2 2) (hs : zSem l G (y2, b2, n2, r2) d2 [.ref a, a1, a2] mm (some v2) (fun m' => m' = mm)) (ho : own = y.cls) (hlink : Cond.methodLink own ix y2 ∈ zU) (hc : vwCl[ci]? = some (C, T, N)) (hC : C = y2.cls) (hci : ci < 8) (ha : a ∈ zL G) (hsh : zsh G a = (ci, N)) (hd2 : d2 < d) (hW : (st.map fun v => v.category).sum ≤ 8) (hd : decode cc pc = .ok (.invokevirtual ix, 3)) (kk : zV l G (y, cc, nL, ret) d rv Q (pc + 3) lv (v2 :: st) mm) : zV l G (y, cc, nL, ret) d rv Q pc lv (a2 :: a1 :: .ref a :: st) mm :=
  z_callV (As := [a1, a2]) hy hs ho hlink hc hC hci ha hsh hd2 rfl hW hd (fun m' h => by subst h; exact kk)
theorem z_uV2 {a1 a2 : Value} {a ci N : Nat} {C : String} {T : u_T} (hy : zMV y2 b2 n2 r2 2) (hs : zSem l G (y2, b2, n2, r2) d2 [.ref a, a1, a2] mm (some v2) Q2) (ho : own = y.cls) (hlink : Cond.methodLink own ix y2 ∈ zU) (hc : vwCl[ci]? = some (C, T, N)) (hC : C = y2.cls) (hci : ci < 8) (ha : a ∈ zL G) (hsh : zsh G a = (ci, N)) (hd2 : d2 < d) (hW : (st.map fun v => v.category).sum ≤ 8) (hd : decode cc pc = .ok (.invokevirtual ix, 3)) (kk : ∀ m', Q2 m' → zV l G (y, cc, nL, ret) d rv Q (pc + 3) lv (v2 :: st) m') : zV l G (y, cc, nL, ret) d rv Q pc lv (a2 :: a1 :: .ref a :: st) mm :=
  z_callV (As := [a1, a2]) hy hs ho hlink hc hC hci ha hsh hd2 rfl hW hd (fun m' h => kk m' h)
theorem z_vV2 {a1 a2 : Value} {a ci N : Nat} {C : String} {T : u_T} (hy : zMV y2 b2 n2 r2 2) (hs : zSem l G (y2, b2, n2, r2) d2 [.ref a, a1, a2] mm none Q2) (ho : own = y.cls) (hlink : Cond.methodLink own ix y2 ∈ zU) (hc : vwCl[ci]? = some (C, T, N)) (hC : C = y2.cls) (hci : ci < 8) (ha : a ∈ zL G) (hsh : zsh G a = (ci, N)) (hd2 : d2 < d) (hW : (st.map fun v => v.category).sum ≤ 8) (hd : decode cc pc = .ok (.invokevirtual ix, 3)) (kk : ∀ m', Q2 m' → zV l G (y, cc, nL, ret) d rv Q (pc + 3) lv st m') : zV l G (y, cc, nL, ret) d rv Q pc lv (a2 :: a1 :: .ref a :: st) mm :=
  z_callV (As := [a1, a2]) hy hs ho hlink hc hC hci ha hsh hd2 rfl hW hd (fun m' h => kk m' h)
theorem z_uV3 {a1 a2 a3 : Value} {a ci N : Nat} {C : String} {T : u_T} (hy : zMV y2 b2 n2 r2 3) (hs : zSem l G (y2, b2, n2, r2) d2 [.ref a, a1, a2, a3] mm (some v2) Q2) (ho : own = y.cls) (hlink : Cond.methodLink own ix y2 ∈ zU) (hc : vwCl[ci]? = some (C, T, N)) (hC : C = y2.cls) (hci : ci < 8) (ha : a ∈ zL G) (hsh : zsh G a = (ci, N)) (hd2 : d2 < d) (hW : (st.map fun v => v.category).sum ≤ 8) (hd : decode cc pc = .ok (.invokevirtual ix, 3)) (kk : ∀ m', Q2 m' → zV l G (y, cc, nL, ret) d rv Q (pc + 3) lv (v2 :: st) m') : zV l G (y, cc, nL, ret) d rv Q pc lv (a3 :: a2 :: a1 :: .ref a :: st) mm :=
  z_callV (As := [a1, a2, a3]) hy hs ho hlink hc hC hci ha hsh hd2 rfl hW hd (fun m' h => kk m' h)
theorem z_vV3 {a1 a2 a3 : Value} {a ci N : Nat} {C : String} {T : u_T} (hy : zMV y2 b2 n2 r2 3) (hs : zSem l G (y2, b2, n2, r2) d2 [.ref a, a1, a2, a3] mm none Q2) (ho : own = y.cls) (hlink : Cond.methodLink own ix y2 ∈ zU) (hc : vwCl[ci]? = some (C, T, N)) (hC : C = y2.cls) (hci : ci < 8) (ha : a ∈ zL G) (hsh : zsh G a = (ci, N)) (hd2 : d2 < d) (hW : (st.map fun v => v.category).sum ≤ 8) (hd : decode cc pc = .ok (.invokevirtual ix, 3)) (kk : ∀ m', Q2 m' → zV l G (y, cc, nL, ret) d rv Q (pc + 3) lv st m') : zV l G (y, cc, nL, ret) d rv Q pc lv (a3 :: a2 :: a1 :: .ref a :: st) mm :=
  z_callV (As := [a1, a2, a3]) hy hs ho hlink hc hC hci ha hsh hd2 rfl hW hd (fun m' h => kk m' h)
theorem z_uV5 {a1 a2 a3 a4 a5 : Value} {a ci N : Nat} {C : String} {T : u_T} (hy : zMV y2 b2 n2 r2 5) (hs : zSem l G (y2, b2, n2, r2) d2 [.ref a, a1, a2, a3, a4, a5] mm (some v2) Q2) (ho : own = y.cls) (hlink : Cond.methodLink own ix y2 ∈ zU) (hc : vwCl[ci]? = some (C, T, N)) (hC : C = y2.cls) (hci : ci < 8) (ha : a ∈ zL G) (hsh : zsh G a = (ci, N)) (hd2 : d2 < d) (hW : (st.map fun v => v.category).sum ≤ 8) (hd : decode cc pc = .ok (.invokevirtual ix, 3)) (kk : ∀ m', Q2 m' → zV l G (y, cc, nL, ret) d rv Q (pc + 3) lv (v2 :: st) m') : zV l G (y, cc, nL, ret) d rv Q pc lv (a5 :: a4 :: a3 :: a2 :: a1 :: .ref a :: st) mm :=
  z_callV (As := [a1, a2, a3, a4, a5]) hy hs ho hlink hc hC hci ha hsh hd2 rfl hW hd (fun m' h => kk m' h)
theorem z_pS1 {a1 : Value} (hy : zMS y2 b2 n2 r2 1) (hs : zSem l G (y2, b2, n2, r2) d2 [a1] mm (some v2) (fun m' => m' = mm)) (ho : own = y.cls) (hlink : Cond.methodLink own ix y2 ∈ zU) (hd2 : d2 < d) (hW : (st.map fun v => v.category).sum ≤ 8) (hd : decode cc pc = .ok (.invokestatic ix, 3)) (kk : zV l G (y, cc, nL, ret) d rv Q (pc + 3) lv (v2 :: st) mm) : zV l G (y, cc, nL, ret) d rv Q pc lv (a1 :: st) mm :=
  z_callS (As := [a1]) hy hs ho hlink hd2 rfl hW hd (fun m' h => by subst h; exact kk)
theorem z_pN1 {a1 : Value} {host : String} (hy : zMS y2 b2 n2 r2 1) (hs : zSem l G (y2, b2, n2, r2) d2 [a1] mm (some v2) (fun m' => m' = mm)) (ho : own = y.cls) (hlink : Cond.methodLinkNest own ix y2 host ∈ zN) (hd2 : d2 < d) (hW : (st.map fun v => v.category).sum ≤ 8) (hd : decode cc pc = .ok (.invokestatic ix, 3)) (kk : zV l G (y, cc, nL, ret) d rv Q (pc + 3) lv (v2 :: st) mm) : zV l G (y, cc, nL, ret) d rv Q pc lv (a1 :: st) mm :=
  z_callSN (As := [a1]) hy hs ho hlink hd2 rfl hW hd (fun m' h => by subst h; exact kk)
theorem z_vN2 {a1 a2 : Value} {host : String} (hy : zMS y2 b2 n2 r2 2) (hs : zSem l G (y2, b2, n2, r2) d2 [a1, a2] mm none Q2) (ho : own = y.cls) (hlink : Cond.methodLinkNest own ix y2 host ∈ zN) (hd2 : d2 < d) (hW : (st.map fun v => v.category).sum ≤ 8) (hd : decode cc pc = .ok (.invokestatic ix, 3)) (kk : ∀ m', Q2 m' → zV l G (y, cc, nL, ret) d rv Q (pc + 3) lv st m') : zV l G (y, cc, nL, ret) d rv Q pc lv (a2 :: a1 :: st) mm :=
  z_callSN (As := [a1, a2]) hy hs ho hlink hd2 rfl hW hd (fun m' h => kk m' h)
end ZA
/-! numbers -/
theorem nI_mul (a b : Nat) : nI a * nI b = nI (a * b) := (Int32.ofNat_mul a b).symm
section ZNI
variable {l : Launch} {G : zG} {y : MethodName} {cc : ByteArray} {nL : Nat} {ret : Option FieldType} {d : Nat} {rv : Option Value} {Q : zM → Prop} {pc : Nat} {lv : List (Option Value)} {st : List Value} {mm : zM}
theorem z_iaddN {a b : Nat} (hd : decode cc pc = .ok (.iadd, 1)) (k : zV l G (y, cc, nL, ret) d rv Q (pc + 1) lv (.int (nI (a + b)) :: st) mm) : zV l G (y, cc, nL, ret) d rv Q pc lv (.int (nI b) :: .int (nI a) :: st) mm := z_iadd hd (by rw [nI_add]; exact k)
theorem z_imulN {a b : Nat} (hd : decode cc pc = .ok (.imul, 1)) (k : zV l G (y, cc, nL, ret) d rv Q (pc + 1) lv (.int (nI (a * b)) :: st) mm) : zV l G (y, cc, nL, ret) d rv Q pc lv (.int (nI b) :: .int (nI a) :: st) mm := z_imul hd (by rw [nI_mul]; exact k)
theorem z_iincN {a n : Nat} (i : Nat) {lv' : List (Option Value)} (hi : lv[i]? = some (some (.int (nI a)))) (he : lv.set i (some (.int (nI (a + n)))) = lv') (hd : decode cc pc = .ok (.iinc i (n : Int), 3)) (k : zV l G (y, cc, nL, ret) d rv Q (pc + 3) lv' st mm) : zV l G (y, cc, nL, ret) d rv Q pc lv st mm :=
  z_iinc i hi (by rw [show Int32.ofInt (n : Int) = nI n from rfl, nI_add]) he hd k
end ZNI
/-! ===== the reference's picture: its object, its seven arrays ===== -/
def zMsh (j : Nat) : Nat × Nat := if j = 0 then (7, 15) else if j = 3 then (9, 2428) else if j = 5 then (9, 60) else if j = 6 then (9, 4) else if j = 7 then (9, 4) else (9, 607)
/-- which array a field holds, 0: it holds a number -/
def zMrf (k : Nat) : Nat := if k = 0 then 1 else if k = 1 then 2 else if k = 2 then 3 else if k = 4 then 4 else if k = 6 then 5 else if k = 8 then 6 else if k = 9 then 7 else 0
/-- v: the row of numbers; S j: array j (2 spare, 3 history, 4 kept, 5 text), S 0: the object's own numbers; m0: all else -/
def zMP (G : zG) (A : Nat → Nat) (m0 : zM) (v : Nat → Int32) (S : Nat → Nat → Int32) (mm : zM) : Prop :=
  (∀ j, j < 8 → A j ∈ zL G) ∧ (∀ j, j < 8 → zsh G (A j) = zMsh j) ∧ (∀ i j, i < 8 → j < 8 → A i = A j → i = j) ∧
  (∀ k, k < 15 → 0 < zMrf k → mm (A 0) k = .ref (A (zMrf k))) ∧ (∀ k, k < 15 → zMrf k = 0 → mm (A 0) k = .int (S 0 k)) ∧ (∀ i, i < 607 → mm (A 1) i = .int (v i)) ∧
  (∀ j i, 2 ≤ j → j < 6 → i < (zMsh j).2 → mm (A j) i = .int (S j i)) ∧ (∀ i, i < 4 → mm (A 6) i = .int (zLow i)) ∧ (∀ i, i < 4 → mm (A 7) i = .int (zHigh i)) ∧ ∀ b, (∀ j, j < 8 → b ≠ A j) → mm b = m0 b
theorem zc1 {As : List Value} (h : As.all (fun v => v.category == 1) = true) : ∀ v ∈ As, v.category = 1 := fun v hv => by simpa using List.all_eq_true.mp h v hv
def zB (b : Bool) : Int32 := if b then 1 else 0
theorem zB_nar (b : Bool) : narrow .boolean (.int (zB b)) = .int (zB b) := by cases b <;> rfl
section ZB
variable {l : Launch} {G : zG} {y : MethodName} {cc : ByteArray} {nL : Nat} {ret : Option FieldType} {d : Nat} {rv : Option Value} {Q : zM → Prop} {pc : Nat} {lv : List (Option Value)} {st : List Value} {mm : zM}
theorem z_if_eqB {b : Bool} {off : Int} (tgt : Nat) (hd : decode cc pc = .ok (.ifCond .eq off, 3)) (ht : (pc : Int) + off = (tgt : Int)) (kt : b = false → zV l G (y, cc, nL, ret) d rv Q tgt lv st mm) (kf : b = true → zV l G (y, cc, nL, ret) d rv Q (pc + 3) lv st mm) : zV l G (y, cc, nL, ret) d rv Q pc lv (.int (zB b) :: st) mm :=
  z_if_eq tgt hd ht (fun h => kt (by cases b; rfl; exact absurd h (by decide))) (fun h => kf (by cases b; exact absurd rfl h; rfl))
theorem z_if_neB {b : Bool} {off : Int} (tgt : Nat) (hd : decode cc pc = .ok (.ifCond .ne off, 3)) (ht : (pc : Int) + off = (tgt : Int)) (kt : b = true → zV l G (y, cc, nL, ret) d rv Q tgt lv st mm) (kf : b = false → zV l G (y, cc, nL, ret) d rv Q (pc + 3) lv st mm) : zV l G (y, cc, nL, ret) d rv Q pc lv (.int (zB b) :: st) mm :=
  z_if_ne tgt hd ht (fun h => kt (by cases b; exact absurd rfl h; rfl)) (fun h => kf (by cases b; rfl; exact absurd h (by decide)))
end ZB
theorem z_loop {P : Nat → Prop} (N : Nat) (h : ∀ i, i ≤ N → (i < N → P (i + 1)) → P i) : ∀ i, i ≤ N → P i := by
  have key : ∀ k i, i + k = N → P i := by
    intro k
    induction k with
    | zero => intro i e; exact h i (by omega) (fun q => absurd q (by omega))
    | succ k ih => intro i e; exact h i (by omega) (fun _ => ih (i + 1) (by omega))
  exact fun i hi => key (N - i) i (by omega)
theorem i_not_lt {a b : Int32} : ¬ a < b ↔ b ≤ a := Int32.not_lt
theorem i_not_le {a b : Int32} : ¬ a ≤ b ↔ b < a := Int32.not_le
/-! the reference's words -/
def zIn (x lo hi : Int32) : Bool := decide (lo ≤ x) && decide (x ≤ hi)
def nR (v : Nat → Int32) : Nat := (v 2).toNatClampNeg
def nD (v : Nat → Int32) : Nat := (v 1).toNatClampNeg
def sLeft (v : Nat → Int32) (d : Nat) : Int32 := v (27 + 12 * d + 0) - v 0
def sOpen (v : Nat → Int32) (d : Nat) : Bool := decide (0 < sLeft v d)
def sCnt (v : Nat → Int32) (d : Nat) (lo hi : Int32) : Nat → Nat
  | 0 => 0
  | n + 1 => sCnt v d lo hi n + if v (147 + 7 * n + 0) = nI d ∧ zIn (v (147 + 7 * n + 3)) lo hi = true then 1 else 0
def sOf (v : Nat → Int32) (d : Nat) (lo hi : Int32) : Nat := sCnt v d lo hi (nR v)
def sOut (v : Nat → Int32) (d : Nat) : Nat := sOf v d (nI 0) (nI 2)
/-- the indices are in their rows -/
def zJ2 (v : Nat → Int32) : Prop := v 2 = nI (nR v) ∧ nR v ≤ 60
def zJ1 (v : Nat → Int32) : Prop := v 1 = nI (nD v) ∧ nD v ≤ 10
theorem z_isubN {l : Launch} {G : zG} {y : MethodName} {cc : ByteArray} {nL : Nat} {ret : Option FieldType} {d : Nat} {rv : Option Value} {Q : zM → Prop} {pc : Nat} {lv : List (Option Value)} {st : List Value} {mm : zM} {a b : Nat} (h : b ≤ a) (hd : decode cc pc = .ok (.isub, 1)) (k : zV l G (y, cc, nL, ret) d rv Q (pc + 1) lv (.int (nI (a - b)) :: st) mm) : zV l G (y, cc, nL, ret) d rv Q pc lv (.int (nI b) :: .int (nI a) :: st) mm := by
  refine z_isub hd ?_
  have e : nI a - nI b = nI (a - b) := by
    have : nI a = nI (a - b) + nI b := by rw [nI_add]; congr 1; omega
    rw [this]; simp
  rw [e]; exact k
theorem zIn_nI {x : Int32} {n : Nat} (hn : n < 2 ^ 31) (h : zIn x (nI 0) (nI n) = true) : ∃ j, j ≤ n ∧ x = nI j := by
  unfold zIn at h
  rw [Bool.and_eq_true, decide_eq_true_eq, decide_eq_true_eq] at h
  obtain ⟨j, hj, e⟩ := nI_of (x := x) (by rw [i_not_lt]; exact h.1)
  subst e
  exact ⟨j, (nI_leI hj hn).mp h.2, rfl⟩
theorem zIn_nIp {x : Int32} {n : Nat} (hn : n < 2 ^ 31) (h : zIn x (nI 0) (nI n - nI 1) = true) : ∃ j, j < n ∧ x = nI j := by
  cases n with
  | zero =>
    unfold zIn at h
    rw [Bool.and_eq_true, decide_eq_true_eq, decide_eq_true_eq] at h
    exact absurd (Int32.le_trans h.1 h.2) (by decide)
  | succ n =>
    have e : nI (n + 1) - nI 1 = nI n := nI_pred n
    rw [e] at h
    obtain ⟨j, h1, h2⟩ := zIn_nI (by omega) h
    exact ⟨j, by omega, h2⟩
/-- the price by the rule at so many days left -/
def sPrice (v : Nat → Int32) (d : Nat) (left : Int32) : Int32 :=
  if v (27 + 12 * d + 4) = nI 1 then v (27 + 12 * d + 3) + v (27 + 12 * d + 3) * nI (sOut v d) / v (27 + 12 * d + 1)
  else if v (27 + 12 * d + 4) = 0 then v (27 + 12 * d + 3)
  else v (27 + 12 * d + 3) * (nI 100 + nI 2 * (if nI 30 < left then nI 0 else nI 30 - left)) / nI 100
def sMost (v : Nat → Int32) (d : Nat) : Int32 := v (27 + 12 * d + 1) + (if v 3 < sLeft v d then v (27 + 12 * d + 2) else nI 0) - nI (sOut v d)
def sSell0 (v : Nat → Int32) (d : Nat) : Int32 := if sMost v d < nI 60 - v 2 then sMost v d else nI 60 - v 2
def sCan (v : Nat → Int32) (d : Nat) : Int32 := if 0 < sSell0 v d ∧ sOpen v d = true then sSell0 v d else nI 0
def sStage (v : Nat → Int32) (d : Nat) : Nat := if v 9 ≤ sLeft v d then 0 else if v 11 ≤ sLeft v d then 1 else if v 13 ≤ sLeft v d then 2 else 3
def sLow (v : Nat → Int32) (d : Nat) (s : Int32) (w : Nat) : Nat → Option Nat
  | 0 => none
  | n + 1 => if v (147 + 7 * n + 0) = nI d ∧ v (147 + 7 * n + 3) = s then (match sLow v d s w n with
      | none => some n
      | some b => if v (147 + 7 * n + w) < v (147 + 7 * b + w) then some n else some b) else sLow v d s w n
def sRef (v : Nat → Int32) (r d : Nat) : Int32 := v (147 + 7 * r + 2) - v (147 + 7 * r + 2) * v (9 + 2 * sStage v d + 1) / nI 100
def sEx (v : Nat → Int32) (r d : Nat) : Bool := decide (v (147 + 7 * r + 3) = 0) && (zIn (sLeft v d) (nI 1) (v 5) && decide (nI (sOf v d (nI 2) (nI 2)) < v (27 + 12 * d + 1)))
def sPl (v : Nat → Int32) (d : Nat) (h : Int32) : Nat → Int32
  | 0 => -5
  | n + 1 => if v (27 + 12 * d + (6 + n)) = h then nI n else sPl v d h n
theorem l_X7_lowest_a {v : Nat → Int32} {d i : Nat} {s : Int32} {w : Nat} {o : Option Nat} (ho : o = sLow v d s w i) (h : ¬ (v (147 + 7 * i + 0) = nI d ∧ v (147 + 7 * i + 3) = s)) : o = sLow v d s w (i + 1) := by rw [sLow, if_neg h]; exact ho
theorem z_iincD {l : Launch} {G : zG} {y : MethodName} {cc : ByteArray} {nL : Nat} {ret : Option FieldType} {d : Nat} {rv : Option Value} {Q : zM → Prop} {pc : Nat} {lv : List (Option Value)} {st : List Value} {mm : zM} {a : Nat} (i : Nat) {lv' : List (Option Value)} (ha : 1 ≤ a) (hi : lv[i]? = some (some (.int (nI a)))) (he : lv.set i (some (.int (nI (a - 1)))) = lv') (hd : decode cc pc = .ok (.iinc i (-1), 3)) (k : zV l G (y, cc, nL, ret) d rv Q (pc + 3) lv' st mm) : zV l G (y, cc, nL, ret) d rv Q pc lv st mm :=
  z_iinc i hi (by
    have e : nI a = nI (a - 1) + 1 := by rw [nI_1]; congr 1; omega
    rw [e, show Int32.ofInt (-1) = -1 from rfl, Int32.add_assoc, show (1 : Int32) + -1 = 0 from by decide, Int32.add_zero]) he hd k
/-! the reference's changes -/
def sPays (v : Nat → Int32) (h : Nat) (c : Int32) : Nat → Int32 := upd (upd v (17 + h) (v (17 + h) - c)) 7 (upd v (17 + h) (v (17 + h) - c) 7 + c)
def sBec (v : Nat → Int32) (r : Nat) (s : Int32) : Nat → Int32 := upd (upd v (147 + 7 * r + 3) s) (147 + 7 * r + 4) (-5)
def sShf (v : Nat → Int32) (i : Nat) : Nat → Int32 := fun j => if 606 - i < j ∧ j < 607 then v (j - 4) else v j
def sLog0 (v : Nat → Int32) (k r c : Int32) : Nat → Int32 := upd (upd (upd (upd (sShf v 36) 567 k) 568 r) 569 c) 570 (upd (upd (upd (sShf v 36) 567 k) 568 r) 569 c 0)
def sLog (v : Nat → Int32) (k r c : Int32) : Nat → Int32 := upd (sLog0 v k r c) 8 (sLog0 v k r c 8 + if sLog0 v k r c 8 < nI 10 then nI 1 else nI 0)
def sNew (v : Nat → Int32) (r d h : Nat) (c : Int32) : Nat → Int32 :=
  upd (upd (upd (upd (upd (upd (upd v (147 + 7 * r + 0) (nI d)) (147 + 7 * r + 1) (nI h)) (147 + 7 * r + 2) c) (147 + 7 * r + 3) (nI 0)) (147 + 7 * r + 4) (-5)) (147 + 7 * r + 5) (upd (upd (upd (upd (upd v (147 + 7 * r + 0) (nI d)) (147 + 7 * r + 1) (nI h)) (147 + 7 * r + 2) c) (147 + 7 * r + 3) (nI 0)) (147 + 7 * r + 4) (-5) 0)) (147 + 7 * r + 6) (nI 0)
def sNew2 (v : Nat → Int32) (r d h : Nat) (c : Int32) : Nat → Int32 := upd (sNew v r d h c) 2 (sNew v r d h c 2 + nI 1)
def sSells (v : Nat → Int32) (h d : Nat) : Nat → Int32 := sLog (sPays (sNew2 v (nR v) d h (sPrice v d (sLeft v d))) h (sPrice v d (sLeft v d))) (nI 0) (nI (nR v)) (sPrice v d (sLeft v d))
def sDr (v : Nat → Int32) (d p i : Nat) : Nat → Int32 := fun j => if 27 + 12 * d + 6 + p ≤ j ∧ j < 27 + 12 * d + 6 + p + i then v (j + 1) else v j
def sDrop (v : Nat → Int32) (d p n : Nat) : Nat → Int32 := upd (sDr v d p (n - 1 - p)) (27 + 12 * d + 5) (sDr v d p (n - 1 - p) (27 + 12 * d + 5) - nI 1)
def sLB (d : Nat) : Nat → (Nat → Int32) → (Nat → Int32)
  | 0, v => v
  | n + 1, v => if 0 < sCan v d then sLB d n (sSells (sDrop v d 0 (n + 1)) (v (27 + 12 * d + 6)).toNatClampNeg d) else v
/-! what holds of the indices -/
def zKd (v : Nat → Int32) (d : Nat) : Prop := ∃ n, n ≤ 6 ∧ v (27 + 12 * d + 5) = nI n ∧ ∀ k, k < n → ∃ h, h < 10 ∧ v (27 + 12 * d + (6 + k)) = nI h
def zKr (v : Nat → Int32) (r : Nat) : Prop := (∃ d, d < nD v ∧ v (147 + 7 * r + 0) = nI d) ∧ ∃ h, h < 10 ∧ v (147 + 7 * r + 1) = nI h
def zK (v : Nat → Int32) : Prop := zJ1 v ∧ zJ2 v ∧ (∀ d, d < 10 → zKd v d) ∧ (∀ d, d < nD v → ¬ v (27 + 12 * d + 1) = 0) ∧ ∀ r, r < nR v → zKr v r
theorem nR_of {v w : Nat → Int32} (h : w 2 = v 2) : nR w = nR v := by unfold nR; rw [h]
theorem nD_of {v w : Nat → Int32} (h : w 1 = v 1) : nD w = nD v := by unfold nD; rw [h]
theorem zJ1.of {v w : Nat → Int32} (h : zJ1 v) (e : w 1 = v 1) : zJ1 w := by unfold zJ1 at *; rw [nD_of e, e]; exact h
theorem zJ2.of {v w : Nat → Int32} (h : zJ2 v) (e : w 2 = v 2) : zJ2 w := by unfold zJ2 at *; rw [nR_of e, e]; exact h
theorem zKd.of {v w : Nat → Int32} {d : Nat} (h : zKd v d) (e : ∀ k, 5 ≤ k → k < 12 → w (27 + 12 * d + k) = v (27 + 12 * d + k)) : zKd w d := by
  obtain ⟨n, h1, h2, h3⟩ := h
  exact ⟨n, h1, by rw [e 5 (by omega) (by omega)]; exact h2, fun k hk => by rw [e (6 + k) (by omega) (by omega)]; exact h3 k hk⟩
theorem zKr.of {v w : Nat → Int32} {r : Nat} (h : zKr v r) (e1 : w 1 = v 1) (e : ∀ k, k < 2 → w (147 + 7 * r + k) = v (147 + 7 * r + k)) : zKr w r := by
  unfold zKr
  rw [e 0 (by omega), e 1 (by omega), nD_of e1]; exact h
theorem zK.of {v w : Nat → Int32} (h : zK v) (e1 : w 1 = v 1) (e2 : w 2 = v 2) (ed : ∀ d k, d < 10 → k = 1 ∨ 5 ≤ k → k < 12 → w (27 + 12 * d + k) = v (27 + 12 * d + k)) (er : ∀ r k, r < 60 → k < 2 → w (147 + 7 * r + k) = v (147 + 7 * r + k)) : zK w :=
  ⟨h.1.of e1, h.2.1.of e2, fun d hd => (h.2.2.1 d hd).of (fun k h1 h2 => ed d k hd (Or.inr h1) h2), fun d hd => by
    rw [nD_of e1] at hd
    rw [ed d 1 (by have := h.1.2; omega) (Or.inl rfl) (by omega)]; exact h.2.2.2.1 d hd, fun r hr => by
    rw [nR_of e2] at hr
    exact (h.2.2.2.2 r hr).of e1 (fun k hk => er r k (by have := h.2.1.2; omega) hk)⟩
theorem upd_ne {v : Nat → Int32} {i j : Nat} {x : Int32} (h : j ≠ i) : upd v i x j = v j := by simp [upd, h]
theorem upd_eq {v : Nat → Int32} {i : Nat} {x : Int32} : upd v i x i = x := by simp [upd]
theorem sPays_at {v : Nat → Int32} {h : Nat} {c : Int32} {j : Nat} (h7 : j ≠ 7) (hj : j ≠ 17 + h) : sPays v h c j = v j := by unfold sPays; rw [upd_ne h7, upd_ne hj]
theorem sBec_at {v : Nat → Int32} {r : Nat} {s : Int32} {j : Nat} (h3 : j ≠ 147 + 7 * r + 3) (h4 : j ≠ 147 + 7 * r + 4) : sBec v r s j = v j := by unfold sBec; rw [upd_ne h4, upd_ne h3]
theorem sLog_at {v : Nat → Int32} {k r c : Int32} {j : Nat} (h8 : j ≠ 8) (hj : j < 567) : sLog v k r c j = v j := by
  unfold sLog sLog0
  rw [upd_ne h8, upd_ne (by omega), upd_ne (by omega), upd_ne (by omega), upd_ne (by omega), sShf, if_neg (by omega)]
theorem sNew2_at {v : Nat → Int32} {r d h : Nat} {c : Int32} {j : Nat} (h2 : j ≠ 2) (hj : j < 147 + 7 * r ∨ 147 + 7 * r + 7 ≤ j) : sNew2 v r d h c j = v j := by
  unfold sNew2 sNew
  rw [upd_ne h2, upd_ne (by omega), upd_ne (by omega), upd_ne (by omega), upd_ne (by omega), upd_ne (by omega), upd_ne (by omega), upd_ne (by omega)]
theorem zK.pays {v : Nat → Int32} {h : Nat} {c : Int32} (hK : zK v) (hh : h < 10) : zK (sPays v h c) :=
  hK.of (sPays_at (by omega) (by omega)) (sPays_at (by omega) (by omega)) (fun d k hd hk h12 => sPays_at (by omega) (by omega)) (fun r k hr hk => sPays_at (by omega) (by omega))
theorem zK.bec {v : Nat → Int32} {r : Nat} {s : Int32} (hK : zK v) : zK (sBec v r s) :=
  hK.of (sBec_at (by omega) (by omega)) (sBec_at (by omega) (by omega)) (fun d k hd hk h12 => sBec_at (by omega) (by omega)) (fun r k hr hk => sBec_at (by omega) (by omega))
theorem zK.log {v : Nat → Int32} {k r c : Int32} (hK : zK v) : zK (sLog v k r c) :=
  hK.of (sLog_at (by omega) (by omega)) (sLog_at (by omega) (by omega)) (fun d k hd hk h12 => sLog_at (by omega) (by omega)) (fun r k hr hk => sLog_at (by omega) (by omega))
theorem sNew2_2 {v : Nat → Int32} {r d h : Nat} {c : Int32} : sNew2 v r d h c 2 = v 2 + nI 1 := by
  unfold sNew2
  rw [upd_eq]
  unfold sNew
  rw [upd_ne (by omega), upd_ne (by omega), upd_ne (by omega), upd_ne (by omega), upd_ne (by omega), upd_ne (by omega), upd_ne (by omega)]
theorem sNew2_r0 {v : Nat → Int32} {r d h : Nat} {c : Int32} : sNew2 v r d h c (147 + 7 * r + 0) = nI d := by
  unfold sNew2 sNew
  rw [upd_ne (by omega), upd_ne (by omega), upd_ne (by omega), upd_ne (by omega), upd_ne (by omega), upd_ne (by omega), upd_ne (by omega), upd_eq]
theorem sNew2_r1 {v : Nat → Int32} {r d h : Nat} {c : Int32} : sNew2 v r d h c (147 + 7 * r + 1) = nI h := by
  unfold sNew2 sNew
  rw [upd_ne (by omega), upd_ne (by omega), upd_ne (by omega), upd_ne (by omega), upd_ne (by omega), upd_ne (by omega), upd_eq]
theorem zK.new {v : Nat → Int32} {d h : Nat} {c : Int32} (hK : zK v) (hR : nR v < 60) (hd : d < nD v) (hh : h < 10) : zK (sNew2 v (nR v) d h c) ∧ nR (sNew2 v (nR v) d h c) = nR v + 1 := by
  have e1 : sNew2 v (nR v) d h c 1 = v 1 := sNew2_at (by omega) (by omega)
  have e2 : sNew2 v (nR v) d h c 2 = nI (nR v + 1) := by rw [sNew2_2, hK.2.1.1, nI_add]
  have hR1 : nR (sNew2 v (nR v) d h c) = nR v + 1 := by unfold nR at e2 ⊢; rw [e2]; exact nI_clamp (by have := hK.2.1.2; unfold nR at this; omega)
  refine ⟨⟨hK.1.of e1, ⟨by rw [hR1, e2], by omega⟩, fun d hd => (hK.2.2.1 d hd).of (fun k h1 h2 => sNew2_at (by omega) (by omega)), fun d hd => ?_, fun r hr => ?_⟩, hR1⟩
  · rw [nD_of e1] at hd
    rw [sNew2_at (by omega) (by have := hK.1.2; omega)]; exact hK.2.2.2.1 d hd
  · rw [hR1] at hr
    by_cases e : r = nR v
    · subst e
      exact ⟨⟨d, by rw [nD_of e1]; exact hd, sNew2_r0⟩, h, hh, sNew2_r1⟩
    · exact (hK.2.2.2.2 r (by omega)).of e1 (fun k hk => sNew2_at (by omega) (by omega))
theorem zK.sells {v : Nat → Int32} {d h : Nat} (hK : zK v) (hR : nR v < 60) (hd : d < nD v) (hh : h < 10) : zK (sSells v h d) := ((hK.new hR hd hh).1.pays hh).log
theorem sSells_at {v : Nat → Int32} {d h j : Nat} (h2 : j ≠ 2) (h7 : j ≠ 7) (h8 : j ≠ 8) (hh : j ≠ 17 + h) (hj : j < 147 ∨ (147 + 7 * nR v + 7 ≤ j ∧ j < 567)) : sSells v h d j = v j := by
  unfold sSells
  rw [sLog_at h8 (by omega), sPays_at h7 hh, sNew2_at h2 (by omega)]
theorem sDrop_at {v : Nat → Int32} {d p n j : Nat} (h5 : j ≠ 27 + 12 * d + 5) (hj : j < 27 + 12 * d + 6 + p ∨ 27 + 12 * d + 6 + n - 1 ≤ j) (hp : p < n) : sDrop v d p n j = v j := by
  unfold sDrop
  rw [upd_ne h5, sDr, if_neg (by omega)]
theorem sDrop_in {v : Nat → Int32} {d p n j : Nat} (h1 : 27 + 12 * d + 6 + p ≤ j) (h2 : j < 27 + 12 * d + 6 + n - 1) (hp : p < n) : sDrop v d p n j = v (j + 1) := by
  unfold sDrop
  rw [upd_ne (by omega), sDr, if_pos (by omega)]
theorem sDrop_5 {v : Nat → Int32} {d p n : Nat} (hp : p < n) (h : v (27 + 12 * d + 5) = nI n) : sDrop v d p n (27 + 12 * d + 5) = nI (n - 1) := by
  unfold sDrop
  rw [upd_eq, sDr, if_neg (by omega), h]
  have e : nI n = nI (n - 1 + 1) := by congr 1; omega
  rw [e]; exact nI_pred _
theorem zK.drop {v : Nat → Int32} {d p n : Nat} (hK : zK v) (hd : d < 10) (hn : n ≤ 6) (hp : p < n) (h5 : v (27 + 12 * d + 5) = nI n) : zK (sDrop v d p n) := by
  have e1 : sDrop v d p n 1 = v 1 := sDrop_at (by omega) (by omega) hp
  have e2 : sDrop v d p n 2 = v 2 := sDrop_at (by omega) (by omega) hp
  refine ⟨hK.1.of e1, hK.2.1.of e2, fun d' hd' => ?_, fun d' hd' => ?_, fun r hr => ?_⟩
  · by_cases e : d' = d
    · subst e
      obtain ⟨n', q1, q2, q3⟩ := hK.2.2.1 d' hd
      have en : n' = n := (nI_eq (by omega) (by omega)).mp (q2.symm.trans h5)
      subst en
      refine ⟨n' - 1, by omega, sDrop_5 hp h5, fun k hk => ?_⟩
      by_cases hkp : k < p
      · rw [sDrop_at (by omega) (by omega) hp]; exact q3 k (by omega)
      · rw [sDrop_in (by omega) (by omega) hp]
        exact q3 (k + 1) (by omega)
    · refine (hK.2.2.1 d' hd').of (fun k h1 h2 => sDrop_at (by omega) (by omega) hp)
  · rw [nD_of e1] at hd'
    rw [sDrop_at (by have := hK.1.2; omega) (by have := hK.1.2; omega) hp]; exact hK.2.2.2.1 d' hd'
  · rw [nR_of e2] at hr
    exact (hK.2.2.2.2 r hr).of e1 (fun k hk => sDrop_at (by omega) (by omega) hp)
theorem sCan_pos {v : Nat → Int32} {d : Nat} (hJ : zJ2 v) (h : 0 < sCan v d) : nR v < 60 ∧ sOpen v d = true := by
  unfold sCan at h
  split at h
  · rename_i q
    refine ⟨?_, q.2⟩
    rcases Nat.lt_or_ge (nR v) 60 with z | z
    · exact z
    · have e : nR v = 60 := by have := hJ.2; omega
      have e2 : nI 60 - v 2 = 0 := by rw [hJ.1, e]; decide
      have h0 := q.1
      unfold sSell0 at h0
      rw [e2] at h0
      split at h0
      · rename_i h1
        exact absurd (Int32.lt_trans h0 h1) (by decide)
      · exact absurd h0 (by decide)
  · exact absurd h (by decide)
theorem sDr_step (v : Nat → Int32) {d p i : Nat} : upd (sDr v d p i) (27 + 12 * d + (6 + (p + i))) (sDr v d p i (27 + 12 * d + (6 + (p + i) + 1))) = sDr v d p (i + 1) := by
  funext j
  simp only [upd, sDr]
  by_cases e : j = 27 + 12 * d + (6 + (p + i))
  · rw [if_pos e, if_neg (by omega), if_pos (by omega), e]; congr 1
  · rw [if_neg e]
    by_cases h : 27 + 12 * d + 6 + p ≤ j ∧ j < 27 + 12 * d + 6 + p + i
    · rw [if_pos h, if_pos (by omega)]
    · rw [if_neg h, if_neg (by omega)]
theorem sDr_0 (v : Nat → Int32) (d p : Nat) : sDr v d p 0 = v := by
  funext j
  simp only [sDr]
  rw [if_neg (by omega)]
def zn (x : Int32) : Nat := x.toNatClampNeg
theorem zn_nI {n : Nat} (h : n < 2 ^ 31) : zn (nI n) = n := nI_clamp h
theorem sCan_ne {v : Nat → Int32} {d : Nat} (h : ¬ sCan v d = 0) : 0 < sCan v d := by
  unfold sCan at h ⊢
  split
  · rename_i q; exact q.1
  · rename_i q; rw [if_neg q] at h; exact absurd rfl h
theorem zRt {v : Nat → Int32} (hK : zK v) {x : Int32} (h : zIn x (nI 0) (v 2 - nI 1) = true) : ∃ r d g, r < nR v ∧ x = nI r ∧ d < nD v ∧ v (147 + 7 * r + 0) = nI d ∧ g < 10 ∧ v (147 + 7 * r + 1) = nI g := by
  rw [hK.2.1.1] at h
  obtain ⟨r, hr, rfl⟩ := zIn_nIp (by have := hK.2.1.2; omega) h
  obtain ⟨⟨d, hd, e1⟩, g, hg, e2⟩ := hK.2.2.2.2 r hr
  exact ⟨r, d, g, hr, rfl, hd, e1, hg, e2⟩
theorem zDt {v : Nat → Int32} (hK : zK v) {x : Int32} (h : zIn x (nI 0) (v 1 - nI 1) = true) : ∃ d, d < nD v ∧ x = nI d := by
  rw [hK.1.1] at h
  exact zIn_nIp (by have := hK.1.2; omega) h
def sDoBuy (v : Nat → Int32) (x y : Int32) : Int32 × (Nat → Int32) :=
  if zIn x (nI 0) (nI 9) = true ∧ zIn y (nI 0) (v 1 - nI 1) = true then
    if sOpen v (zn y) = true then (if sCan v (zn y) = 0 then (-3, v) else (nI (nR v), sSells v (zn x) (zn y))) else (-4, v)
  else (-1, v)
def sOff2 (v : Nat → Int32) (r h g : Nat) : Nat → Int32 :=
  upd (sPays (sPays v h (v (147 + 7 * r + 4))) g (v (147 + 7 * r + 4) * v 4 / nI 100 - v (147 + 7 * r + 4))) (147 + 7 * r + 1) (nI h)
def sOff (v : Nat → Int32) (r h g : Nat) : Nat → Int32 :=
  sLog (sBec (upd (sOff2 v r h g) (147 + 7 * r + 6) (sOff2 v r h g (147 + 7 * r + 6) + nI 1)) r (nI 0)) (nI 1) (nI r) (v (147 + 7 * r + 4))
def sDoOff (v : Nat → Int32) (x y : Int32) : Int32 × (Nat → Int32) :=
  if zIn x (nI 0) (nI 9) = true ∧ zIn y (nI 0) (v 1 - nI 1) = true then
    match sLow v (zn y) (nI 1) 4 (nR v) with
    | none => (-4, v)
    | some r => if v (147 + 7 * r + 1) = x then (-4, v) else (nI r, sOff v r (zn x) (zn (v (147 + 7 * r + 1))))
  else (-1, v)
def sCan1 (v : Nat → Int32) (r d g : Nat) : Nat → Int32 := sLog (sBec (sPays v g (-sRef v r d)) r (nI 3)) (nI 4) (nI r) (sRef v r d)
def sDoCan (v : Nat → Int32) (x : Int32) : Int32 × (Nat → Int32) :=
  if zIn x (nI 0) (v 2 - nI 1) = true then
    if v (147 + 7 * zn x + 3) < nI 2 then
      (sRef v (zn x) (zn (v (147 + 7 * zn x + 0))), sLB (zn (v (147 + 7 * zn x + 0))) (zn (v (27 + 12 * zn (v (147 + 7 * zn x + 0)) + 5))) (sCan1 v (zn x) (zn (v (147 + 7 * zn x + 0))) (zn (v (147 + 7 * zn x + 1)))))
    else (-4, v)
  else (-1, v)
def sDoOfr (v : Nat → Int32) (x p : Int32) : Int32 × (Nat → Int32) :=
  if zIn x (nI 0) (v 2 - nI 1) = true then
    if v (147 + 7 * zn x + 3) < nI 2 then
      if zIn p (nI 1) (nI 2 * v (27 + 12 * zn (v (147 + 7 * zn x + 0)) + 3)) = true then
        if v (147 + 7 * zn x + 4) = p then (-5, v)
        else (if 0 ≤ v (147 + 7 * zn x + 4) then v (147 + 7 * zn x + 4) else nI 0, sLog (upd (upd v (147 + 7 * zn x + 3) (nI 1)) (147 + 7 * zn x + 4) p) (nI 2) x p)
      else (-2, v)
    else (-4, v)
  else (-1, v)
def sEx1 (v : Nat → Int32) (r g : Nat) : Nat → Int32 := sLog (sBec (sPays v g (v 6)) r (nI 2)) (nI 3) (nI r) (sBec (sPays v g (v 6)) r (nI 2) 6)
def sDoEx (v : Nat → Int32) (x : Int32) : Int32 × (Nat → Int32) :=
  if zIn x (nI 0) (v 2 - nI 1) = true then
    if sEx v (zn x) (zn (v (147 + 7 * zn x + 0))) = true then
      (nI (sOf (sEx1 v (zn x) (zn (v (147 + 7 * zn x + 1)))) (zn (v (147 + 7 * zn x + 0))) (nI 2) (nI 2)), sEx1 v (zn x) (zn (v (147 + 7 * zn x + 1))))
    else (-4, v)
  else (-1, v)
/-- the rights that can be cancelled are of open dates -/
def zOpn (v : Nat → Int32) : Prop := ∀ r, r < nR v → v (147 + 7 * r + 3) < nI 2 → v 15 ≤ sLeft v (zn (v (147 + 7 * r + 0)))
theorem sLow_spec {v : Nat → Int32} {d : Nat} {s : Int32} {w : Nat} : ∀ {n b : Nat}, sLow v d s w n = some b → b < n ∧ v (147 + 7 * b + 0) = nI d ∧ v (147 + 7 * b + 3) = s
  | 0, _, h => by simp [sLow] at h
  | n + 1, b, h => by
    unfold sLow at h
    split at h
    · rename_i q
      split at h
      · cases h; exact ⟨by omega, q.1, q.2⟩
      · rename_i b' hb
        split at h
        · cases h; exact ⟨by omega, q.1, q.2⟩
        · cases h; have := sLow_spec hb; exact ⟨by omega, this.2⟩
    · have := sLow_spec h; exact ⟨by omega, this.2⟩
theorem sLow_none {v : Nat → Int32} {d : Nat} {s : Int32} {w : Nat} : ∀ {n : Nat}, sLow v d s w n = none → ∀ r, r < n → ¬ (v (147 + 7 * r + 0) = nI d ∧ v (147 + 7 * r + 3) = s)
  | 0, _, _, h => by omega
  | n + 1, h, r, hr => by
    unfold sLow at h
    split at h
    · split at h
      · cases h
      · split at h <;> cases h
    · rename_i q
      by_cases e : r = n
      · subst e; exact q
      · exact sLow_none h r (by omega)
theorem sCnt_ex {v : Nat → Int32} {d : Nat} {lo hi : Int32} : ∀ {n : Nat}, 0 < sCnt v d lo hi n → ∃ r, r < n ∧ v (147 + 7 * r + 0) = nI d ∧ zIn (v (147 + 7 * r + 3)) lo hi = true
  | 0, h => by simp [sCnt] at h
  | n + 1, h => by
    unfold sCnt at h
    by_cases q : v (147 + 7 * n + 0) = nI d ∧ zIn (v (147 + 7 * n + 3)) lo hi = true
    · exact ⟨n, by omega, q⟩
    · rw [if_neg q] at h
      obtain ⟨r, h1, h2⟩ := sCnt_ex (n := n) (by omega)
      exact ⟨r, by omega, h2⟩
theorem sCnt_of {v w : Nat → Int32} {d : Nat} {lo hi : Int32} : ∀ {n : Nat}, (∀ r, r < n → w (147 + 7 * r + 0) = v (147 + 7 * r + 0) ∧ w (147 + 7 * r + 3) = v (147 + 7 * r + 3)) → sCnt w d lo hi n = sCnt v d lo hi n
  | 0, _ => rfl
  | n + 1, h => by
    unfold sCnt
    rw [sCnt_of (fun r hr => h r (by omega)), (h n (by omega)).1, (h n (by omega)).2]
theorem sCnt_dec {v w : Nat → Int32} {d r : Nat} {lo hi : Int32} (h0 : v (147 + 7 * r + 0) = nI d) (h3 : zIn (v (147 + 7 * r + 3)) lo hi = true) (w3 : zIn (w (147 + 7 * r + 3)) lo hi = false) : ∀ {n : Nat}, r < n → (∀ j, j < n → j ≠ r → w (147 + 7 * j + 0) = v (147 + 7 * j + 0) ∧ w (147 + 7 * j + 3) = v (147 + 7 * j + 3)) → sCnt v d lo hi n = sCnt w d lo hi n + 1
  | 0, hr, _ => by omega
  | n + 1, hr, h => by
    unfold sCnt
    by_cases e : r = n
    · subst e
      rw [if_pos ⟨h0, h3⟩, if_neg (fun q => by rw [w3] at q; exact absurd q.2 (by decide)), sCnt_of (fun j hj => h j (by omega) (by omega))]
    · rw [sCnt_dec h0 h3 w3 (n := n) (by omega) (fun j hj hne => h j (by omega) hne), (h n (by omega) (by omega)).1, (h n (by omega) (by omega)).2]
      omega
theorem zIn01 {x : Int32} (h : zIn x (nI 0) (nI 1) = true) : x = nI 0 ∨ x = nI 1 := by
  obtain ⟨j, hj, rfl⟩ := zIn_nI (by decide) h
  rcases (by omega : j = 0 ∨ j = 1) with rfl | rfl
  · exact Or.inl rfl
  · exact Or.inr rfl
theorem sLow_ex {v : Nat → Int32} {d n : Nat} (hc : 0 < sCnt v d (nI 0) (nI 1) n) (h1 : sLow v d (nI 1) 4 n = none) : ∃ r, sLow v d (nI 0) 2 n = some r := by
  obtain ⟨r, hr, h0, h3⟩ := sCnt_ex hc
  rcases zIn01 h3 with e | e
  · cases ho : sLow v d (nI 0) 2 n with
    | some b => exact ⟨b, rfl⟩
    | none => exact absurd ⟨h0, e⟩ (sLow_none ho r hr)
  · exact absurd ⟨h0, e⟩ (sLow_none h1 r hr)
def sLap (v : Nat → Int32) (d : Nat) : Nat → Nat × (Nat → Int32)
  | 0 => (0, v)
  | i + 1 => match sLap v d i with
    | (n, u) => if u (147 + 7 * i + 0) = nI d ∧ u (147 + 7 * i + 3) < nI 2 then (n + 1, sLog (sBec u i (nI 5)) (nI 6) (nI i) (sBec u i (nI 5) (147 + 7 * i + 2))) else (n, u)
def sLapses (v : Nat → Int32) (d : Nat) : Nat × (Nat → Int32) := match sLap v d (nR v) with
  | (n, u) => (n, upd u (27 + 12 * d + 5) (nI 0))
def sCvR (v : Nat → Int32) (d : Nat) : Nat := match sLow v d (nI 1) 4 (nR v) with
  | some r => r
  | none => match sLow v d (nI 0) 2 (nR v) with
    | some r => r
    | none => 0
def sCvC (v : Nat → Int32) (d : Nat) : Int32 := match sLow v d (nI 1) 4 (nR v) with
  | some r => v (147 + 7 * r + 4)
  | none => v (147 + 7 * sCvR v d + 2) * nI 3 / nI 2
def sCv2 (v : Nat → Int32) (r g : Nat) (c : Int32) : Nat → Int32 := sLog (sBec (sPays v g (-c)) r (nI 4)) (nI 5) (nI r) c
def sCv1 (v : Nat → Int32) (d : Nat) : Nat → Int32 := sCv2 v (sCvR v d) (zn (v (147 + 7 * sCvR v d + 1))) (sCvC v d)
def sCov (d : Nat) : Nat → Int32 → (Nat → Int32) → Int32 × (Nat → Int32)
  | 0, s, v => (s, v)
  | n + 1, s, v => if v (27 + 12 * d + 1) < nI (sOut v d) ∧ 0 < nI (sOf v d (nI 0) (nI 1)) then sCov d n (s + sCvC v d) (sCv1 v d) else (s, v)
theorem sCv2_at {v : Nat → Int32} {r g : Nat} {c : Int32} {j : Nat} (hg : g < 10) (h7 : j ≠ 7) (h8 : j ≠ 8) (h1 : j < 17 ∨ 27 ≤ j) (h2 : j < 567) (h3 : j ≠ 147 + 7 * r + 3) (h4 : j ≠ 147 + 7 * r + 4) : sCv2 v r g c j = v j := by
  unfold sCv2
  rw [sLog_at h8 h2, sBec_at h3 h4, sPays_at h7 (by omega)]
theorem sCv2_3 {v : Nat → Int32} {r g : Nat} {c : Int32} (hr : r < 60) : sCv2 v r g c (147 + 7 * r + 3) = nI 4 := by
  unfold sCv2
  rw [sLog_at (by omega) (by omega)]
  unfold sBec
  rw [upd_ne (by omega), upd_eq]
theorem sCv2_cnt {v : Nat → Int32} {d r g : Nat} {c : Int32} (hJ : zJ2 v) (hr : r < nR v) (hg : g < 10) (h0 : v (147 + 7 * r + 0) = nI d) (h3 : zIn (v (147 + 7 * r + 3)) (nI 0) (nI 1) = true) : sOf v d (nI 0) (nI 1) = sOf (sCv2 v r g c) d (nI 0) (nI 1) + 1 := by
  have h60 := hJ.2
  unfold sOf
  rw [nR_of (w := sCv2 v r g c) (v := v) (sCv2_at hg (by omega) (by omega) (by omega) (by omega) (by omega) (by omega))]
  exact sCnt_dec h0 h3 (by rw [sCv2_3 (by omega)]; decide) hr (fun j hj hne => ⟨sCv2_at hg (by omega) (by omega) (by omega) (by omega) (by omega) (by omega), sCv2_at hg (by omega) (by omega) (by omega) (by omega) (by omega) (by omega)⟩)
theorem zK.cv2 {v : Nat → Int32} {r g : Nat} {c : Int32} (hK : zK v) (hg : g < 10) : zK (sCv2 v r g c) := ((hK.pays hg).bec).log
theorem sLap_nn {v : Nat → Int32} {d : Nat} (hK : zK v) : ∀ (i n : Nat) (u : Nat → Int32), sLap v d i = (n, u) → zK u ∧ u 2 = v 2 ∧ u 1 = v 1
  | 0, n, u, h => by cases h; exact ⟨hK, rfl, rfl⟩
  | i + 1, n, u, h => by
    unfold sLap at h
    cases hq : sLap v d i with
    | mk n1 u1 =>
      rw [hq] at h
      obtain ⟨a, b, c⟩ := sLap_nn hK i n1 u1 hq
      by_cases q : u1 (147 + 7 * i + 0) = nI d ∧ u1 (147 + 7 * i + 3) < nI 2
      · simp only [if_pos q] at h
        cases h
        exact ⟨(a.bec).log, by rw [sLog_at (by omega) (by omega), sBec_at (by omega) (by omega)]; exact b, by rw [sLog_at (by omega) (by omega), sBec_at (by omega) (by omega)]; exact c⟩
      · simp only [if_neg q] at h
        cases h
        exact ⟨a, b, c⟩
theorem zK.w0 {v : Nat → Int32} {d : Nat} (hK : zK v) (hd : d < 10) : zK (upd v (27 + 12 * d + 5) (nI 0)) := by
  refine ⟨hK.1.of (upd_ne (by omega)), hK.2.1.of (upd_ne (by omega)), fun d' hd' => ?_, fun d' hd' => ?_, fun r hr => ?_⟩
  · by_cases e : d' = d
    · subst e; exact ⟨0, by omega, upd_eq, fun k hk => by omega⟩
    · exact (hK.2.2.1 d' hd').of (fun k h1 h2 => upd_ne (by omega))
  · rw [nD_of (upd_ne (by omega))] at hd'
    rw [upd_ne (by have := hK.1.2; omega)]; exact hK.2.2.2.1 d' hd'
  · rw [nR_of (upd_ne (by omega))] at hr
    exact (hK.2.2.2.2 r hr).of (upd_ne (by omega)) (fun k hk => upd_ne (by omega))
theorem sLapses_nn {v : Nat → Int32} {d : Nat} (hK : zK v) (hd : d < 10) : zK (sLapses v d).2 ∧ (sLapses v d).2 2 = v 2 ∧ (sLapses v d).2 1 = v 1 := by
  unfold sLapses
  cases hq : sLap v d (nR v) with
  | mk n u =>
    obtain ⟨a, b, c⟩ := sLap_nn hK _ n u hq
    exact ⟨a.w0 hd, (show upd u (27 + 12 * d + 5) (nI 0) 2 = v 2 by rw [upd_ne (by omega)]; exact b), (show upd u (27 + 12 * d + 5) (nI 0) 1 = v 1 by rw [upd_ne (by omega)]; exact c)⟩
theorem sLB_nn {d : Nat} : ∀ (n : Nat) (v : Nat → Int32), zK v → d < nD v → v (27 + 12 * d + 5) = nI n → n ≤ 6 → zK (sLB d n v) ∧ (sLB d n v) 1 = v 1
  | 0, v, hK, _, _, _ => ⟨hK, rfl⟩
  | n + 1, v, hK, hd, h5, hn => by
    have hd10 := hK.1.2
    unfold sLB
    by_cases hc : 0 < sCan v d
    · rw [if_pos hc]
      obtain ⟨hR, -⟩ := sCan_pos hK.2.1 hc
      obtain ⟨n9, q1, q2, q3⟩ := hK.2.2.1 d (by omega)
      have en : n9 = n + 1 := (nI_eq (by omega) (by omega)).mp (q2.symm.trans h5)
      subst en
      obtain ⟨h, hh, e6⟩ := q3 0 (by omega)
      have e6 : v (27 + 12 * d + 6) = nI h := e6
      rw [e6, nI_clamp (by omega)]
      have hK1 := hK.drop (p := 0) (by omega) (by omega) (by omega) h5
      have eR : nR (sDrop v d 0 (n + 1)) = nR v := nR_of (sDrop_at (by omega) (by omega) (by omega))
      have e1 : sDrop v d 0 (n + 1) 1 = v 1 := sDrop_at (by omega) (by omega) (by omega)
      have eD : nD (sDrop v d 0 (n + 1)) = nD v := nD_of e1
      have hK2 := hK1.sells (d := d) (h := h) (by omega) (by omega) hh
      have h5b : sSells (sDrop v d 0 (n + 1)) h d (27 + 12 * d + 5) = nI n := by rw [sSells_at (by omega) (by omega) (by omega) (by omega) (by omega)]; exact sDrop_5 (by omega) h5
      have e1b : sSells (sDrop v d 0 (n + 1)) h d 1 = v 1 := by rw [sSells_at (by omega) (by omega) (by omega) (by omega) (by omega)]; exact e1
      obtain ⟨z1, z2⟩ := sLB_nn n _ hK2 (by rw [nD_of e1b]; exact hd) h5b (by omega)
      exact ⟨z1, z2.trans e1b⟩
    · rw [if_neg hc]; exact ⟨hK, rfl⟩
theorem sCv_r {v : Nat → Int32} {d : Nat} (hK : zK v) (hc : 0 < sOf v d (nI 0) (nI 1)) : sCvR v d < nR v ∧ v (147 + 7 * sCvR v d + 0) = nI d ∧ zIn (v (147 + 7 * sCvR v d + 3)) (nI 0) (nI 1) = true := by
  unfold sCvR
  cases h1 : sLow v d (nI 1) 4 (nR v) with
  | some r =>
    obtain ⟨a, b, c⟩ := sLow_spec h1
    exact ⟨a, b, by show zIn (v (147 + 7 * r + 3)) _ _ = true; rw [c]; decide⟩
  | none =>
    obtain ⟨r, h2⟩ := sLow_ex hc h1
    obtain ⟨a, b, c⟩ := sLow_spec h2
    simp only [h2]
    exact ⟨a, b, by rw [c]; decide⟩
theorem sCov_nn {d : Nat} : ∀ (n : Nat) (s : Int32) (v : Nat → Int32), zK v → zK (sCov d n s v).2 ∧ (sCov d n s v).2 1 = v 1 ∧ (sCov d n s v).2 2 = v 2
  | 0, s, v, hK => ⟨hK, rfl, rfl⟩
  | n + 1, s, v, hK => by
    unfold sCov
    by_cases q : v (27 + 12 * d + 1) < nI (sOut v d) ∧ 0 < nI (sOf v d (nI 0) (nI 1))
    · rw [if_pos q]
      have hc : 0 < sOf v d (nI 0) (nI 1) := by
        rcases Nat.eq_zero_or_pos (sOf v d (nI 0) (nI 1)) with z | z
        · rw [z] at q; exact absurd q.2 (by decide)
        · exact z
      obtain ⟨hr, -, -⟩ := sCv_r hK hc
      obtain ⟨-, g, hg, e1⟩ := hK.2.2.2.2 _ hr
      have h60 := hK.2.1.2
      unfold sCv1
      rw [e1, zn_nI (by omega)]
      obtain ⟨z1, z2, z3⟩ := sCov_nn n (s + sCvC v d) _ (hK.cv2 (r := sCvR v d) (c := sCvC v d) hg)
      exact ⟨z1, z2.trans (sCv2_at hg (by omega) (by omega) (by omega) (by omega) (by omega) (by omega)), z3.trans (sCv2_at hg (by omega) (by omega) (by omega) (by omega) (by omega) (by omega))⟩
    · rw [if_neg q]; exact ⟨hK, rfl, rfl⟩
/-! a day -/
def sD1 (v : Nat → Int32) : Nat → Nat × (Nat → Int32)
  | 0 => (0, v)
  | i + 1 => match sD1 v i with
    | (n, u) => if sLeft u i = 0 then (n + (sLapses u i).1, (sLapses u i).2) else (n, u)
def sD2 (v : Nat → Int32) : Nat → (Nat → Int32)
  | 0 => v
  | i + 1 => if sLeft (sD2 v i) i = sD2 v i 3 then (sCov i (sOf (sD2 v i) i (nI 0) (nI 1)) (nI 0) (sD2 v i)).2 else sD2 v i
def sD3 (v : Nat → Int32) : Nat → (Nat → Int32)
  | 0 => v
  | i + 1 => sLB i (zn (sD3 v i (27 + 12 * i + 5))) (sD3 v i)
def sDay0 (v : Nat → Int32) : Nat → Int32 := upd v 0 (v 0 + nI 1)
def sDayA (v : Nat → Int32) : Nat × (Nat → Int32) := sD1 (sDay0 v) (nD v)
def sDayB (v : Nat → Int32) : Nat → Int32 := sD2 (sDayA v).2 (nD v)
def sDayC (v : Nat → Int32) : Nat → Int32 := sD3 (sDayB v) (nD v)
theorem sD1_nn {v : Nat → Int32} (hK : zK v) : ∀ (i n : Nat) (u : Nat → Int32), i ≤ 10 → sD1 v i = (n, u) → zK u ∧ u 2 = v 2 ∧ u 1 = v 1
  | 0, n, u, _, h => by cases h; exact ⟨hK, rfl, rfl⟩
  | i + 1, n, u, hi, h => by
    unfold sD1 at h
    cases hq : sD1 v i with
    | mk n1 u1 =>
      rw [hq] at h
      obtain ⟨a, b, c⟩ := sD1_nn hK i n1 u1 (by omega) hq
      by_cases q : sLeft u1 i = 0
      · simp only [if_pos q] at h
        cases h
        obtain ⟨z1, z2, z3⟩ := sLapses_nn (d := i) a (by omega)
        exact ⟨z1, z2.trans b, z3.trans c⟩
      · simp only [if_neg q] at h
        cases h
        exact ⟨a, b, c⟩
theorem sD2_nn {v : Nat → Int32} (hK : zK v) : ∀ (i : Nat), zK (sD2 v i) ∧ sD2 v i 1 = v 1
  | 0 => ⟨hK, rfl⟩
  | i + 1 => by
    obtain ⟨a, c⟩ := sD2_nn hK i
    unfold sD2
    by_cases q : sLeft (sD2 v i) i = sD2 v i 3
    · rw [if_pos q]
      obtain ⟨z1, z2, -⟩ := sCov_nn (d := i) (sOf (sD2 v i) i (nI 0) (nI 1)) (nI 0) _ a
      exact ⟨z1, z2.trans c⟩
    · rw [if_neg q]; exact ⟨a, c⟩
theorem sD3_nn {v : Nat → Int32} (hK : zK v) : ∀ (i : Nat), i ≤ nD v → zK (sD3 v i) ∧ sD3 v i 1 = v 1
  | 0, _ => ⟨hK, rfl⟩
  | i + 1, hi => by
    obtain ⟨a, c⟩ := sD3_nn hK i (by omega)
    unfold sD3
    have h10 := hK.1.2
    obtain ⟨w, hw, h5, -⟩ := a.2.2.1 i (by omega)
    rw [h5, zn_nI (by omega)]
    obtain ⟨z1, z2⟩ := sLB_nn w _ a (by rw [nD_of c]; omega) h5 hw
    exact ⟨z1, z2.trans c⟩
theorem zK.day0 {v : Nat → Int32} (hK : zK v) : zK (sDay0 v) := hK.of (upd_ne (by omega)) (upd_ne (by omega)) (fun d k hd hk h12 => upd_ne (by omega)) (fun r k hr hk => upd_ne (by omega))
theorem nD_day0 (v : Nat → Int32) : nD (sDay0 v) = nD v := nD_of (upd_ne (by omega))
theorem sDayA_nn {v : Nat → Int32} (hK : zK v) : zK (sDayA v).2 ∧ nD (sDayA v).2 = nD v := by
  obtain ⟨a, b, c⟩ := sD1_nn hK.day0 (nD v) (sDayA v).1 (sDayA v).2 hK.1.2 rfl
  exact ⟨a, (nD_of c).trans (nD_day0 v)⟩
theorem sDayB_nn {v : Nat → Int32} (hK : zK v) : zK (sDayB v) ∧ nD (sDayB v) = nD v := by
  obtain ⟨a, c⟩ := sDayA_nn hK
  obtain ⟨z1, z2⟩ := sD2_nn a (nD v)
  exact ⟨z1, (nD_of z2).trans c⟩
theorem sDayC_nn {v : Nat → Int32} (hK : zK v) : zK (sDayC v) ∧ nD (sDayC v) = nD v := by
  obtain ⟨a, c⟩ := sDayB_nn hK
  obtain ⟨z1, z2⟩ := sD3_nn a (nD v) (by omega)
  exact ⟨z1, (nD_of z2).trans c⟩
def sDays (v : Nat → Int32) : Nat → Nat × (Nat → Int32)
  | 0 => (0, v)
  | i + 1 => match sDays v i with
    | (n, u) => (n + (sDayA u).1, sDayC u)
theorem sDays_nn {v : Nat → Int32} (hK : zK v) : ∀ (i n : Nat) (u : Nat → Int32), sDays v i = (n, u) → zK u
  | 0, n, u, h => by cases h; exact hK
  | i + 1, n, u, h => by
    unfold sDays at h
    cases hq : sDays v i with
    | mk n1 u1 =>
      rw [hq] at h
      have a := sDays_nn hK i n1 u1 hq
      cases h
      exact (sDayC_nn a).1
def sPass (v : Nat → Int32) (x : Int32) : Int32 × (Nat → Int32) × Bool :=
  if zIn x (nI 1) (nI 60) = true then (if v 0 + x ≤ nI 9999 then (nI (sDays v (zn x)).1, (sDays v (zn x)).2, true) else (-4, v, false)) else (-2, v, false)
def sTk (v : Nat → Int32) (x : Int32) : Int32 × (Nat → Int32) × Bool :=
  if zIn x (nI 0) (v 2 - nI 1) = true then (if v (147 + 7 * zn x + 3) = nI 1 then (v (147 + 7 * zn x + 4), sBec v (zn x) (nI 0), true) else (-4, v, false)) else (-1, v, false)
def sAw1 (v : Nat → Int32) (d w : Nat) (x : Int32) : Nat → Int32 := upd (upd v (27 + 12 * d + (6 + w)) x) (27 + 12 * d + 5) (nI (w + 1))
def sAw (v : Nat → Int32) (x y : Int32) : Int32 × (Nat → Int32) × Bool :=
  if zIn x (nI 0) (nI 9) = true ∧ zIn y (nI 0) (v 1 - nI 1) = true then
    if sOpen v (zn y) = true ∧ sPl v (zn y) x (zn (v (27 + 12 * zn y + 5))) < 0 then
      if v (27 + 12 * zn y + 5) = nI 6 then (-3, v, false) else (nI (zn (v (27 + 12 * zn y + 5)) + 1), sAw1 v (zn y) (zn (v (27 + 12 * zn y + 5))) x, true)
    else (-4, v, false)
  else (-1, v, false)
def sLv (v : Nat → Int32) (x y : Int32) : Int32 × (Nat → Int32) × Bool :=
  if zIn x (nI 0) (nI 9) = true ∧ zIn y (nI 0) (v 1 - nI 1) = true then
    if sPl v (zn y) x (zn (v (27 + 12 * zn y + 5))) < 0 then (sPl v (zn y) x (zn (v (27 + 12 * zn y + 5))), v, false)
    else (sPl v (zn y) x (zn (v (27 + 12 * zn y + 5))), sDrop v (zn y) (zn (sPl v (zn y) x (zn (v (27 + 12 * zn y + 5))))) (zn (v (27 + 12 * zn y + 5))), true)
  else (-1, v, false)
theorem sPl_nn {v : Nat → Int32} {d : Nat} {h : Int32} : ∀ {n : Nat}, ¬ sPl v d h n < 0 → n ≤ 6 → ∃ p, p < n ∧ sPl v d h n = nI p
  | 0, q, _ => absurd (show (-5 : Int32) < 0 by decide) q
  | n + 1, q, hn => by
    unfold sPl at q ⊢
    split
    · exact ⟨n, by omega, rfl⟩
    · rename_i c
      rw [if_neg c] at q
      obtain ⟨p, h1, h2⟩ := sPl_nn q (by omega)
      exact ⟨p, by omega, h2⟩
def sSet (v : Nat → Int32) (x y : Int32) : Int32 × (Nat → Int32) × Bool :=
  if zIn x (nI 0) (nI 3) = true then
    if zIn y (zLow (zn x)) (zHigh (zn x)) = true then (if v (3 + zn x) = y then (-5, v, false) else (v (3 + zn x), upd v (3 + zn x) y, true))
    else (-2, v, false)
  else (-2, v, false)
def sLo (v : Nat → Int32) (k : Nat) : Int32 := if k = 3 then nI 0 else v (9 + 2 * k + 2) + nI 1
def sHi (v : Nat → Int32) (k : Nat) : Int32 := if k = 3 then nI 0 else if k = 0 then nI 99 else v (9 + 2 * k - 2) - nI 1
def sSt (v : Nat → Int32) (x y z : Int32) : Int32 × (Nat → Int32) × Bool :=
  if zIn x (nI 0) (nI 3) = true then
    if zIn y (sLo v (zn x)) (sHi v (zn x)) = true ∧ zIn z (nI 0) (nI 100) = true then
      if v (9 + 2 * zn x) = y ∧ v (9 + 2 * zn x + 1) = z then (-5, v, false) else (v (9 + 2 * zn x + 1), upd (upd v (9 + 2 * zn x) y) (9 + 2 * zn x + 1) z, true)
    else (-2, v, false)
  else (-1, v, false)
def sAdd1 (v : Nat → Int32) (d : Nat) (a b c e f : Int32) : Nat → Int32 :=
  upd (upd (upd (upd (upd (upd v (27 + 12 * d + 0) a) (27 + 12 * d + 1) b) (27 + 12 * d + 2) c) (27 + 12 * d + 3) e) (27 + 12 * d + 4) f) (27 + 12 * d + 5) (nI 0)
def sAddOk (v : Nat → Int32) (a b c e f : Int32) : Bool := zIn a (v 0 + nI 1) (nI 999) && (zIn b (nI 1) (nI 20) && (zIn c (nI 0) (nI 5) && (zIn e (nI 1) (nI 9999) && zIn f (nI 0) (nI 2))))
def sAdd (v : Nat → Int32) (a b c e f : Int32) : Int32 × (Nat → Int32) × Bool :=
  if sAddOk v a b c e f = true then (if v 1 = nI 10 then (-3, v, false) else (nI (nD v), upd (sAdd1 v (nD v) a b c e f) 1 (sAdd1 v (nD v) a b c e f 1 + nI 1), true)) else (-2, v, false)
theorem zIn_out {x : Int32} {n : Nat} (hn : n < 2 ^ 31) (h : zIn x (nI 0) (nI n) = false) : x.toInt < 0 ∨ (n : Int) < x.toInt := by
  unfold zIn at h
  rw [Bool.and_eq_false_iff] at h
  rcases h with h | h
  · left
    rw [decide_eq_false_iff_not, i_not_le, Int32.lt_iff_toInt_lt] at h
    exact h
  · right
    rw [decide_eq_false_iff_not, i_not_le, Int32.lt_iff_toInt_lt, nI_toInt hn] at h
    exact h
def sDateW (v : Nat → Int32) (d w : Nat) : Int32 := match w with
  | 5 => if sOpen v d = true then sLeft v d else nI 0
  | 6 => nI (sOut v d)
  | 7 => nI (sOf v d (nI 2) (nI 2))
  | 8 => nI (sOf v d (nI 1) (nI 1))
  | 9 => sPrice v d (sLeft v d)
  | 10 => sCan v d
  | 11 => if sOpen v d = true then nI (sStage v d) else -5
  | 12 => v (27 + 12 * d + 5)
  | 13 => match sLow v d (nI 1) 4 (nR v) with
    | none => -5
    | some r => v (147 + 7 * r + 4)
  | w => v (27 + 12 * d + w)
def sDate (v : Nat → Int32) (x w : Int32) : Int32 := if zIn x (nI 0) (v 1 - nI 1) = true then (if zIn w (nI 0) (nI 13) = true then sDateW v (zn x) (zn w) else -2) else -1
def sWait (v : Nat → Int32) (x w : Int32) : Int32 := if zIn x (nI 0) (v 1 - nI 1) = true then (if 0 ≤ w then (if w < v (27 + 12 * zn x + 5) then v (27 + 12 * zn x + (6 + zn w)) else -5) else -2) else -1
def sRight (v : Nat → Int32) (x w : Int32) : Int32 := if zIn x (nI 0) (v 2 - nI 1) = true then (if zIn w (nI 0) (nI 8) = true then (if zn w < 7 then v (147 + 7 * zn x + zn w) else if zn w = 8 then zB (sEx v (zn x) (zn (v (147 + 7 * zn x + 0)))) else if v (147 + 7 * zn x + 3) < nI 2 then sRef v (zn x) (zn (v (147 + 7 * zn x + 0))) else -5) else -2) else -1
def sStg (v : Nat → Int32) (x w : Int32) : Int32 := if zIn x (nI 0) (nI 3) = true then (if zIn w (nI 0) (nI 1) = true then v (9 + 2 * zn x + zn w) else -2) else -1
def sPin (v : Nat → Int32) (x w : Int32) : Int32 := if zIn x (nI 0) (v 1 - nI 1) = true then (if zIn w (nI 0) (nI 60) = true then (if sLeft v (zn x) - w ≤ 0 then -5 else sPrice v (zn x) (sLeft v (zn x) - w)) else -2) else -1
def sWc (v : Nat → Int32) (x : Int32) : Int32 × Bool := if zIn x (nI 0) (v 1 - nI 1) = true then (if v 3 < sLeft v (zn x) then ((sCov (zn x) (sOf v (zn x) (nI 0) (nI 1)) (nI 0) v).1, true) else (-5, false)) else (-1, false)
def sEv (v : Nat → Int32) (x w : Int32) : Int32 := if x < 0 then -2 else if zIn w (nI 0) (nI 3) = true then (if x < v 8 then v (567 + 4 * zn x + zn w) else -5) else -2
def sHa (v : Nat → Int32) (h : Nat) : Nat → Nat
  | 0 => 0
  | n + 1 => sHa v h n + if v (147 + 7 * n + 1) = nI h ∧ v (147 + 7 * n + 3) < nI 2 then 1 else 0
def sHe (v : Nat → Int32) (h : Nat) : Nat → Nat
  | 0 => 0
  | n + 1 => sHe v h n + if v (147 + 7 * n + 1) = nI h ∧ v (147 + 7 * n + 3) = nI 2 then 1 else 0
def sHl (v : Nat → Int32) (h : Nat) : Nat → Nat
  | 0 => 0
  | n + 1 => sHl v h n + if 0 ≤ sPl v n (nI h) (zn (v (27 + 12 * n + 5))) then 1 else 0
def sHoldW (v : Nat → Int32) (h w : Nat) : Int32 := match w with
  | 0 => v (17 + h) + 1000000000
  | 1 => nI (sHa v h (nR v))
  | 2 => nI (sHe v h (nR v))
  | _ => nI (sHl v h (nD v))
def sHold (v : Nat → Int32) (x w : Int32) : Int32 := if zIn x (nI 0) (nI 9) = true then (if zIn w (nI 0) (nI 3) = true then sHoldW v (zn x) (zn w) else -2) else -1
def sCs (v : Nat → Int32) (x : Int32) : Nat → Nat
  | 0 => 0
  | n + 1 => sCs v x n + if v (147 + 7 * n + 3) = x then 1 else 0
def sCountW (v : Nat → Int32) (S : Nat → Nat → Int32) (w : Nat) : Int32 := match w with
  | 0 => v 0
  | 1 => v 1
  | 2 => v 2
  | 9 => v 7 + 1000000000
  | 10 => v 3
  | 11 => v 4
  | 12 => v 5
  | 13 => v 6
  | 14 => S 0 3
  | 15 => S 0 7
  | w => nI (sCs v (nI w - nI 3) (nR v))
/-! ===== the reference's reader ===== -/
/-- is the sign c at the place p of the text T of t signs -/
def sSg (T : Nat → Int32) (t p : Nat) (c : Int32) : Bool := decide (p < t) && decide (T p = c)
def sB1 (b : Bool) : Nat := if b then 1 else 0
def sDg (T : Nat → Int32) (q : Nat) : Nat := zn (T q) - 48
/-- the digits from f on: how many, and their number; r more may be read, i have been -/
def sRN (T : Nat → Int32) (t f : Nat) : Nat → Nat → Nat → Nat × Nat
  | 0, i, n => (i, n)
  | r + 1, i, n => if f + i < t ∧ zIn (T (f + i)) (nI 48) (nI 57) = true ∧ (i = 0 ∨ ¬ T f = nI 48) then sRN T t f r (i + 1) (10 * n + sDg T (f + i)) else (i, n)
theorem sRN_pos {T : Nat → Int32} {t f r i n : Nat} (q : f + i < t ∧ zIn (T (f + i)) (nI 48) (nI 57) = true ∧ (i = 0 ∨ ¬ T f = nI 48)) : sRN T t f (r + 1) i n = sRN T t f r (i + 1) (10 * n + sDg T (f + i)) := if_pos q
theorem sRN_le {T : Nat → Int32} {t f : Nat} : ∀ (r i n : Nat), (sRN T t f r i n).1 ≤ i + r ∧ (f + i ≤ t → f + (sRN T t f r i n).1 ≤ t)
  | 0, i, n => ⟨Nat.le_refl _, fun h => h⟩
  | r + 1, i, n => by
    unfold sRN
    by_cases q : f + i < t ∧ zIn (T (f + i)) (nI 48) (nI 57) = true ∧ (i = 0 ∨ ¬ T f = nI 48)
    · rw [if_pos q]
      have h := sRN_le (T := T) (t := t) (f := f) r (i + 1) (10 * n + sDg T (f + i))
      exact ⟨by omega, fun _ => h.2 (by omega)⟩
    · rw [if_neg q]; exact ⟨by omega, fun h => h⟩
theorem zDig {x : Int32} (h : zIn x (nI 48) (nI 57) = true) : ∃ g, g < 10 ∧ x = nI (48 + g) := by
  have h1 : zIn x (nI 0) (nI 57) = true := by
    unfold zIn at h ⊢
    rw [Bool.and_eq_true, decide_eq_true_eq, decide_eq_true_eq] at h ⊢
    exact ⟨Int32.le_trans (by decide) h.1, h.2⟩
  obtain ⟨j, hj, rfl⟩ := zIn_nI (by decide) h1
  unfold zIn at h
  rw [Bool.and_eq_true, decide_eq_true_eq, decide_eq_true_eq] at h
  have := (nI_leI (by omega) (by omega)).mp h.1
  exact ⟨j - 48, by omega, by congr 1; omega⟩
def sLet (T : Nat → Int32) (t p : Nat) : Int32 := if p < t then T p else nI 0
def sNum (T : Nat → Int32) (t p k : Nat) : Nat × Nat := sRN T t p k 0 0
def sROb (T : Nat → Int32) (t p : Nat) : Bool × Nat × Int32 × Int32 :=
  if (decide (0 < (sNum T t p 1).1) && sSg T t (p + (sNum T t p 1).1) (nI 64)) = true then
    (decide (0 < (sNum T t (p + (sNum T t p 1).1 + 1) 1).1), p + (sNum T t p 1).1 + 1 + (sNum T t (p + (sNum T t p 1).1 + 1) 1).1, nI (sNum T t p 1).2, nI (sNum T t (p + (sNum T t p 1).1 + 1) 1).2)
  else (false, p + (sNum T t p 1).1, nI (sNum T t p 1).2, nI (sNum T t p 1).2)
def sROo (T : Nat → Int32) (t p : Nat) : Bool × Nat × Int32 × Int32 :=
  if (decide (0 < (sNum T t p 2).1) && sSg T t (p + (sNum T t p 2).1) (nI 61)) = true then
    if (decide (p + (sNum T t p 2).1 + 1 < t) && !decide (T (p + (sNum T t p 2).1 + 1) = nI 48)) = true then
      (decide (0 < (sNum T t (p + (sNum T t p 2).1 + 1) 5).1), p + (sNum T t p 2).1 + 1 + (sNum T t (p + (sNum T t p 2).1 + 1) 5).1, nI (sNum T t p 2).2, nI (sNum T t (p + (sNum T t p 2).1 + 1) 5).2)
    else (false, p + (sNum T t p 2).1 + 1, nI (sNum T t p 2).2, nI (sNum T t p 2).2)
  else (false, p + (sNum T t p 2).1, nI (sNum T t p 2).2, nI (sNum T t p 2).2)
def sRO (T : Nat → Int32) (t p : Nat) (a b : Int32) : Bool × Nat × Int32 × Int32 :=
  if (sSg T t p (nI 98) || sSg T t p (nI 109)) = true then sROb T t (p + 1)
  else if (sSg T t p (nI 99) || sSg T t p (nI 120)) = true then (decide (0 < (sNum T t (p + 1) 2).1), p + 1 + (sNum T t (p + 1) 2).1, nI (sNum T t (p + 1) 2).2, b)
  else if sSg T t p (nI 111) = true then sROo T t (p + 1)
  else (false, p, a, b)
theorem sSg_lt {T : Nat → Int32} {t p : Nat} {c : Int32} (h : sSg T t p c = true) : p < t ∧ T p = c := by
  unfold sSg at h
  rw [Bool.and_eq_true, decide_eq_true_eq, decide_eq_true_eq] at h
  exact h
theorem sB1_t : sB1 true = 1 := rfl
theorem sB1_f : sB1 false = 0 := rfl
theorem sNum_t {T : Nat → Int32} {t p k : Nat} (h : p ≤ t) : p + (sNum T t p k).1 ≤ t := (sRN_le k 0 0).2 h
theorem sROb_le {T : Nat → Int32} {t p : Nat} (h : p ≤ t) : p ≤ (sROb T t p).2.1 ∧ (sROb T t p).2.1 ≤ t := by
  have h1 := sNum_t (T := T) (k := 1) h
  unfold sROb
  split
  · rename_i q
    rw [Bool.and_eq_true] at q
    have h2 := (sSg_lt q.2).1
    have h3 := sNum_t (T := T) (t := t) (p := p + (sNum T t p 1).1 + 1) (k := 1) (by omega)
    exact ⟨by show p ≤ p + _ + 1 + _; omega, h3⟩
  · exact ⟨by show p ≤ p + _; omega, h1⟩
theorem sROo_le {T : Nat → Int32} {t p : Nat} (h : p ≤ t) : p ≤ (sROo T t p).2.1 ∧ (sROo T t p).2.1 ≤ t := by
  have h1 := sNum_t (T := T) (k := 2) h
  unfold sROo
  split
  · rename_i q
    rw [Bool.and_eq_true] at q
    have h2 := (sSg_lt q.2).1
    split
    · have h3 := sNum_t (T := T) (t := t) (p := p + (sNum T t p 2).1 + 1) (k := 5) (by omega)
      exact ⟨by show p ≤ p + _ + 1 + _; omega, h3⟩
    · exact ⟨by show p ≤ p + _ + 1; omega, by show p + _ + 1 ≤ t; omega⟩
  · exact ⟨by show p ≤ p + _; omega, h1⟩
theorem sRO_le {T : Nat → Int32} {t p : Nat} {a b : Int32} (h : p ≤ t) : p ≤ (sRO T t p a b).2.1 ∧ (sRO T t p a b).2.1 ≤ t := by
  unfold sRO
  split
  · rename_i q
    rw [Bool.or_eq_true] at q
    have : p < t := q.elim (fun z => (sSg_lt z).1) (fun z => (sSg_lt z).1)
    have := sROb_le (T := T) (t := t) (p := p + 1) (by omega)
    exact ⟨by omega, this.2⟩
  · split
    · rename_i q
      rw [Bool.or_eq_true] at q
      have : p < t := q.elim (fun z => (sSg_lt z).1) (fun z => (sSg_lt z).1)
      have := sNum_t (T := T) (t := t) (p := p + 1) (k := 2) (by omega)
      exact ⟨by show p ≤ p + 1 + _; omega, this⟩
    · split
      · rename_i q
        have : p < t := (sSg_lt q).1
        have := sROo_le (T := T) (t := t) (p := p + 1) (by omega)
        exact ⟨by omega, this.2⟩
      · exact ⟨Nat.le_refl _, h⟩
/-- the orders of the text from p on, whether the text is good, the place where it stops -/
def sPA (T : Nat → Int32) (t : Nat) : Nat → Nat → List (Int32 × Int32 × Int32) × Bool × Nat
  | 0, p => ([], false, p)
  | n + 1, p =>
    if (sRO T t p 0 0).1 = true then
      if (sRO T t p 0 0).2.1 < t then
        if T (sRO T t p 0 0).2.1 = nI 59 then ((sLet T t p, (sRO T t p 0 0).2.2.1, (sRO T t p 0 0).2.2.2) :: (sPA T t n ((sRO T t p 0 0).2.1 + 1)).1, (sPA T t n ((sRO T t p 0 0).2.1 + 1)).2)
        else ([(sLet T t p, (sRO T t p 0 0).2.2.1, (sRO T t p 0 0).2.2.2)], false, (sRO T t p 0 0).2.1)
      else ([(sLet T t p, (sRO T t p 0 0).2.2.1, (sRO T t p 0 0).2.2.2)], true, (sRO T t p 0 0).2.1)
    else ([], false, (sRO T t p 0 0).2.1)
def sDoO (v : Nat → Int32) (o : Int32 × Int32 × Int32) : Int32 × (Nat → Int32) :=
  if o.1 = nI 98 then sDoBuy v o.2.1 o.2.2 else if o.1 = nI 109 then sDoOff v o.2.1 o.2.2 else if o.1 = nI 99 then sDoCan v o.2.1 else if o.1 = nI 120 then sDoEx v o.2.1 else sDoOfr v o.2.1 o.2.2
