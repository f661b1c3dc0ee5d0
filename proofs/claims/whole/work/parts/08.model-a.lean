theorem zc1 {As : List Value} (h : As.all (fun v => v.category == 1) = true) : ∀ v ∈ As, v.category = 1 := fun v hv => by simpa using List.all_eq_true.mp h v hv
def zB (b : Bool) : Int32 := if b then 1 else 0
theorem zB_t : zB true = 1 := rfl
theorem zB_f : zB false = 0 := rfl
theorem zB_nar (b : Bool) : narrow .boolean (.int (zB b)) = .int (zB b) := by cases b <;> rfl
section ZB
variable {l : Launch} {G : zG} {y : MethodName} {cc : ByteArray} {nL : Nat} {ret : Option FieldType} {d : Nat} {rv : Option Value} {Q : zM → Prop} {pc : Nat} {lv : List (Option Value)} {st : List Value} {mm : zM}
theorem z_if_eqB {b : Bool} {off : Int} (tgt : Nat) (hd : decode cc pc = .ok (.ifCond .eq off, 3)) (ht : (pc : Int) + off = (tgt : Int)) (kt : b = false → zV l G (y, cc, nL, ret) d rv Q tgt lv st mm) (kf : b = true → zV l G (y, cc, nL, ret) d rv Q (pc + 3) lv st mm) : zV l G (y, cc, nL, ret) d rv Q pc lv (.int (zB b) :: st) mm :=
  z_if_eq tgt hd ht (fun h => kt (by cases b; rfl; exact absurd h (by decide))) (fun h => kf (by cases b; exact absurd rfl h; rfl))
theorem z_if_neB {b : Bool} {off : Int} (tgt : Nat) (hd : decode cc pc = .ok (.ifCond .ne off, 3)) (ht : (pc : Int) + off = (tgt : Int)) (kt : b = true → zV l G (y, cc, nL, ret) d rv Q tgt lv st mm) (kf : b = false → zV l G (y, cc, nL, ret) d rv Q (pc + 3) lv st mm) : zV l G (y, cc, nL, ret) d rv Q pc lv (.int (zB b) :: st) mm :=
  z_if_ne tgt hd ht (fun h => kt (by cases b; exact absurd rfl h; rfl)) (fun h => kf (by cases b; rfl; exact absurd h (by decide)))
end ZB
theorem z_loop {P : Nat → Prop} (N : Nat) (h : ∀ i, i ≤ N → (i < N → P (i + 1)) → P i) : ∀ i, i ≤ N → P i := by
  have key : ∀ k i, i + k = N → P i := by
    intro k
    induction k with
    | zero => intro i e; exact h i (by omega) (fun q => absurd q (by omega))
    | succ k ih => intro i e; exact h i (by omega) (fun _ => ih (i + 1) (by omega))
  exact fun i hi => key (N - i) i (by omega)
theorem i_not_lt {a b : Int32} : ¬ a < b ↔ b ≤ a := Int32.not_lt
theorem i_not_le {a b : Int32} : ¬ a ≤ b ↔ b < a := Int32.not_le
/-! the reference's words -/
def zIn (x lo hi : Int32) : Bool := decide (lo ≤ x) && decide (x ≤ hi)
def nR (v : Nat → Int32) : Nat := (v 2).toNatClampNeg
def nD (v : Nat → Int32) : Nat := (v 1).toNatClampNeg
def sLeft (v : Nat → Int32) (d : Nat) : Int32 := v (27 + 12 * d + 0) - v 0
def sOpen (v : Nat → Int32) (d : Nat) : Bool := decide (0 < sLeft v d)
def sCnt (v : Nat → Int32) (d : Nat) (lo hi : Int32) : Nat → Nat
  | 0 => 0
  | n + 1 => sCnt v d lo hi n + if v (147 + 7 * n + 0) = nI d ∧ zIn (v (147 + 7 * n + 3)) lo hi = true then 1 else 0
def sOf (v : Nat → Int32) (d : Nat) (lo hi : Int32) : Nat := sCnt v d lo hi (nR v)
def sOut (v : Nat → Int32) (d : Nat) : Nat := sOf v d (nI 0) (nI 2)
/-- the indices are in their rows -/
def zJ2 (v : Nat → Int32) : Prop := v 2 = nI (nR v) ∧ nR v ≤ 60
def zJ1 (v : Nat → Int32) : Prop := v 1 = nI (nD v) ∧ nD v ≤ 10
set_option maxRecDepth 4000 in
theorem c_X7_in {l : Launch} {G : zG} {mm : zM} (x lo hi : Int32) : zSem l G (yX7_in, cX7_in, 3, (some .boolean)) 1 [.int x, .int lo, .int hi] mm (some (.int (zB (zIn x lo hi)))) (fun m' => m' = mm) := by
  refine z_met [some (.int x), some (.int lo), some (.int hi)] rfl (zc1 (by rfl)) (Nat.le_of_ble_eq_true rfl) rfl ?_
  refine z_iload_n 0 rfl rfl dX7_in_0 ?_
  refine z_iload_n 1 rfl rfl dX7_in_1 ?_
  refine z_icmp_lt 14 dX7_in_2 rfl (fun c2 => ?_) (fun c2 => ?_)
  · refine z_iconst (nI 0) dX7_in_14 rfl ?_
    exact z_zret dX7_in_15 (by first | rfl | exact zB_nar _) (by first | (simp [zIn, zB, i_not_lt.mp c2, i_not_lt.mp c7] <;> rfl) | (simp [zIn, zB, c2, c7] <;> rfl) | (simp [zIn, zB, i_not_le.mpr c2] <;> rfl) | (simp [zIn, zB, i_not_le.mpr c7] <;> rfl)) rfl
  · refine z_iload_n 0 rfl rfl dX7_in_5 ?_
    refine z_iload_n 2 rfl rfl dX7_in_6 ?_
    refine z_icmp_gt 14 dX7_in_7 rfl (fun c7 => ?_) (fun c7 => ?_)
    · refine z_iconst (nI 0) dX7_in_14 rfl ?_
      exact z_zret dX7_in_15 (by first | rfl | exact zB_nar _) (by first | (simp [zIn, zB, i_not_lt.mp c2, i_not_lt.mp c7] <;> rfl) | (simp [zIn, zB, c2, c7] <;> rfl) | (simp [zIn, zB, i_not_le.mpr c2] <;> rfl) | (simp [zIn, zB, i_not_le.mpr c7] <;> rfl)) rfl
    · refine z_iconst (nI 1) dX7_in_10 rfl ?_
      refine z_goto 15 dX7_in_11 rfl ?_
      exact z_zret dX7_in_15 (by first | rfl | exact zB_nar _) (by first | (simp [zIn, zB, i_not_lt.mp c2, i_not_lt.mp c7] <;> rfl) | (simp [zIn, zB, c2, c7] <;> rfl) | (simp [zIn, zB, i_not_le.mpr c2] <;> rfl) | (simp [zIn, zB, i_not_le.mpr c7] <;> rfl)) rfl
set_option maxRecDepth 4000 in
theorem c_X7_isHolder {l : Launch} {G : zG} {mm : zM} (x : Int32) : zSem l G (yX7_isHolder, cX7_isHolder, 1, (some .boolean)) 2 [.int x] mm (some (.int (zB (zIn x (nI 0) (nI 9))))) (fun m' => m' = mm) := by
  refine z_met [some (.int x)] rfl (zc1 (by rfl)) (Nat.le_of_ble_eq_true rfl) rfl ?_
  refine z_iload_n 0 rfl rfl dX7_isHolder_0 ?_
  refine z_iconst (nI 0) dX7_isHolder_1 rfl ?_
  refine z_bipush (nI 9) dX7_isHolder_2 rfl ?_
  refine z_pS3 zm_X7_in (c_X7_in _ _ _) rfl zl_X7_35 (by decide) (Nat.le_of_ble_eq_true rfl) dX7_isHolder_4 ?_
  exact z_zret dX7_isHolder_7 (by first | rfl | exact zB_nar _) rfl rfl
set_option maxRecDepth 4000 in
theorem c_X7_dateAt {l : Launch} {G : zG} {mm : zM} (d w : Nat) : zSem l G (yX7_dateAt, cX7_dateAt, 2, (some .int)) 1 [.int (nI d), .int (nI w)] mm (some (.int (nI (27 + 12 * d + w)))) (fun m' => m' = mm) := by
  refine z_met [some (.int (nI d)), some (.int (nI w))] rfl (zc1 (by rfl)) (Nat.le_of_ble_eq_true rfl) rfl ?_
  refine z_bipush (nI 27) dX7_dateAt_0 rfl ?_
  refine z_bipush (nI 12) dX7_dateAt_2 rfl ?_
  refine z_iload_n 0 rfl rfl dX7_dateAt_4 ?_
  refine z_imulN dX7_dateAt_5 ?_
  refine z_iaddN dX7_dateAt_6 ?_
  refine z_iload_n 1 rfl rfl dX7_dateAt_7 ?_
  refine z_iaddN dX7_dateAt_8 ?_
  exact z_iret dX7_dateAt_9 rfl rfl
set_option maxRecDepth 4000 in
theorem c_X7_rightAt {l : Launch} {G : zG} {mm : zM} (r w : Nat) : zSem l G (yX7_rightAt, cX7_rightAt, 2, (some .int)) 1 [.int (nI r), .int (nI w)] mm (some (.int (nI (147 + 7 * r + w)))) (fun m' => m' = mm) := by
  refine z_met [some (.int (nI r)), some (.int (nI w))] rfl (zc1 (by rfl)) (Nat.le_of_ble_eq_true rfl) rfl ?_
  refine z_sipush (nI 147) dX7_rightAt_0 rfl ?_
  refine z_bipush (nI 7) dX7_rightAt_3 rfl ?_
  refine z_iload_n 0 rfl rfl dX7_rightAt_5 ?_
  refine z_imulN dX7_rightAt_6 ?_
  refine z_iaddN dX7_rightAt_7 ?_
  refine z_iload_n 1 rfl rfl dX7_rightAt_8 ?_
  refine z_iaddN dX7_rightAt_9 ?_
  exact z_iret dX7_rightAt_10 rfl rfl
set_option maxRecDepth 4000 in
theorem c_X7_ofDate {l : Launch} {G : zG} {A : Nat → Nat} {m0 mm : zM} {v : Nat → Int32} {S : Nat → Nat → Int32} (hp : zMP G A m0 v S mm) (d w : Nat) (hd : d < 10) (hw : w < 12) : zSem l G (yX7_ofDate, cX7_ofDate, 3, (some .int)) 2 [.ref (A 0), .int (nI d), .int (nI w)] mm (some (.int (v (27 + 12 * d + w)))) (fun m' => m' = mm) := by
  refine z_met [some (.ref (A 0)), some (.int (nI d)), some (.int (nI w))] rfl (zc1 (by rfl)) (Nat.le_of_ble_eq_true rfl) rfl ?_
  refine z_aload_n 0 rfl rfl dX7_ofDate_0 ?_
  refine zM_ref 0 1 hp (by decide) rfl (by decide) rfl rfl zf_X7_7 dX7_ofDate_1 ?_
  refine z_iload_n 1 rfl rfl dX7_ofDate_4 ?_
  refine z_iload_n 2 rfl rfl dX7_ofDate_5 ?_
  refine z_pS2 zm_X7_dateAt (c_X7_dateAt _ _) rfl zl_X7_39 (by decide) (Nat.le_of_ble_eq_true rfl) dX7_ofDate_6 ?_
  refine zM_vld hp (by omega) dX7_ofDate_9 ?_
  exact z_iret dX7_ofDate_10 rfl rfl
set_option maxRecDepth 4000 in
theorem c_X7_of {l : Launch} {G : zG} {A : Nat → Nat} {m0 mm : zM} {v : Nat → Int32} {S : Nat → Nat → Int32} (hp : zMP G A m0 v S mm) (r w : Nat) (hd : r < 60) (hw : w < 7) : zSem l G (yX7_of, cX7_of, 3, (some .int)) 2 [.ref (A 0), .int (nI r), .int (nI w)] mm (some (.int (v (147 + 7 * r + w)))) (fun m' => m' = mm) := by
  refine z_met [some (.ref (A 0)), some (.int (nI r)), some (.int (nI w))] rfl (zc1 (by rfl)) (Nat.le_of_ble_eq_true rfl) rfl ?_
  refine z_aload_n 0 rfl rfl dX7_of_0 ?_
  refine zM_ref 0 1 hp (by decide) rfl (by decide) rfl rfl zf_X7_7 dX7_of_1 ?_
  refine z_iload_n 1 rfl rfl dX7_of_4 ?_
  refine z_iload_n 2 rfl rfl dX7_of_5 ?_
  refine z_pS2 zm_X7_rightAt (c_X7_rightAt _ _) rfl zl_X7_43 (by decide) (Nat.le_of_ble_eq_true rfl) dX7_of_6 ?_
  refine zM_vld hp (by omega) dX7_of_9 ?_
  exact z_iret dX7_of_10 rfl rfl
set_option maxRecDepth 4000 in
theorem c_X7_isDate {l : Launch} {G : zG} {A : Nat → Nat} {m0 mm : zM} {v : Nat → Int32} {S : Nat → Nat → Int32} (hp : zMP G A m0 v S mm) (x : Int32) : zSem l G (yX7_isDate, cX7_isDate, 2, (some .boolean)) 2 [.ref (A 0), .int x] mm (some (.int (zB (zIn x (nI 0) (v 1 - nI 1))))) (fun m' => m' = mm) := by
  refine z_met [some (.ref (A 0)), some (.int x)] rfl (zc1 (by rfl)) (Nat.le_of_ble_eq_true rfl) rfl ?_
  refine z_iload_n 1 rfl rfl dX7_isDate_0 ?_
  refine z_iconst (nI 0) dX7_isDate_1 rfl ?_
  refine z_aload_n 0 rfl rfl dX7_isDate_2 ?_
  refine zM_ref 0 1 hp (by decide) rfl (by decide) rfl rfl zf_X7_7 dX7_isDate_3 ?_
  refine z_iconst (nI 1) dX7_isDate_6 rfl ?_
  refine zM_vld hp (by omega) dX7_isDate_7 ?_
  refine z_iconst (nI 1) dX7_isDate_8 rfl ?_
  refine z_isub dX7_isDate_9 ?_
  refine z_pS3 zm_X7_in (c_X7_in _ _ _) rfl zl_X7_35 (by decide) (Nat.le_of_ble_eq_true rfl) dX7_isDate_10 ?_
  exact z_zret dX7_isDate_13 (by first | rfl | exact zB_nar _) rfl rfl
set_option maxRecDepth 4000 in
theorem c_X7_isRight {l : Launch} {G : zG} {A : Nat → Nat} {m0 mm : zM} {v : Nat → Int32} {S : Nat → Nat → Int32} (hp : zMP G A m0 v S mm) (x : Int32) : zSem l G (yX7_isRight, cX7_isRight, 2, (some .boolean)) 2 [.ref (A 0), .int x] mm (some (.int (zB (zIn x (nI 0) (v 2 - nI 1))))) (fun m' => m' = mm) := by
  refine z_met [some (.ref (A 0)), some (.int x)] rfl (zc1 (by rfl)) (Nat.le_of_ble_eq_true rfl) rfl ?_
  refine z_iload_n 1 rfl rfl dX7_isRight_0 ?_
  refine z_iconst (nI 0) dX7_isRight_1 rfl ?_
  refine z_aload_n 0 rfl rfl dX7_isRight_2 ?_
  refine zM_ref 0 1 hp (by decide) rfl (by decide) rfl rfl zf_X7_7 dX7_isRight_3 ?_
  refine z_iconst (nI 2) dX7_isRight_6 rfl ?_
  refine zM_vld hp (by omega) dX7_isRight_7 ?_
  refine z_iconst (nI 1) dX7_isRight_8 rfl ?_
  refine z_isub dX7_isRight_9 ?_
  refine z_pS3 zm_X7_in (c_X7_in _ _ _) rfl zl_X7_35 (by decide) (Nat.le_of_ble_eq_true rfl) dX7_isRight_10 ?_
  exact z_zret dX7_isRight_13 (by first | rfl | exact zB_nar _) rfl rfl
set_option maxRecDepth 4000 in
theorem c_X7_daysLeft {l : Launch} {G : zG} {A : Nat → Nat} {m0 mm : zM} {v : Nat → Int32} {S : Nat → Nat → Int32} (hp : zMP G A m0 v S mm) (d : Nat) (hd : d < 10) : zSem l G (yX7_daysLeft, cX7_daysLeft, 2, (some .int)) 3 [.ref (A 0), .int (nI d)] mm (some (.int (sLeft v d))) (fun m' => m' = mm) := by
  refine z_met [some (.ref (A 0)), some (.int (nI d))] rfl (zc1 (by rfl)) (Nat.le_of_ble_eq_true rfl) rfl ?_
  refine z_aload_n 0 rfl rfl dX7_daysLeft_0 ?_
  refine z_iload_n 1 rfl rfl dX7_daysLeft_1 ?_
  refine z_iconst (nI 0) dX7_daysLeft_2 rfl ?_
  refine zM_p2 zm_X7_ofDate (c_X7_ofDate hp _ _ (by omega) (by omega)) hp rfl rfl zl_X7_46 (by decide) (Nat.le_of_ble_eq_true rfl) dX7_daysLeft_3 ?_
  refine z_aload_n 0 rfl rfl dX7_daysLeft_6 ?_
  refine zM_ref 0 1 hp (by decide) rfl (by decide) rfl rfl zf_X7_7 dX7_daysLeft_7 ?_
  refine z_iconst (nI 0) dX7_daysLeft_10 rfl ?_
  refine zM_vld hp (by omega) dX7_daysLeft_11 ?_
  refine z_isub dX7_daysLeft_12 ?_
  exact z_iret dX7_daysLeft_13 rfl rfl
set_option maxRecDepth 4000 in
theorem c_X7_isOpen {l : Launch} {G : zG} {A : Nat → Nat} {m0 mm : zM} {v : Nat → Int32} {S : Nat → Nat → Int32} (hp : zMP G A m0 v S mm) (d : Nat) (hd : d < 10) : zSem l G (yX7_isOpen, cX7_isOpen, 2, (some .boolean)) 4 [.ref (A 0), .int (nI d)] mm (some (.int (zB (sOpen v d)))) (fun m' => m' = mm) := by
  refine z_met [some (.ref (A 0)), some (.int (nI d))] rfl (zc1 (by rfl)) (Nat.le_of_ble_eq_true rfl) rfl ?_
  refine z_aload_n 0 rfl rfl dX7_isOpen_0 ?_
  refine z_iload_n 1 rfl rfl dX7_isOpen_1 ?_
  refine zM_p1 zm_X7_daysLeft (c_X7_daysLeft hp _ (by omega)) hp rfl rfl zl_X7_49 (by decide) (Nat.le_of_ble_eq_true rfl) dX7_isOpen_2 ?_
  refine z_if_le 12 dX7_isOpen_5 rfl (fun c5 => ?_) (fun c5 => ?_)
  · refine z_iconst (nI 0) dX7_isOpen_12 rfl ?_
    exact z_zret dX7_isOpen_13 (by first | rfl | exact zB_nar _) (by first | (simp [sOpen, zB, c5] <;> rfl) | (simp [sOpen, zB, i_not_le.mp c5] <;> rfl) | (simp [sOpen, zB, i_not_lt.mpr c5] <;> rfl)) rfl
  · refine z_iconst (nI 1) dX7_isOpen_8 rfl ?_
    refine z_goto 13 dX7_isOpen_9 rfl ?_
    exact z_zret dX7_isOpen_13 (by first | rfl | exact zB_nar _) (by first | (simp [sOpen, zB, c5] <;> rfl) | (simp [sOpen, zB, i_not_le.mp c5] <;> rfl) | (simp [sOpen, zB, i_not_lt.mpr c5] <;> rfl)) rfl
set_option maxRecDepth 4000 in
theorem c_X7_isFree {l : Launch} {G : zG} {A : Nat → Nat} {m0 mm : zM} {v : Nat → Int32} {S : Nat → Nat → Int32} (hp : zMP G A m0 v S mm) (r : Nat) (hd : r < 60) : zSem l G (yX7_isFree, cX7_isFree, 2, (some .boolean)) 3 [.ref (A 0), .int (nI r)] mm (some (.int (zB (decide (v (147 + 7 * r + 3) < nI 2))))) (fun m' => m' = mm) := by
  refine z_met [some (.ref (A 0)), some (.int (nI r))] rfl (zc1 (by rfl)) (Nat.le_of_ble_eq_true rfl) rfl ?_
  refine z_aload_n 0 rfl rfl dX7_isFree_0 ?_
  refine z_iload_n 1 rfl rfl dX7_isFree_1 ?_
  refine z_iconst (nI 3) dX7_isFree_2 rfl ?_
  refine zM_p2 zm_X7_of (c_X7_of hp _ _ (by omega) (by omega)) hp rfl rfl zl_X7_53 (by decide) (Nat.le_of_ble_eq_true rfl) dX7_isFree_3 ?_
  refine z_iconst (nI 2) dX7_isFree_6 rfl ?_
  refine z_icmp_ge 14 dX7_isFree_7 rfl (fun c7 => ?_) (fun c7 => ?_)
  · refine z_iconst (nI 0) dX7_isFree_14 rfl ?_
    exact z_zret dX7_isFree_15 (by first | rfl | exact zB_nar _) (by first | (simp [zB, c7] <;> rfl) | (simp [zB, i_not_le.mp c7] <;> rfl) | (simp [zB, i_not_lt.mpr c7] <;> rfl)) rfl
  · refine z_iconst (nI 1) dX7_isFree_10 rfl ?_
    refine z_goto 15 dX7_isFree_11 rfl ?_
    exact z_zret dX7_isFree_15 (by first | rfl | exact zB_nar _) (by first | (simp [zB, c7] <;> rfl) | (simp [zB, i_not_le.mp c7] <;> rfl) | (simp [zB, i_not_lt.mpr c7] <;> rfl)) rfl
