theorem zMP.congr {G : zG} {A : Nat → Nat} {m0 mm : zM} {v w : Nat → Int32} {S : Nat → Nat → Int32} (h : zMP G A m0 v S mm) (e : ∀ i, i < 607 → w i = v i) : zMP G A m0 w S mm := by
  obtain ⟨h1, h2, h3, h4, h5, h6, h7, h8, h9, h10⟩ := h
  exact ⟨h1, h2, h3, h4, h5, fun i hi => by rw [e i hi]; exact h6 i hi, h7, h8, h9, h10⟩
theorem zIn_out {x : Int32} {n : Nat} (hn : n < 2 ^ 31) (h : zIn x (nI 0) (nI n) = false) : x.toInt < 0 ∨ (n : Int) < x.toInt := by
  unfold zIn at h
  rw [Bool.and_eq_false_iff] at h
  rcases h with h | h
  · left
    rw [decide_eq_false_iff_not, i_not_le, Int32.lt_iff_toInt_lt] at h
    exact h
  · right
    rw [decide_eq_false_iff_not, i_not_le, Int32.lt_iff_toInt_lt, nI_toInt hn] at h
    exact h
def sUndoS (S : Nat → Nat → Int32) (m : Nat) : Nat → Nat → Int32 := suS S 0 3 (nI m)
def sUndoV (v : Nat → Int32) (S : Nat → Nat → Int32) (m : Nat) : Nat → Int32 := zBr v (fun k => S 3 (607 * m + k)) 607
def zKp (v : Nat → Int32) (S : Nat → Nat → Int32) (i : Nat) : Nat → Nat → Int32 := fun b k => if b = 4 ∧ k < i then v k else S b k
theorem zKp_0 (v : Nat → Int32) (S : Nat → Nat → Int32) : zKp v S 0 = S := by funext b k; unfold zKp; rw [if_neg (fun q => by omega)]
theorem zKp_s (v : Nat → Int32) (S : Nat → Nat → Int32) (i : Nat) : suS (zKp v S i) 4 i (v i) = zKp v S (i + 1) := by
  funext b k
  simp only [suS, zKp]
  by_cases e : b = 4 ∧ k = i
  · rw [if_pos e, if_pos (by omega), e.2]
  · rw [if_neg e]
    by_cases h : b = 4 ∧ k < i
    · rw [if_pos h, if_pos (by omega)]
    · rw [if_neg h, if_neg (by omega)]
set_option maxRecDepth 4000 in
theorem l_X7_undo {l : Launch} {G : zG} {A : Nat → Nat} {m0 : zM} {v : Nat → Int32} {S : Nat → Nat → Int32} (m : Nat) (hm : m < 4) : ∀ i, i ≤ 607 → ∀ (mm : zM) (hp : zMP G A m0 (zBr v (fun k => S 3 (607 * m + k)) i) (sUndoS S m) mm), zV l G (yX7_undo, cX7_undo, 2, (some .int)) 1 (some (.int (nI m))) (fun m' => zMP G A m0 (sUndoV v S m) (sUndoS S m) m') 22 [some (.ref (A 0)), some (.int (nI i))] [] mm := by
  refine z_loop (607) (fun i hi ih mm hp => ?_)
  refine z_iload_n 1 rfl rfl dX7_undo_22 ?_
  refine z_sipush (nI 607) dX7_undo_23 rfl ?_
  refine z_icmp_ge 56 dX7_undo_26 rfl (fun c26 => ?_) (fun c26 => ?_)
  · have e : i = 607 := by have := (nI_leI (by omega) (by omega)).mp c26; omega
    subst e
    refine z_aload_n 0 rfl rfl dX7_undo_56 ?_
    refine zM_int 3 hp (by decide) rfl rfl rfl zf_X7_31 dX7_undo_57 ?_
    rw [show sUndoS S m 0 3 = nI m from suS_eq]
    exact z_iret dX7_undo_60 rfl hp
  · have hl : i < 607 := Nat.lt_of_not_le (fun q => c26 ((nI_leI (by omega) (by omega)).mpr (by omega)))
    refine z_aload_n 0 rfl rfl dX7_undo_29 ?_
    refine zM_ref 0 1 hp (by decide) rfl (by decide) rfl rfl zf_X7_7 dX7_undo_30 ?_
    refine z_iload_n 1 rfl rfl dX7_undo_33 ?_
    refine z_aload_n 0 rfl rfl dX7_undo_34 ?_
    refine zM_ref 2 3 hp (by decide) rfl (by decide) rfl rfl zf_X7_16 dX7_undo_35 ?_
    refine z_sipush (nI 607) dX7_undo_38 rfl ?_
    refine z_aload_n 0 rfl rfl dX7_undo_41 ?_
    refine zM_int 3 hp (by decide) rfl rfl rfl zf_X7_31 dX7_undo_42 ?_
    rw [show sUndoS S m 0 3 = nI m from suS_eq]
    refine z_imulN dX7_undo_45 ?_
    refine z_iload_n 1 rfl rfl dX7_undo_46 ?_
    refine z_iaddN dX7_undo_47 ?_
    refine zM_ald 3 2428 hp (by decide) (by decide) rfl (by decide) (by omega) dX7_undo_48 ?_
    rw [show sUndoS S m 3 (607 * m + i) = (fun k => S 3 (607 * m + k)) i from suS_ne (by omega)]
    refine zM_vst hp (by omega) dX7_undo_49 (fun mm hp => ?_)
    rw [zBr_s] at hp
    refine z_iincN (n := 1) 1 rfl rfl dX7_undo_50 ?_
    refine z_goto 22 dX7_undo_53 rfl ?_
    exact ih hl _ hp
set_option maxRecDepth 4000 in
theorem c_X7_undo {l : Launch} {G : zG} {A : Nat → Nat} {m0 mm : zM} {v : Nat → Int32} {S : Nat → Nat → Int32} (hp : zMP G A m0 v S mm) (n : Nat) (hn : n ≤ 4) (hS : S 0 3 = nI n) : zSem l G (yX7_undo, cX7_undo, 2, (some .int)) 1 [.ref (A 0)] mm (some (.int (if n = 0 then -5 else nI (n - 1)))) (fun m' => zMP G A m0 (if n = 0 then v else sUndoV v S (n - 1)) (if n = 0 then S else sUndoS S (n - 1)) m') := by
  refine z_met [some (.ref (A 0)), none] rfl (zc1 (by rfl)) (Nat.le_of_ble_eq_true rfl) rfl ?_
  refine z_aload_n 0 rfl rfl dX7_undo_0 ?_
  refine zM_int 3 hp (by decide) rfl rfl rfl zf_X7_31 dX7_undo_1 ?_
  rw [hS]
  refine z_if_ne 10 dX7_undo_4 rfl (fun c4 => ?_) (fun c4 => ?_)
  · have h0 : n ≠ 0 := fun q => c4 (by rw [q]; rfl)
    rw [if_neg h0, if_neg h0, if_neg h0]
    refine z_aload_n 0 rfl rfl dX7_undo_10 ?_
    refine z_dup dX7_undo_11 rfl ?_
    refine zM_int 3 hp (by decide) rfl rfl rfl zf_X7_31 dX7_undo_12 ?_
    rw [hS]
    refine z_iconst (nI 1) dX7_undo_15 rfl ?_
    refine z_isubN (by omega) dX7_undo_16 ?_
    refine zM_put 3 hp (by decide) rfl rfl rfl rfl rfl rfl rfl zf_X7_31 dX7_undo_17 (fun mm hp => ?_)
    refine z_iconst (nI 0) dX7_undo_20 rfl ?_
    refine z_istore_n 1 rfl (Nat.le_of_ble_eq_true rfl) rfl dX7_undo_21 ?_
    exact l_X7_undo (n - 1) (by omega) 0 (by omega) _ (by rw [zBr_0]; exact hp)
  · have h0 : n = 0 := (nI_eq (by omega) (by omega)).mp c4
    rw [if_pos h0, if_pos h0, if_pos h0]
    refine z_bipush (-5) dX7_undo_7 (by decide) ?_
    exact z_iret dX7_undo_9 rfl hp
set_option maxRecDepth 4000 in
theorem l_X7_keep {l : Launch} {G : zG} {A : Nat → Nat} {m0 : zM} {v : Nat → Int32} {S : Nat → Nat → Int32} : ∀ i, i ≤ 607 → ∀ (mm : zM) (hp : zMP G A m0 v (zKp v S i) mm), zV l G (yX7_keep, cX7_keep, 2, (some .int)) 1 (some (.int (v 0))) (fun m' => zMP G A m0 v (suS (zKp v S 607) 0 5 (nI 1)) m') 2 [some (.ref (A 0)), some (.int (nI i))] [] mm := by
  refine z_loop (607) (fun i hi ih mm hp => ?_)
  refine z_iload_n 1 rfl rfl dX7_keep_2 ?_
  refine z_sipush (nI 607) dX7_keep_3 rfl ?_
  refine z_icmp_ge 27 dX7_keep_6 rfl (fun c6 => ?_) (fun c6 => ?_)
  · have e : i = 607 := by have := (nI_leI (by omega) (by omega)).mp c6; omega
    subst e
    refine z_aload_n 0 rfl rfl dX7_keep_27 ?_
    refine z_iconst (nI 1) dX7_keep_28 rfl ?_
    refine zM_put 5 hp (by decide) rfl rfl rfl rfl rfl rfl rfl zf_X7_192 dX7_keep_29 (fun mm hp => ?_)
    refine z_aload_n 0 rfl rfl dX7_keep_32 ?_
    refine zM_ref 0 1 hp (by decide) rfl (by decide) rfl rfl zf_X7_7 dX7_keep_33 ?_
    refine z_iconst (nI 0) dX7_keep_36 rfl ?_
    refine zM_vld hp (by omega) dX7_keep_37 ?_
    exact z_iret dX7_keep_38 rfl hp
  · have hl : i < 607 := Nat.lt_of_not_le (fun q => c6 ((nI_leI (by omega) (by omega)).mpr (by omega)))
    refine z_aload_n 0 rfl rfl dX7_keep_9 ?_
    refine zM_ref 4 4 hp (by decide) rfl (by decide) rfl rfl zf_X7_19 dX7_keep_10 ?_
    refine z_iload_n 1 rfl rfl dX7_keep_13 ?_
    refine z_aload_n 0 rfl rfl dX7_keep_14 ?_
    refine zM_ref 0 1 hp (by decide) rfl (by decide) rfl rfl zf_X7_7 dX7_keep_15 ?_
    refine z_iload_n 1 rfl rfl dX7_keep_18 ?_
    refine zM_vld hp (by omega) dX7_keep_19 ?_
    refine zM_ast 4 607 hp (by decide) (by decide) rfl (by decide) (by omega) dX7_keep_20 (fun mm hp => ?_)
    rw [zKp_s] at hp
    refine z_iincN (n := 1) 1 rfl rfl dX7_keep_21 ?_
    refine z_goto 2 dX7_keep_24 rfl ?_
    exact ih hl _ hp
set_option maxRecDepth 4000 in
theorem c_X7_keep {l : Launch} {G : zG} {A : Nat → Nat} {m0 mm : zM} {v : Nat → Int32} {S : Nat → Nat → Int32} (hp : zMP G A m0 v S mm) : zSem l G (yX7_keep, cX7_keep, 2, (some .int)) 1 [.ref (A 0)] mm (some (.int (v 0))) (fun m' => zMP G A m0 (v) (suS (zKp v S 607) 0 5 (nI 1)) m') := by
  refine z_met [some (.ref (A 0)), none] rfl (zc1 (by rfl)) (Nat.le_of_ble_eq_true rfl) rfl ?_
  refine z_iconst (nI 0) dX7_keep_0 rfl ?_
  refine z_istore_n 1 rfl (Nat.le_of_ble_eq_true rfl) rfl dX7_keep_1 ?_
  exact l_X7_keep 0 (by omega) _ (by rw [zKp_0]; exact hp)
set_option maxRecDepth 4000 in
theorem l_X7_restore {l : Launch} {G : zG} {A : Nat → Nat} {m0 : zM} {v : Nat → Int32} {S : Nat → Nat → Int32} : ∀ i, i ≤ 607 → ∀ (mm : zM) (hp : zMP G A m0 (zBr v (S 4) i) S mm), zV l G (yX7_restore, cX7_restore, 2, (some .int)) 2 (some (.int (S 4 0))) (fun m' => zMP G A m0 (zBr v (S 4) 607) S m') 16 [some (.ref (A 0)), some (.int (nI i))] [] mm := by
  refine z_loop (607) (fun i hi ih mm hp => ?_)
  refine z_iload_n 1 rfl rfl dX7_restore_16 ?_
  refine z_sipush (nI 607) dX7_restore_17 rfl ?_
  refine z_icmp_ge 41 dX7_restore_20 rfl (fun c20 => ?_) (fun c20 => ?_)
  · have e : i = 607 := by have := (nI_leI (by omega) (by omega)).mp c20; omega
    subst e
    refine z_aload_n 0 rfl rfl dX7_restore_41 ?_
    refine zM_ref 0 1 hp (by decide) rfl (by decide) rfl rfl zf_X7_7 dX7_restore_42 ?_
    refine z_iconst (nI 0) dX7_restore_45 rfl ?_
    refine zM_vld hp (by omega) dX7_restore_46 ?_
    exact z_iret dX7_restore_47 (by unfold zBr; rw [if_pos (by decide)]) hp
  · have hl : i < 607 := Nat.lt_of_not_le (fun q => c20 ((nI_leI (by omega) (by omega)).mpr (by omega)))
    refine z_aload_n 0 rfl rfl dX7_restore_23 ?_
    refine zM_ref 0 1 hp (by decide) rfl (by decide) rfl rfl zf_X7_7 dX7_restore_24 ?_
    refine z_iload_n 1 rfl rfl dX7_restore_27 ?_
    refine z_aload_n 0 rfl rfl dX7_restore_28 ?_
    refine zM_ref 4 4 hp (by decide) rfl (by decide) rfl rfl zf_X7_19 dX7_restore_29 ?_
    refine z_iload_n 1 rfl rfl dX7_restore_32 ?_
    refine zM_ald 4 607 hp (by decide) (by decide) rfl (by decide) (by omega) dX7_restore_33 ?_
    refine zM_vst hp (by omega) dX7_restore_34 (fun mm hp => ?_)
    rw [zBr_s] at hp
    refine z_iincN (n := 1) 1 rfl rfl dX7_restore_35 ?_
    refine z_goto 16 dX7_restore_38 rfl ?_
    exact ih hl _ hp
set_option maxRecDepth 4000 in
theorem c_X7_restore {l : Launch} {G : zG} {A : Nat → Nat} {m0 mm : zM} {v : Nat → Int32} {S : Nat → Nat → Int32} (hp : zMP G A m0 v S mm) (n : Nat) (hn : n ≤ 4) (hS : S 0 3 = nI n) : zSem l G (yX7_restore, cX7_restore, 2, (some .int)) 2 [.ref (A 0)] mm (some (.int (if S 0 5 = 0 then -5 else S 4 0))) (fun m' => zMP G A m0 (if S 0 5 = 0 then v else zBr v (S 4) 607) (if S 0 5 = 0 then S else sRec v S n) m') := by
  refine z_met [some (.ref (A 0)), none] rfl (zc1 (by rfl)) (Nat.le_of_ble_eq_true rfl) rfl ?_
  refine z_aload_n 0 rfl rfl dX7_restore_0 ?_
  refine zM_int 5 hp (by decide) rfl rfl rfl zf_X7_192 dX7_restore_1 ?_
  refine z_if_ne 10 dX7_restore_4 rfl (fun c4 => ?_) (fun c4 => ?_)
  · rw [if_neg c4, if_neg c4, if_neg c4]
    have e4 : sRec v S n 4 = S 4 := by funext k; exact sRec_ne (by decide) (by omega)
    refine z_aload_n 0 rfl rfl dX7_restore_10 ?_
    refine zM_v0 zm_X7_record (c_X7_record hp n hn hS) hp rfl rfl zl_X7_124 (by decide) (Nat.le_of_ble_eq_true rfl) dX7_restore_11 (fun mm hp => ?_)
    refine z_iconst (nI 0) dX7_restore_14 rfl ?_
    refine z_istore_n 1 rfl (Nat.le_of_ble_eq_true rfl) rfl dX7_restore_15 ?_
    rw [← e4]
    exact l_X7_restore 0 (by omega) _ (by rw [zBr_0]; exact hp)
  · rw [if_pos c4, if_pos c4, if_pos c4]
    refine z_bipush (-5) dX7_restore_7 (by decide) ?_
    exact z_iret dX7_restore_9 rfl hp
set_option maxRecDepth 4000 in
theorem c_X7_type {l : Launch} {G : zG} {A : Nat → Nat} {m0 mm : zM} {v : Nat → Int32} {S : Nat → Nat → Int32} (hp : zMP G A m0 v S mm) (x : Int32) (t : Nat) (ht : t ≤ 60) (hL : S 0 7 = nI t) : zSem l G (yX7_type, cX7_type, 2, (some .int)) 1 [.ref (A 0), .int x] mm (some (.int (if t = 60 then -3 else nI (t + 1)))) (fun m' => zMP G A m0 (v) (if t = 60 then S else suS (suS S 5 t x) 0 7 (nI (t + 1))) m') := by
  refine z_met [some (.ref (A 0)), some (.int x)] rfl (zc1 (by rfl)) (Nat.le_of_ble_eq_true rfl) rfl ?_
  refine z_aload_n 0 rfl rfl dX7_type_0 ?_
  refine zM_int 7 hp (by decide) rfl rfl rfl zf_X7_158 dX7_type_1 ?_
  rw [hL]
  refine z_bipush (nI 60) dX7_type_4 rfl ?_
  refine z_icmp_ne 12 dX7_type_6 rfl (fun c6 => ?_) (fun c6 => ?_)
  · have h0 : t ≠ 60 := fun q => c6 (by rw [q])
    rw [if_neg h0, if_neg h0]
    refine z_aload_n 0 rfl rfl dX7_type_12 ?_
    refine zM_ref 6 5 hp (by decide) rfl (by decide) rfl rfl zf_X7_22 dX7_type_13 ?_
    refine z_aload_n 0 rfl rfl dX7_type_16 ?_
    refine zM_int 7 hp (by decide) rfl rfl rfl zf_X7_158 dX7_type_17 ?_
    rw [hL]
    refine z_iload_n 1 rfl rfl dX7_type_20 ?_
    refine zM_ast 5 60 hp (by decide) (by decide) rfl (by decide) (by omega) dX7_type_21 (fun mm hp => ?_)
    refine z_aload_n 0 rfl rfl dX7_type_22 ?_
    refine z_dup dX7_type_23 rfl ?_
    refine zM_int 7 hp (by decide) rfl rfl rfl zf_X7_158 dX7_type_24 ?_
    rw [show suS S 5 t x 0 7 = nI t from (suS_ne (by omega)).trans hL]
    refine z_iconst (nI 1) dX7_type_27 rfl ?_
    refine z_iaddN dX7_type_28 ?_
    refine zM_put 7 hp (by decide) rfl rfl rfl rfl rfl rfl rfl zf_X7_158 dX7_type_29 (fun mm hp => ?_)
    refine z_aload_n 0 rfl rfl dX7_type_32 ?_
    refine zM_int 7 hp (by decide) rfl rfl rfl zf_X7_158 dX7_type_33 ?_
    rw [suS_eq]
    exact z_iret dX7_type_36 rfl hp
  · have h0 : t = 60 := (nI_eq (by omega) (by omega)).mp c6
    rw [if_pos h0, if_pos h0]
    refine z_bipush (-3) dX7_type_9 (by decide) ?_
    exact z_iret dX7_type_11 rfl hp
set_option maxRecDepth 4000 in
theorem c_X7_clearText {l : Launch} {G : zG} {A : Nat → Nat} {m0 mm : zM} {v : Nat → Int32} {S : Nat → Nat → Int32} (hp : zMP G A m0 v S mm) : zSem l G (yX7_clearText, cX7_clearText, 2, (some .int)) 1 [.ref (A 0)] mm (some (.int (S 0 7))) (fun m' => zMP G A m0 (v) (suS S 0 7 (nI 0)) m') := by
  refine z_met [some (.ref (A 0)), none] rfl (zc1 (by rfl)) (Nat.le_of_ble_eq_true rfl) rfl ?_
  refine z_aload_n 0 rfl rfl dX7_clearText_0 ?_
  refine zM_int 7 hp (by decide) rfl rfl rfl zf_X7_158 dX7_clearText_1 ?_
  refine z_istore_n 1 rfl (Nat.le_of_ble_eq_true rfl) rfl dX7_clearText_4 ?_
  refine z_aload_n 0 rfl rfl dX7_clearText_5 ?_
  refine z_iconst (nI 0) dX7_clearText_6 rfl ?_
  refine zM_put 7 hp (by decide) rfl rfl rfl rfl rfl rfl rfl zf_X7_158 dX7_clearText_7 (fun mm hp => ?_)
  refine z_iload_n 1 rfl rfl dX7_clearText_10 ?_
  exact z_iret dX7_clearText_11 rfl hp
def sDateW (v : Nat → Int32) (d w : Nat) : Int32 := match w with
  | 5 => if sOpen v d = true then sLeft v d else nI 0
  | 6 => nI (sOut v d)
  | 7 => nI (sOf v d (nI 2) (nI 2))
  | 8 => nI (sOf v d (nI 1) (nI 1))
  | 9 => sPrice v d (sLeft v d)
  | 10 => sCan v d
  | 11 => if sOpen v d = true then nI (sStage v d) else -5
  | 12 => v (27 + 12 * d + 5)
  | 13 => match sLow v d (nI 1) 4 (nR v) with
    | none => -5
    | some r => v (147 + 7 * r + 4)
  | w => v (27 + 12 * d + w)
def sDate (v : Nat → Int32) (x w : Int32) : Int32 := if zIn x (nI 0) (v 1 - nI 1) = true then (if zIn w (nI 0) (nI 13) = true then sDateW v (zn x) (zn w) else -2) else -1
def sWait (v : Nat → Int32) (x w : Int32) : Int32 := if zIn x (nI 0) (v 1 - nI 1) = true then (if 0 ≤ w then (if w < v (27 + 12 * zn x + 5) then v (27 + 12 * zn x + (6 + zn w)) else -5) else -2) else -1
def sRight (v : Nat → Int32) (x w : Int32) : Int32 := if zIn x (nI 0) (v 2 - nI 1) = true then (if zIn w (nI 0) (nI 8) = true then (if zn w < 7 then v (147 + 7 * zn x + zn w) else if zn w = 8 then zB (sEx v (zn x) (zn (v (147 + 7 * zn x + 0)))) else if v (147 + 7 * zn x + 3) < nI 2 then sRef v (zn x) (zn (v (147 + 7 * zn x + 0))) else -5) else -2) else -1
def sStg (v : Nat → Int32) (x w : Int32) : Int32 := if zIn x (nI 0) (nI 3) = true then (if zIn w (nI 0) (nI 1) = true then v (9 + 2 * zn x + zn w) else -2) else -1
def sPin (v : Nat → Int32) (x w : Int32) : Int32 := if zIn x (nI 0) (v 1 - nI 1) = true then (if zIn w (nI 0) (nI 60) = true then (if sLeft v (zn x) - w ≤ 0 then -5 else sPrice v (zn x) (sLeft v (zn x) - w)) else -2) else -1
def sWc (v : Nat → Int32) (x : Int32) : Int32 × Bool := if zIn x (nI 0) (v 1 - nI 1) = true then (if v 3 < sLeft v (zn x) then ((sCov (zn x) (sOf v (zn x) (nI 0) (nI 1)) (nI 0) v).1, true) else (-5, false)) else (-1, false)
def sEv (v : Nat → Int32) (x w : Int32) : Int32 := if x < 0 then -2 else if zIn w (nI 0) (nI 3) = true then (if x < v 8 then v (567 + 4 * zn x + zn w) else -5) else -2
def sHa (v : Nat → Int32) (h : Nat) : Nat → Nat
  | 0 => 0
  | n + 1 => sHa v h n + if v (147 + 7 * n + 1) = nI h ∧ v (147 + 7 * n + 3) < nI 2 then 1 else 0
def sHe (v : Nat → Int32) (h : Nat) : Nat → Nat
  | 0 => 0
  | n + 1 => sHe v h n + if v (147 + 7 * n + 1) = nI h ∧ v (147 + 7 * n + 3) = nI 2 then 1 else 0
def sHl (v : Nat → Int32) (h : Nat) : Nat → Nat
  | 0 => 0
  | n + 1 => sHl v h n + if 0 ≤ sPl v n (nI h) (zn (v (27 + 12 * n + 5))) then 1 else 0
def sHoldW (v : Nat → Int32) (h w : Nat) : Int32 := match w with
  | 0 => v (17 + h) + 1000000000
  | 1 => nI (sHa v h (nR v))
  | 2 => nI (sHe v h (nR v))
  | _ => nI (sHl v h (nD v))
def sHold (v : Nat → Int32) (x w : Int32) : Int32 := if zIn x (nI 0) (nI 9) = true then (if zIn w (nI 0) (nI 3) = true then sHoldW v (zn x) (zn w) else -2) else -1
def sCs (v : Nat → Int32) (x : Int32) : Nat → Nat
  | 0 => 0
  | n + 1 => sCs v x n + if v (147 + 7 * n + 3) = x then 1 else 0
def sCountW (v : Nat → Int32) (S : Nat → Nat → Int32) (w : Nat) : Int32 := match w with
  | 0 => v 0
  | 1 => v 1
  | 2 => v 2
  | 9 => v 7 + 1000000000
  | 10 => v 3
  | 11 => v 4
  | 12 => v 5
  | 13 => v 6
  | 14 => S 0 3
  | 15 => S 0 7
  | w => nI (sCs v (nI w - nI 3) (nR v))
def sCount (v : Nat → Int32) (S : Nat → Nat → Int32) (w : Int32) : Int32 := if zIn w (nI 0) (nI 15) = true then sCountW v S (zn w) else -2
set_option maxRecDepth 4000 in
theorem c_X7_date {l : Launch} {G : zG} {A : Nat → Nat} {m0 mm : zM} {v : Nat → Int32} {S : Nat → Nat → Int32} (hp : zMP G A m0 v S mm) (x w : Int32) (h15 : v 15 = 0) (hK : zK v) : zSem l G (yX7_date, cX7_date, 4, (some .int)) 6 [.ref (A 0), .int x, .int w] mm (some (.int (sDate v x w))) (fun m' => m' = mm) := by
  have hJ := hK.2.1
  have hJ2 := hK.2.1.2
  have hD2 := hK.1.2
  refine z_met [some (.ref (A 0)), some (.int x), some (.int w), none] rfl (zc1 (by rfl)) (Nat.le_of_ble_eq_true rfl) rfl ?_
  refine z_aload_n 0 rfl rfl dX7_date_0 ?_
  refine z_iload_n 1 rfl rfl dX7_date_1 ?_
  refine zM_p1 zm_X7_isDate (c_X7_isDate hp _) hp rfl rfl zl_X7_93 (by decide) (Nat.le_of_ble_eq_true rfl) dX7_date_2 ?_
  refine z_if_neB 10 dX7_date_5 rfl (fun c5 => ?_) (fun c5 => ?_)
  · obtain ⟨d, hd, rfl⟩ := zDt hK c5
    have znd := zn_nI (show d < 2 ^ 31 by omega)
    have hpl := hK.2.2.2.1 d hd
    refine z_aload_n 0 rfl rfl dX7_date_10 ?_
    refine z_iload_n 1 rfl rfl dX7_date_11 ?_
    refine z_iconst (nI 1) dX7_date_12 rfl ?_
    refine z_iconst (nI 4) dX7_date_13 rfl ?_
    refine zM_p3 zm_X7_lowest (c_X7_lowest hp _ _ _ (by omega) hJ) hp rfl rfl zl_X7_96 (by decide) (Nat.le_of_ble_eq_true rfl) dX7_date_14 ?_
    refine z_istore_n 3 rfl (Nat.le_of_ble_eq_true rfl) rfl dX7_date_17 ?_
    refine z_iload_n 2 rfl rfl dX7_date_18 ?_
    by_cases hx : zIn w (nI 0) (nI 13) = true
    · obtain ⟨j, hj, rfl⟩ := zIn_nI (by decide) hx
      rcases (by omega : j = 0 ∨ j = 1 ∨ j = 2 ∨ j = 3 ∨ j = 4 ∨ j = 5 ∨ j = 6 ∨ j = 7 ∨ j = 8 ∨ j = 9 ∨ j = 10 ∨ j = 11 ∨ j = 12 ∨ j = 13) with rfl | rfl | rfl | rfl | rfl | rfl | rfl | rfl | rfl | rfl | rfl | rfl | rfl | rfl
      · refine z_tableIn 88 dX7_date_19 (by decide) (by decide) rfl rfl ?_
        have e9 : sDate v (nI d) (nI 0) = sDateW v d 0 := by unfold sDate; rw [if_pos c5, if_pos hx, znd]; rfl
        refine z_aload_n 0 rfl rfl dX7_date_88 ?_
        refine z_iload_n 1 rfl rfl dX7_date_89 ?_
        refine z_iload_n 2 rfl rfl dX7_date_90 ?_
        refine zM_p2 zm_X7_ofDate (c_X7_ofDate hp _ _ (by omega) (by omega)) hp rfl rfl zl_X7_46 (by decide) (Nat.le_of_ble_eq_true rfl) dX7_date_91 ?_
        exact z_iret dX7_date_94 (by rw [e9]; try rfl) rfl
      · refine z_tableIn 88 dX7_date_19 (by decide) (by decide) rfl rfl ?_
        have e9 : sDate v (nI d) (nI 1) = sDateW v d 1 := by unfold sDate; rw [if_pos c5, if_pos hx, znd]; rfl
        refine z_aload_n 0 rfl rfl dX7_date_88 ?_
        refine z_iload_n 1 rfl rfl dX7_date_89 ?_
        refine z_iload_n 2 rfl rfl dX7_date_90 ?_
        refine zM_p2 zm_X7_ofDate (c_X7_ofDate hp _ _ (by omega) (by omega)) hp rfl rfl zl_X7_46 (by decide) (Nat.le_of_ble_eq_true rfl) dX7_date_91 ?_
        exact z_iret dX7_date_94 (by rw [e9]; try rfl) rfl
      · refine z_tableIn 88 dX7_date_19 (by decide) (by decide) rfl rfl ?_
        have e9 : sDate v (nI d) (nI 2) = sDateW v d 2 := by unfold sDate; rw [if_pos c5, if_pos hx, znd]; rfl
        refine z_aload_n 0 rfl rfl dX7_date_88 ?_
        refine z_iload_n 1 rfl rfl dX7_date_89 ?_
        refine z_iload_n 2 rfl rfl dX7_date_90 ?_
        refine zM_p2 zm_X7_ofDate (c_X7_ofDate hp _ _ (by omega) (by omega)) hp rfl rfl zl_X7_46 (by decide) (Nat.le_of_ble_eq_true rfl) dX7_date_91 ?_
        exact z_iret dX7_date_94 (by rw [e9]; try rfl) rfl
      · refine z_tableIn 88 dX7_date_19 (by decide) (by decide) rfl rfl ?_
        have e9 : sDate v (nI d) (nI 3) = sDateW v d 3 := by unfold sDate; rw [if_pos c5, if_pos hx, znd]; rfl
        refine z_aload_n 0 rfl rfl dX7_date_88 ?_
        refine z_iload_n 1 rfl rfl dX7_date_89 ?_
        refine z_iload_n 2 rfl rfl dX7_date_90 ?_
        refine zM_p2 zm_X7_ofDate (c_X7_ofDate hp _ _ (by omega) (by omega)) hp rfl rfl zl_X7_46 (by decide) (Nat.le_of_ble_eq_true rfl) dX7_date_91 ?_
        exact z_iret dX7_date_94 (by rw [e9]; try rfl) rfl
      · refine z_tableIn 88 dX7_date_19 (by decide) (by decide) rfl rfl ?_
        have e9 : sDate v (nI d) (nI 4) = sDateW v d 4 := by unfold sDate; rw [if_pos c5, if_pos hx, znd]; rfl
        refine z_aload_n 0 rfl rfl dX7_date_88 ?_
        refine z_iload_n 1 rfl rfl dX7_date_89 ?_
        refine z_iload_n 2 rfl rfl dX7_date_90 ?_
        refine zM_p2 zm_X7_ofDate (c_X7_ofDate hp _ _ (by omega) (by omega)) hp rfl rfl zl_X7_46 (by decide) (Nat.le_of_ble_eq_true rfl) dX7_date_91 ?_
        exact z_iret dX7_date_94 (by rw [e9]; try rfl) rfl
      · refine z_tableIn 95 dX7_date_19 (by decide) (by decide) rfl rfl ?_
        have e9 : sDate v (nI d) (nI 5) = sDateW v d 5 := by unfold sDate; rw [if_pos c5, if_pos hx, znd]; rfl
        refine z_aload_n 0 rfl rfl dX7_date_95 ?_
        refine z_iload_n 1 rfl rfl dX7_date_96 ?_
        refine zM_p1 zm_X7_isOpen (c_X7_isOpen hp _ (by omega)) hp rfl rfl zl_X7_63 (by decide) (Nat.le_of_ble_eq_true rfl) dX7_date_97 ?_
        refine z_if_eqB 111 dX7_date_100 rfl (fun c100 => ?_) (fun c100 => ?_)
        · refine z_iconst (nI 0) dX7_date_111 rfl ?_
          have e8 : sDateW v d 5 = if sOpen v d = true then sLeft v d else nI 0 := rfl
          rw [e8, c100] at e9
          exact z_iret dX7_date_112 (by rw [e9]; try rfl) rfl
        · refine z_aload_n 0 rfl rfl dX7_date_103 ?_
          refine z_iload_n 1 rfl rfl dX7_date_104 ?_
          refine zM_p1 zm_X7_daysLeft (c_X7_daysLeft hp _ (by omega)) hp rfl rfl zl_X7_49 (by decide) (Nat.le_of_ble_eq_true rfl) dX7_date_105 ?_
          refine z_goto 112 dX7_date_108 rfl ?_
          have e8 : sDateW v d 5 = if sOpen v d = true then sLeft v d else nI 0 := rfl
          rw [e8, c100] at e9
          exact z_iret dX7_date_112 (by rw [e9]; try rfl) rfl
      · refine z_tableIn 113 dX7_date_19 (by decide) (by decide) rfl rfl ?_
        have e9 : sDate v (nI d) (nI 6) = sDateW v d 6 := by unfold sDate; rw [if_pos c5, if_pos hx, znd]; rfl
        refine z_aload_n 0 rfl rfl dX7_date_113 ?_
        refine z_iload_n 1 rfl rfl dX7_date_114 ?_
        refine zM_p1 zm_X7_out (c_X7_out hp _ hJ) hp rfl rfl zl_X7_60 (by decide) (Nat.le_of_ble_eq_true rfl) dX7_date_115 ?_
        exact z_iret dX7_date_118 (by rw [e9]; try rfl) rfl
      · refine z_tableIn 119 dX7_date_19 (by decide) (by decide) rfl rfl ?_
        have e9 : sDate v (nI d) (nI 7) = sDateW v d 7 := by unfold sDate; rw [if_pos c5, if_pos hx, znd]; rfl
        refine z_aload_n 0 rfl rfl dX7_date_119 ?_
        refine z_iload_n 1 rfl rfl dX7_date_120 ?_
        refine z_iconst (nI 2) dX7_date_121 rfl ?_
        refine z_iconst (nI 2) dX7_date_122 rfl ?_
        refine zM_p3 zm_X7_rightsOf (c_X7_rightsOf hp _ _ _ hJ) hp rfl rfl zl_X7_56 (by decide) (Nat.le_of_ble_eq_true rfl) dX7_date_123 ?_
        exact z_iret dX7_date_126 (by rw [e9]; try rfl) rfl
      · refine z_tableIn 127 dX7_date_19 (by decide) (by decide) rfl rfl ?_
        have e9 : sDate v (nI d) (nI 8) = sDateW v d 8 := by unfold sDate; rw [if_pos c5, if_pos hx, znd]; rfl
        refine z_aload_n 0 rfl rfl dX7_date_127 ?_
        refine z_iload_n 1 rfl rfl dX7_date_128 ?_
        refine z_iconst (nI 1) dX7_date_129 rfl ?_
        refine z_iconst (nI 1) dX7_date_130 rfl ?_
        refine zM_p3 zm_X7_rightsOf (c_X7_rightsOf hp _ _ _ hJ) hp rfl rfl zl_X7_56 (by decide) (Nat.le_of_ble_eq_true rfl) dX7_date_131 ?_
        exact z_iret dX7_date_134 (by rw [e9]; try rfl) rfl
      · refine z_tableIn 135 dX7_date_19 (by decide) (by decide) rfl rfl ?_
        have e9 : sDate v (nI d) (nI 9) = sDateW v d 9 := by unfold sDate; rw [if_pos c5, if_pos hx, znd]; rfl
        refine z_aload_n 0 rfl rfl dX7_date_135 ?_
        refine z_iload_n 1 rfl rfl dX7_date_136 ?_
        refine z_aload_n 0 rfl rfl dX7_date_137 ?_
        refine z_iload_n 1 rfl rfl dX7_date_138 ?_
        refine zM_p1 zm_X7_daysLeft (c_X7_daysLeft hp _ (by omega)) hp rfl rfl zl_X7_49 (by decide) (Nat.le_of_ble_eq_true rfl) dX7_date_139 ?_
        refine zM_p2 zm_X7_price (c_X7_price hp _ _ (by omega) hJ (by assumption)) hp rfl rfl zl_X7_67 (by decide) (Nat.le_of_ble_eq_true rfl) dX7_date_142 ?_
        exact z_iret dX7_date_145 (by rw [e9]; try rfl) rfl
      · refine z_tableIn 146 dX7_date_19 (by decide) (by decide) rfl rfl ?_
        have e9 : sDate v (nI d) (nI 10) = sDateW v d 10 := by unfold sDate; rw [if_pos c5, if_pos hx, znd]; rfl
        refine z_aload_n 0 rfl rfl dX7_date_146 ?_
        refine z_iload_n 1 rfl rfl dX7_date_147 ?_
        refine zM_p1 zm_X7_canSell (c_X7_canSell hp _ (by omega) hJ) hp rfl rfl zl_X7_78 (by decide) (Nat.le_of_ble_eq_true rfl) dX7_date_148 ?_
        exact z_iret dX7_date_151 (by rw [e9]; try rfl) rfl
      · refine z_tableIn 152 dX7_date_19 (by decide) (by decide) rfl rfl ?_
        have e9 : sDate v (nI d) (nI 11) = sDateW v d 11 := by unfold sDate; rw [if_pos c5, if_pos hx, znd]; rfl
        refine z_aload_n 0 rfl rfl dX7_date_152 ?_
        refine z_iload_n 1 rfl rfl dX7_date_153 ?_
        refine zM_p1 zm_X7_isOpen (c_X7_isOpen hp _ (by omega)) hp rfl rfl zl_X7_63 (by decide) (Nat.le_of_ble_eq_true rfl) dX7_date_154 ?_
        refine z_if_eqB 168 dX7_date_157 rfl (fun c157 => ?_) (fun c157 => ?_)
        · refine z_bipush (-5) dX7_date_168 (by decide) ?_
          have e8 : sDateW v d 11 = if sOpen v d = true then nI (sStage v d) else -5 := rfl
          rw [e8, c157] at e9
          exact z_iret dX7_date_170 (by rw [e9]; try rfl) rfl
        · refine z_aload_n 0 rfl rfl dX7_date_160 ?_
          refine z_iload_n 1 rfl rfl dX7_date_161 ?_
          refine zM_p1 zm_X7_stageOf (c_X7_stageOf hp _ (by omega) (by rw [h15]; exact Int32.le_of_lt (of_decide_eq_true c157))) hp rfl rfl zl_X7_87 (by decide) (Nat.le_of_ble_eq_true rfl) dX7_date_162 ?_
          refine z_goto 170 dX7_date_165 rfl ?_
          have e8 : sDateW v d 11 = if sOpen v d = true then nI (sStage v d) else -5 := rfl
          rw [e8, c157] at e9
          exact z_iret dX7_date_170 (by rw [e9]; try rfl) rfl
      · refine z_tableIn 171 dX7_date_19 (by decide) (by decide) rfl rfl ?_
        have e9 : sDate v (nI d) (nI 12) = sDateW v d 12 := by unfold sDate; rw [if_pos c5, if_pos hx, znd]; rfl
        refine z_aload_n 0 rfl rfl dX7_date_171 ?_
        refine z_iload_n 1 rfl rfl dX7_date_172 ?_
        refine z_iconst (nI 5) dX7_date_173 rfl ?_
        refine zM_p2 zm_X7_ofDate (c_X7_ofDate hp _ _ (by omega) (by omega)) hp rfl rfl zl_X7_46 (by decide) (Nat.le_of_ble_eq_true rfl) dX7_date_174 ?_
        exact z_iret dX7_date_177 (by rw [e9]; try rfl) rfl
      · refine z_tableIn 178 dX7_date_19 (by decide) (by decide) rfl rfl ?_
        have e9 : sDate v (nI d) (nI 13) = sDateW v d 13 := by unfold sDate; rw [if_pos c5, if_pos hx, znd]; rfl
        refine z_iload_n 3 rfl rfl dX7_date_178 ?_
        refine z_if_ge 187 dX7_date_179 rfl (fun c179 => ?_) (fun c179 => ?_)
        · obtain ⟨r, ho⟩ := zO_nn c179
          have hr := sLow_lt ho
          have e8 : sDateW v d 13 = v (147 + 7 * r + 4) := by unfold sDateW; simp only [ho]
          rw [ho, zO_some]
          rw [e8] at e9
          refine z_aload_n 0 rfl rfl dX7_date_187 ?_
          refine z_iload_n 3 rfl rfl dX7_date_188 ?_
          refine z_iconst (nI 4) dX7_date_189 rfl ?_
          refine zM_p2 zm_X7_of (c_X7_of hp _ _ (by omega) (by omega)) hp rfl rfl zl_X7_53 (by decide) (Nat.le_of_ble_eq_true rfl) dX7_date_190 ?_
          exact z_iret dX7_date_193 (by rw [e9]; try rfl) rfl
        · have ho := zO_nn' (fun r q => by have := sLow_lt q; omega) c179
          have e8 : sDateW v d 13 = -5 := by unfold sDateW; simp only [ho]
          rw [e8] at e9
          refine z_bipush (-5) dX7_date_182 (by decide) ?_
          refine z_goto 193 dX7_date_184 rfl ?_
          exact z_iret dX7_date_193 (by rw [e9]; try rfl) rfl
    · refine z_tableOut 194 dX7_date_19 (zIn_out (by decide) (by simpa using hx)) rfl ?_
      have e9 : sDate v (nI d) w = -2 := by unfold sDate; rw [if_pos c5, if_neg hx]
      refine z_bipush (-2) dX7_date_194 (by decide) ?_
      exact z_iret dX7_date_196 (by rw [e9]; try rfl) rfl
  · refine z_iconst (-1) dX7_date_8 (by decide) ?_
    have e9 : sDate v x w = -1 := by simp only [sDate, c5, and_self, and_true, true_and, and_false, false_and, reduceIte, Bool.false_eq_true, reduceCtorEq]
    exact z_iret dX7_date_9 (by rw [e9]; try rfl) rfl
set_option maxRecDepth 4000 in
theorem c_X7_waiting {l : Launch} {G : zG} {A : Nat → Nat} {m0 mm : zM} {v : Nat → Int32} {S : Nat → Nat → Int32} (hp : zMP G A m0 v S mm) (x w : Int32) (hK : zK v) : zSem l G (yX7_waiting, cX7_waiting, 3, (some .int)) 3 [.ref (A 0), .int x, .int w] mm (some (.int (sWait v x w))) (fun m' => m' = mm) := by
  have hJ := hK.2.1
  have hJ2 := hK.2.1.2
  have hD2 := hK.1.2
  refine z_met [some (.ref (A 0)), some (.int x), some (.int w)] rfl (zc1 (by rfl)) (Nat.le_of_ble_eq_true rfl) rfl ?_
  refine z_aload_n 0 rfl rfl dX7_waiting_0 ?_
  refine z_iload_n 1 rfl rfl dX7_waiting_1 ?_
  refine zM_p1 zm_X7_isDate (c_X7_isDate hp _) hp rfl rfl zl_X7_93 (by decide) (Nat.le_of_ble_eq_true rfl) dX7_waiting_2 ?_
  refine z_if_neB 10 dX7_waiting_5 rfl (fun c5 => ?_) (fun c5 => ?_)
  · obtain ⟨d, hd, rfl⟩ := zDt hK c5
    have znd := zn_nI (show d < 2 ^ 31 by omega)
    have hpl := hK.2.2.2.1 d hd
    refine z_iload_n 2 rfl rfl dX7_waiting_10 ?_
    refine z_if_ge 17 dX7_waiting_11 rfl (fun c11 => ?_) (fun c11 => ?_)
    · obtain ⟨k, hk31, rfl⟩ := nI_of (i_not_lt.mpr c11)
      obtain ⟨n, hn, h5, -⟩ := hK.2.2.1 d (by omega)
      refine z_iload_n 2 rfl rfl dX7_waiting_17 ?_
      refine z_aload_n 0 rfl rfl dX7_waiting_18 ?_
      refine z_iload_n 1 rfl rfl dX7_waiting_19 ?_
      refine z_iconst (nI 5) dX7_waiting_20 rfl ?_
      refine zM_p2 zm_X7_ofDate (c_X7_ofDate hp _ _ (by omega) (by omega)) hp rfl rfl zl_X7_46 (by decide) (Nat.le_of_ble_eq_true rfl) dX7_waiting_21 ?_
      rw [h5]
      refine z_icmp_ge 39 dX7_waiting_24 rfl (fun c24 => ?_) (fun c24 => ?_)
      · have e9 : sWait v (nI d) (nI k) = -5 := by unfold sWait; rw [if_pos c5, if_pos c11, znd, h5, if_neg (i_not_lt.mpr c24)]
        refine z_bipush (-5) dX7_waiting_39 (by decide) ?_
        exact z_iret dX7_waiting_41 (by rw [e9]) rfl
      · have hkn : k < n := Nat.lt_of_not_le (fun q => c24 ((nI_leI (by omega) (by omega)).mpr q))
        have e9 : sWait v (nI d) (nI k) = v (27 + 12 * d + (6 + k)) := by unfold sWait; rw [if_pos c5, if_pos c11, znd, h5, if_pos (i_not_le.mp c24), zn_nI hk31]
        refine z_aload_n 0 rfl rfl dX7_waiting_27 ?_
        refine z_iload_n 1 rfl rfl dX7_waiting_28 ?_
        refine z_bipush (nI 6) dX7_waiting_29 rfl ?_
        refine z_iload_n 2 rfl rfl dX7_waiting_31 ?_
        refine z_iaddN dX7_waiting_32 ?_
        refine zM_p2 zm_X7_ofDate (c_X7_ofDate hp _ _ (by omega) (by omega)) hp rfl rfl zl_X7_46 (by decide) (Nat.le_of_ble_eq_true rfl) dX7_waiting_33 ?_
        refine z_goto 41 dX7_waiting_36 rfl ?_
        exact z_iret dX7_waiting_41 (by rw [e9]) rfl
    · refine z_bipush (-2) dX7_waiting_14 (by decide) ?_
      have e9 : sWait v (nI d) w = -2 := by unfold sWait; rw [if_pos c5, if_neg c11]
      exact z_iret dX7_waiting_16 (by rw [e9]) rfl
  · refine z_iconst (-1) dX7_waiting_8 (by decide) ?_
    have e9 : sWait v x w = -1 := by simp only [sWait, c5, and_self, and_true, true_and, and_false, false_and, reduceIte, Bool.false_eq_true, reduceCtorEq]
    exact z_iret dX7_waiting_9 (by rw [e9]) rfl
set_option maxRecDepth 4000 in
theorem c_X7_right {l : Launch} {G : zG} {A : Nat → Nat} {m0 mm : zM} {v : Nat → Int32} {S : Nat → Nat → Int32} (hp : zMP G A m0 v S mm) (x w : Int32) (h15 : v 15 = 0) (hO : zOpn v) (hK : zK v) : zSem l G (yX7_right, cX7_right, 3, (some .int)) 6 [.ref (A 0), .int x, .int w] mm (some (.int (sRight v x w))) (fun m' => m' = mm) := by
  have hJ := hK.2.1
  have hJ2 := hK.2.1.2
  have hD2 := hK.1.2
  refine z_met [some (.ref (A 0)), some (.int x), some (.int w)] rfl (zc1 (by rfl)) (Nat.le_of_ble_eq_true rfl) rfl ?_
  refine z_aload_n 0 rfl rfl dX7_right_0 ?_
  refine z_iload_n 1 rfl rfl dX7_right_1 ?_
  refine zM_p1 zm_X7_isRight (c_X7_isRight hp _) hp rfl rfl zl_X7_102 (by decide) (Nat.le_of_ble_eq_true rfl) dX7_right_2 ?_
  refine z_if_neB 10 dX7_right_5 rfl (fun c5 => ?_) (fun c5 => ?_)
  · obtain ⟨r, d, g, hr, rfl, hd, e0, hg, e1⟩ := zRt hK c5
    have znr := zn_nI (show r < 2 ^ 31 by omega)
    have znd := zn_nI (show d < 2 ^ 31 by omega)
    refine z_iload_n 2 rfl rfl dX7_right_10 ?_
    refine z_iconst (nI 0) dX7_right_11 rfl ?_
    refine z_bipush (nI 8) dX7_right_12 rfl ?_
    refine z_pS3 zm_X7_in (c_X7_in _ _ _) rfl zl_X7_35 (by decide) (Nat.le_of_ble_eq_true rfl) dX7_right_14 ?_
    refine z_if_neB 23 dX7_right_17 rfl (fun c17 => ?_) (fun c17 => ?_)
    · obtain ⟨k, hk, rfl⟩ := zIn_nI (by decide) c17
      have znk := zn_nI (show k < 2 ^ 31 by omega)
      have e9 : sRight v (nI r) (nI k) = (if k < 7 then v (147 + 7 * r + k) else if k = 8 then zB (sEx v r d) else if v (147 + 7 * r + 3) < nI 2 then sRef v r d else -5) := by unfold sRight; rw [if_pos c5, if_pos c17, znk, znr, e0, znd]
      refine z_iload_n 2 rfl rfl dX7_right_23 ?_
      refine z_bipush (nI 7) dX7_right_24 rfl ?_
      refine z_icmp_ge 38 dX7_right_26 rfl (fun c26 => ?_) (fun c26 => ?_)
      · have h7 : ¬ k < 7 := fun q => absurd (nI_lt q (by decide)) (i_not_lt.mpr c26)
        rw [if_neg h7] at e9
        refine z_iload_n 2 rfl rfl dX7_right_38 ?_
        refine z_bipush (nI 8) dX7_right_39 rfl ?_
        refine z_icmp_ne 60 dX7_right_41 rfl (fun c41 => ?_) (fun c41 => ?_)
        · have h8 : ¬ k = 8 := fun q => c41 (by rw [q])
          rw [if_neg h8] at e9
          refine z_aload_n 0 rfl rfl dX7_right_60 ?_
          refine z_iload_n 1 rfl rfl dX7_right_61 ?_
          refine zM_p1 zm_X7_isFree (c_X7_isFree hp _ (by omega)) hp rfl rfl zl_X7_105 (by decide) (Nat.le_of_ble_eq_true rfl) dX7_right_62 ?_
          refine z_if_eqB 76 dX7_right_65 rfl (fun c65 => ?_) (fun c65 => ?_)
          · rw [if_neg (of_decide_eq_false c65)] at e9
            refine z_bipush (-5) dX7_right_76 (by decide) ?_
            exact z_iret dX7_right_78 (by rw [e9]; try rfl) rfl
          · rw [if_pos (of_decide_eq_true c65)] at e9
            have hst : v 15 ≤ sLeft v d := by have := hO r hr (of_decide_eq_true c65); rwa [e0, znd] at this
            refine z_aload_n 0 rfl rfl dX7_right_68 ?_
            refine z_iload_n 1 rfl rfl dX7_right_69 ?_
            refine zM_p1 zm_X7_refund (c_X7_refund hp _ d (by omega) (by omega) e0 hst) hp rfl rfl zl_X7_108 (by decide) (Nat.le_of_ble_eq_true rfl) dX7_right_70 ?_
            refine z_goto 78 dX7_right_73 rfl ?_
            exact z_iret dX7_right_78 (by rw [e9]; try rfl) rfl
        · have h8 : k = 8 := (nI_eq (by omega) (by omega)).mp c41
          rw [if_pos h8] at e9
          refine z_aload_n 0 rfl rfl dX7_right_44 ?_
          refine z_iload_n 1 rfl rfl dX7_right_45 ?_
          refine zM_p1 zm_X7_canExercise (c_X7_canExercise hp _ d (by omega) (by omega) e0 hJ) hp rfl rfl zl_X7_115 (by decide) (Nat.le_of_ble_eq_true rfl) dX7_right_46 ?_
          refine z_if_eqB 56 dX7_right_49 rfl (fun c49 => ?_) (fun c49 => ?_)
          · rw [c49] at e9
            refine z_iconst (nI 0) dX7_right_56 rfl ?_
            refine z_goto 78 dX7_right_57 rfl ?_
            exact z_iret dX7_right_78 (by rw [e9]; try rfl) rfl
          · rw [c49] at e9
            refine z_iconst (nI 1) dX7_right_52 rfl ?_
            refine z_goto 78 dX7_right_53 rfl ?_
            exact z_iret dX7_right_78 (by rw [e9]; try rfl) rfl
      · have h7 : k < 7 := Nat.lt_of_not_le (fun q => c26 ((nI_leI (by omega) (by omega)).mpr q))
        rw [if_pos h7] at e9
        refine z_aload_n 0 rfl rfl dX7_right_29 ?_
        refine z_iload_n 1 rfl rfl dX7_right_30 ?_
        refine z_iload_n 2 rfl rfl dX7_right_31 ?_
        refine zM_p2 zm_X7_of (c_X7_of hp _ _ (by omega) (by omega)) hp rfl rfl zl_X7_53 (by decide) (Nat.le_of_ble_eq_true rfl) dX7_right_32 ?_
        refine z_goto 78 dX7_right_35 rfl ?_
        exact z_iret dX7_right_78 (by rw [e9]; try rfl) rfl
    · refine z_bipush (-2) dX7_right_20 (by decide) ?_
      have e9 : sRight v (nI r) w = -2 := by unfold sRight; rw [if_pos c5, if_neg (by rw [c17]; decide)]
      exact z_iret dX7_right_22 (by rw [e9]; try rfl) rfl
  · refine z_iconst (-1) dX7_right_8 (by decide) ?_
    have e9 : sRight v x w = -1 := by simp only [sRight, c5, and_self, and_true, true_and, and_false, false_and, reduceIte, Bool.false_eq_true, reduceCtorEq]
    exact z_iret dX7_right_9 (by rw [e9]; try rfl) rfl
set_option maxRecDepth 4000 in
theorem c_X7_stage {l : Launch} {G : zG} {A : Nat → Nat} {m0 mm : zM} {v : Nat → Int32} {S : Nat → Nat → Int32} (hp : zMP G A m0 v S mm) (x w : Int32) (hK : zK v) : zSem l G (yX7_stage, cX7_stage, 3, (some .int)) 2 [.ref (A 0), .int x, .int w] mm (some (.int (sStg v x w))) (fun m' => m' = mm) := by
  have hJ := hK.2.1
  have hJ2 := hK.2.1.2
  have hD2 := hK.1.2
  refine z_met [some (.ref (A 0)), some (.int x), some (.int w)] rfl (zc1 (by rfl)) (Nat.le_of_ble_eq_true rfl) rfl ?_
  refine z_iload_n 1 rfl rfl dX7_stage_0 ?_
  refine z_iconst (nI 0) dX7_stage_1 rfl ?_
  refine z_iconst (nI 3) dX7_stage_2 rfl ?_
  refine z_pS3 zm_X7_in (c_X7_in _ _ _) rfl zl_X7_35 (by decide) (Nat.le_of_ble_eq_true rfl) dX7_stage_3 ?_
  refine z_if_neB 11 dX7_stage_6 rfl (fun c6 => ?_) (fun c6 => ?_)
  · obtain ⟨k, hk, rfl⟩ := zIn_nI (by decide) c6
    have znk := zn_nI (show k < 2 ^ 31 by omega)
    refine z_iload_n 2 rfl rfl dX7_stage_11 ?_
    refine z_iconst (nI 0) dX7_stage_12 rfl ?_
    refine z_iconst (nI 1) dX7_stage_13 rfl ?_
    refine z_pS3 zm_X7_in (c_X7_in _ _ _) rfl zl_X7_35 (by decide) (Nat.le_of_ble_eq_true rfl) dX7_stage_14 ?_
    refine z_if_eqB 36 dX7_stage_17 rfl (fun c17 => ?_) (fun c17 => ?_)
    · have e9 : sStg v (nI k) w = -2 := by simp only [sStg, c6, c17, and_self, and_true, true_and, and_false, false_and, reduceIte, Bool.false_eq_true, reduceCtorEq]
      refine z_bipush (-2) dX7_stage_36 (by decide) ?_
      exact z_iret dX7_stage_38 (by rw [e9]) rfl
    · obtain ⟨j, hj, rfl⟩ := zIn_nI (by decide) c17
      have znj := zn_nI (show j < 2 ^ 31 by omega)
      have e9 : sStg v (nI k) (nI j) = v (9 + 2 * k + j) := by simp only [sStg, c6, c17, znk, znj, and_self, and_true, true_and, and_false, false_and, reduceIte, Bool.false_eq_true, reduceCtorEq]
      refine z_aload_n 0 rfl rfl dX7_stage_20 ?_
      refine zM_ref 0 1 hp (by decide) rfl (by decide) rfl rfl zf_X7_7 dX7_stage_21 ?_
      refine z_bipush (nI 9) dX7_stage_24 rfl ?_
      refine z_iconst (nI 2) dX7_stage_26 rfl ?_
      refine z_iload_n 1 rfl rfl dX7_stage_27 ?_
      refine z_imulN dX7_stage_28 ?_
      refine z_iaddN dX7_stage_29 ?_
      refine z_iload_n 2 rfl rfl dX7_stage_30 ?_
      refine z_iaddN dX7_stage_31 ?_
      refine zM_vld hp (by omega) dX7_stage_32 ?_
      refine z_goto 38 dX7_stage_33 rfl ?_
      exact z_iret dX7_stage_38 (by rw [e9]) rfl
  · refine z_iconst (-1) dX7_stage_9 (by decide) ?_
    have e9 : sStg v x w = -1 := by simp only [sStg, c6, and_self, and_true, true_and, and_false, false_and, reduceIte, Bool.false_eq_true, reduceCtorEq]
    exact z_iret dX7_stage_10 (by rw [e9]) rfl
set_option maxRecDepth 4000 in
theorem c_X7_priceIn {l : Launch} {G : zG} {A : Nat → Nat} {m0 mm : zM} {v : Nat → Int32} {S : Nat → Nat → Int32} (hp : zMP G A m0 v S mm) (x w : Int32) (hK : zK v) : zSem l G (yX7_priceIn, cX7_priceIn, 4, (some .int)) 6 [.ref (A 0), .int x, .int w] mm (some (.int (sPin v x w))) (fun m' => m' = mm) := by
  have hJ := hK.2.1
  have hJ2 := hK.2.1.2
  have hD2 := hK.1.2
  refine z_met [some (.ref (A 0)), some (.int x), some (.int w), none] rfl (zc1 (by rfl)) (Nat.le_of_ble_eq_true rfl) rfl ?_
  refine z_aload_n 0 rfl rfl dX7_priceIn_0 ?_
  refine z_iload_n 1 rfl rfl dX7_priceIn_1 ?_
  refine zM_p1 zm_X7_isDate (c_X7_isDate hp _) hp rfl rfl zl_X7_93 (by decide) (Nat.le_of_ble_eq_true rfl) dX7_priceIn_2 ?_
  refine z_if_neB 10 dX7_priceIn_5 rfl (fun c5 => ?_) (fun c5 => ?_)
  · obtain ⟨d, hd, rfl⟩ := zDt hK c5
    have znd := zn_nI (show d < 2 ^ 31 by omega)
    have hpl := hK.2.2.2.1 d hd
    refine z_iload_n 2 rfl rfl dX7_priceIn_10 ?_
    refine z_iconst (nI 0) dX7_priceIn_11 rfl ?_
    refine z_bipush (nI 60) dX7_priceIn_12 rfl ?_
    refine z_pS3 zm_X7_in (c_X7_in _ _ _) rfl zl_X7_35 (by decide) (Nat.le_of_ble_eq_true rfl) dX7_priceIn_14 ?_
    refine z_if_neB 23 dX7_priceIn_17 rfl (fun c17 => ?_) (fun c17 => ?_)
    · refine z_aload_n 0 rfl rfl dX7_priceIn_23 ?_
      refine z_iload_n 1 rfl rfl dX7_priceIn_24 ?_
      refine zM_p1 zm_X7_daysLeft (c_X7_daysLeft hp _ (by omega)) hp rfl rfl zl_X7_49 (by decide) (Nat.le_of_ble_eq_true rfl) dX7_priceIn_25 ?_
      refine z_iload_n 2 rfl rfl dX7_priceIn_28 ?_
      refine z_isub dX7_priceIn_29 ?_
      refine z_istore_n 3 rfl (Nat.le_of_ble_eq_true rfl) rfl dX7_priceIn_30 ?_
      refine z_iload_n 3 rfl rfl dX7_priceIn_31 ?_
      refine z_if_le 44 dX7_priceIn_32 rfl (fun c32 => ?_) (fun c32 => ?_)
      · have e9 : sPin v (nI d) w = -5 := by simp only [sPin, c5, c17, znd, and_self, and_true, true_and, and_false, false_and, reduceIte, Bool.false_eq_true, reduceCtorEq]; rw [if_pos c32]
        refine z_bipush (-5) dX7_priceIn_44 (by decide) ?_
        exact z_iret dX7_priceIn_46 (by rw [e9]) rfl
      · have e9 : sPin v (nI d) w = sPrice v d (sLeft v d - w) := by simp only [sPin, c5, c17, znd, and_self, and_true, true_and, and_false, false_and, reduceIte, Bool.false_eq_true, reduceCtorEq]; rw [if_neg c32]
        refine z_aload_n 0 rfl rfl dX7_priceIn_35 ?_
        refine z_iload_n 1 rfl rfl dX7_priceIn_36 ?_
        refine z_iload_n 3 rfl rfl dX7_priceIn_37 ?_
        refine zM_p2 zm_X7_price (c_X7_price hp _ _ (by omega) hJ (by assumption)) hp rfl rfl zl_X7_67 (by decide) (Nat.le_of_ble_eq_true rfl) dX7_priceIn_38 ?_
        refine z_goto 46 dX7_priceIn_41 rfl ?_
        exact z_iret dX7_priceIn_46 (by rw [e9]) rfl
    · refine z_bipush (-2) dX7_priceIn_20 (by decide) ?_
      have e9 : sPin v (nI d) w = -2 := by simp only [sPin, c5, c17, and_self, and_true, true_and, and_false, false_and, reduceIte, Bool.false_eq_true, reduceCtorEq]
      exact z_iret dX7_priceIn_22 (by rw [e9]) rfl
  · refine z_iconst (-1) dX7_priceIn_8 (by decide) ?_
    have e9 : sPin v x w = -1 := by simp only [sPin, c5, and_self, and_true, true_and, and_false, false_and, reduceIte, Bool.false_eq_true, reduceCtorEq]
    exact z_iret dX7_priceIn_9 (by rw [e9]) rfl
set_option maxRecDepth 4000 in
theorem c_X7_wouldCover {l : Launch} {G : zG} {A : Nat → Nat} {m0 mm : zM} {v : Nat → Int32} {S : Nat → Nat → Int32} (hp : zMP G A m0 v S mm) (x : Int32) (hK : zK v) : zSem l G (yX7_wouldCover, cX7_wouldCover, 3, (some .int)) 6 [.ref (A 0), .int x] mm (some (.int (sWc v x).1)) (fun m' => zMP G A m0 (v) (if (sWc v x).2 = true then zAs v S 607 else S) m') := by
  have hJ := hK.2.1
  have hJ2 := hK.2.1.2
  have hD2 := hK.1.2
  refine z_met [some (.ref (A 0)), some (.int x), none] rfl (zc1 (by rfl)) (Nat.le_of_ble_eq_true rfl) rfl ?_
  refine z_aload_n 0 rfl rfl dX7_wouldCover_0 ?_
  refine z_iload_n 1 rfl rfl dX7_wouldCover_1 ?_
  refine zM_p1 zm_X7_isDate (c_X7_isDate hp _) hp rfl rfl zl_X7_93 (by decide) (Nat.le_of_ble_eq_true rfl) dX7_wouldCover_2 ?_
  refine z_if_neB 10 dX7_wouldCover_5 rfl (fun c5 => ?_) (fun c5 => ?_)
  · obtain ⟨d, hd, rfl⟩ := zDt hK c5
    have znd := zn_nI (show d < 2 ^ 31 by omega)
    have hpl := hK.2.2.2.1 d hd
    refine z_aload_n 0 rfl rfl dX7_wouldCover_10 ?_
    refine z_iload_n 1 rfl rfl dX7_wouldCover_11 ?_
    refine zM_p1 zm_X7_daysLeft (c_X7_daysLeft hp _ (by omega)) hp rfl rfl zl_X7_49 (by decide) (Nat.le_of_ble_eq_true rfl) dX7_wouldCover_12 ?_
    refine z_aload_n 0 rfl rfl dX7_wouldCover_15 ?_
    refine zM_ref 0 1 hp (by decide) rfl (by decide) rfl rfl zf_X7_7 dX7_wouldCover_16 ?_
    refine z_iconst (nI 3) dX7_wouldCover_19 rfl ?_
    refine zM_vld hp (by omega) dX7_wouldCover_20 ?_
    refine z_icmp_gt 27 dX7_wouldCover_21 rfl (fun c21 => ?_) (fun c21 => ?_)
    · refine z_aload_n 0 rfl rfl dX7_wouldCover_27 ?_
      refine zM_v0 zm_X7_aside (c_X7_aside hp) hp rfl rfl zl_X7_130 (by decide) (Nat.le_of_ble_eq_true rfl) dX7_wouldCover_28 (fun mm hp => ?_)
      refine z_aload_n 0 rfl rfl dX7_wouldCover_31 ?_
      refine z_iload_n 1 rfl rfl dX7_wouldCover_32 ?_
      refine zM_u1 zm_X7_covers (c_X7_covers hp d _ hK hd (Nat.le_refl _)) hp rfl rfl zl_X7_121 (by decide) (Nat.le_of_ble_eq_true rfl) dX7_wouldCover_33 (fun mm hp => ?_)
      refine z_istore_n 2 rfl (Nat.le_of_ble_eq_true rfl) rfl dX7_wouldCover_36 ?_
      refine z_aload_n 0 rfl rfl dX7_wouldCover_37 ?_
      refine zM_v0 zm_X7_bringBack (c_X7_bringBack hp) hp rfl rfl zl_X7_127 (by decide) (Nat.le_of_ble_eq_true rfl) dX7_wouldCover_38 (fun mm hp => ?_)
      refine z_iload_n 2 rfl rfl dX7_wouldCover_41 ?_
      have e9 : sWc v (nI d) = ((sCov d (sOf v d (nI 0) (nI 1)) (nI 0) v).1, true) := by simp only [sWc, c5, znd, and_self, and_true, true_and, and_false, false_and, reduceIte, Bool.false_eq_true, reduceCtorEq]; rw [if_pos c21]
      have hp := hp.congr (w := v) (fun i hi => by unfold zBr; rw [if_pos hi]; unfold zAs; rw [if_pos ⟨rfl, hi⟩])
      exact z_iret dX7_wouldCover_42 (by rw [e9]) (by rw [e9]; exact hp)
    · refine z_bipush (-5) dX7_wouldCover_24 (by decide) ?_
      have e9 : sWc v (nI d) = (-5, false) := by simp only [sWc, c5, znd, and_self, and_true, true_and, and_false, false_and, reduceIte, Bool.false_eq_true, reduceCtorEq]; rw [if_neg c21]
      exact z_iret dX7_wouldCover_26 (by rw [e9]) (by rw [e9]; exact hp)
  · refine z_iconst (-1) dX7_wouldCover_8 (by decide) ?_
    have e9 : sWc v x = (-1, false) := by simp only [sWc, c5, and_self, and_true, true_and, and_false, false_and, reduceIte, Bool.false_eq_true, reduceCtorEq]
    exact z_iret dX7_wouldCover_9 (by rw [e9]) (by rw [e9]; exact hp)
set_option maxRecDepth 4000 in
theorem c_X7_event {l : Launch} {G : zG} {A : Nat → Nat} {m0 mm : zM} {v : Nat → Int32} {S : Nat → Nat → Int32} (hp : zMP G A m0 v S mm) (x w : Int32) (h8 : ∃ e, e ≤ 10 ∧ v 8 = nI e) (hK : zK v) : zSem l G (yX7_event, cX7_event, 3, (some .int)) 2 [.ref (A 0), .int x, .int w] mm (some (.int (sEv v x w))) (fun m' => m' = mm) := by
  have hJ := hK.2.1
  have hJ2 := hK.2.1.2
  have hD2 := hK.1.2
  refine z_met [some (.ref (A 0)), some (.int x), some (.int w)] rfl (zc1 (by rfl)) (Nat.le_of_ble_eq_true rfl) rfl ?_
  refine z_iload_n 1 rfl rfl dX7_event_0 ?_
  refine z_if_lt 13 dX7_event_1 rfl (fun c1 => ?_) (fun c1 => ?_)
  · have e9 : sEv v x w = -2 := by unfold sEv; rw [if_pos c1]
    refine z_bipush (-2) dX7_event_13 (by decide) ?_
    exact z_iret dX7_event_15 (by rw [e9]) rfl
  · obtain ⟨k, hk31, rfl⟩ := nI_of c1
    obtain ⟨e, he, h8⟩ := h8
    refine z_iload_n 2 rfl rfl dX7_event_4 ?_
    refine z_iconst (nI 0) dX7_event_5 rfl ?_
    refine z_iconst (nI 3) dX7_event_6 rfl ?_
    refine z_pS3 zm_X7_in (c_X7_in _ _ _) rfl zl_X7_35 (by decide) (Nat.le_of_ble_eq_true rfl) dX7_event_7 ?_
    refine z_if_neB 16 dX7_event_10 rfl (fun c10 => ?_) (fun c10 => ?_)
    · obtain ⟨j, hj, rfl⟩ := zIn_nI (by decide) c10
      have znj := zn_nI (show j < 2 ^ 31 by omega)
      refine z_iload_n 1 rfl rfl dX7_event_16 ?_
      refine z_aload_n 0 rfl rfl dX7_event_17 ?_
      refine zM_ref 0 1 hp (by decide) rfl (by decide) rfl rfl zf_X7_7 dX7_event_18 ?_
      refine z_bipush (nI 8) dX7_event_21 rfl ?_
      refine zM_vld hp (by omega) dX7_event_23 ?_
      rw [h8]
      refine z_icmp_ge 44 dX7_event_24 rfl (fun c24 => ?_) (fun c24 => ?_)
      · have e9 : sEv v (nI k) (nI j) = -5 := by unfold sEv; rw [if_neg c1, if_pos c10, h8, if_neg (i_not_lt.mpr c24)]
        refine z_bipush (-5) dX7_event_44 (by decide) ?_
        exact z_iret dX7_event_46 (by rw [e9]) rfl
      · have hke : k < e := Nat.lt_of_not_le (fun q => c24 ((nI_leI (by omega) (by omega)).mpr q))
        have e9 : sEv v (nI k) (nI j) = v (567 + 4 * k + j) := by unfold sEv; rw [if_neg c1, if_pos c10, h8, if_pos (i_not_le.mp c24), zn_nI hk31, znj]
        refine z_aload_n 0 rfl rfl dX7_event_27 ?_
        refine zM_ref 0 1 hp (by decide) rfl (by decide) rfl rfl zf_X7_7 dX7_event_28 ?_
        refine z_sipush (nI 567) dX7_event_31 rfl ?_
        refine z_iconst (nI 4) dX7_event_34 rfl ?_
        refine z_iload_n 1 rfl rfl dX7_event_35 ?_
        refine z_imulN dX7_event_36 ?_
        refine z_iaddN dX7_event_37 ?_
        refine z_iload_n 2 rfl rfl dX7_event_38 ?_
        refine z_iaddN dX7_event_39 ?_
        refine zM_vld hp (by omega) dX7_event_40 ?_
        refine z_goto 46 dX7_event_41 rfl ?_
        exact z_iret dX7_event_46 (by rw [e9]) rfl
    · have e9 : sEv v (nI k) w = -2 := by unfold sEv; rw [if_neg c1, if_neg (by rw [c10]; decide)]
      refine z_bipush (-2) dX7_event_13 (by decide) ?_
      exact z_iret dX7_event_15 (by rw [e9]) rfl
set_option maxRecDepth 4000 in
theorem l_X7_holder_b {l : Launch} {G : zG} {A : Nat → Nat} {m0 mm : zM} {v : Nat → Int32} {S : Nat → Nat → Int32} (hp : zMP G A m0 v S mm) (w : Int32) (h : Nat) (hh : h < 10) (hK : zK v) (cx : zIn (nI h) (nI 0) (nI 9) = true) : ∀ i, i ≤ nD v → ∀ (b : Nat) (hb : b = sHl v h i), zV l G (yX7_holder, cX7_holder, 7, (some .int)) 4 (some (.int (sHold v (nI h) w))) (fun m' => m' = mm) 106 [some (.ref (A 0)), some (.int (nI h)), some (.int w), some (.int (nI (sHa v h (nR v)))), some (.int (nI (sHe v h (nR v)))), some (.int (nI b)), some (.int (nI i))] [] mm := by
  refine z_loop (nD v) (fun i hi ih b hb => ?_)
  have hJ := hK.2.1
  have hJ2 := hK.2.1.2
  have hD2 := hK.1.2
  refine z_iload 6 rfl dX7_holder_106 ?_
  refine z_aload_n 0 rfl rfl dX7_holder_108 ?_
  refine zM_ref 0 1 hp (by decide) rfl (by decide) rfl rfl zf_X7_7 dX7_holder_109 ?_
  refine z_iconst (nI 1) dX7_holder_112 rfl ?_
  refine zM_vld hp (by omega) dX7_holder_113 ?_
  rw [hK.1.1]
  refine z_icmp_ge 143 dX7_holder_114 rfl (fun c114 => ?_) (fun c114 => ?_)
  · have e : i = nD v := by have := (nI_leI (by omega) (by omega)).mp c114; omega
    subst e
    refine z_iload_n 2 rfl rfl dX7_holder_143 ?_
    subst hb
    by_cases hx : zIn w (nI 0) (nI 3) = true
    · obtain ⟨j, hj, rfl⟩ := zIn_nI (by decide) hx
      rcases (by omega : j = 0 ∨ j = 1 ∨ j = 2 ∨ j = 3) with rfl | rfl | rfl | rfl
      · refine z_tableIn 176 dX7_holder_144 (by decide) (by decide) rfl rfl ?_
        have e9 : sHold v (nI h) (nI 0) = sHoldW v h 0 := by unfold sHold; rw [if_pos cx, if_pos hx, zn_nI (by omega)]; rfl
        refine z_aload_n 0 rfl rfl dX7_holder_176 ?_
        refine zM_ref 0 1 hp (by decide) rfl (by decide) rfl rfl zf_X7_7 dX7_holder_177 ?_
        refine z_bipush (nI 17) dX7_holder_180 rfl ?_
        refine z_iload_n 1 rfl rfl dX7_holder_182 ?_
        refine z_iaddN dX7_holder_183 ?_
        refine zM_vld hp (by omega) dX7_holder_184 ?_
        refine z_ldc zk_X7_196 rfl dX7_holder_185 ?_
        refine z_iadd dX7_holder_187 ?_
        exact z_iret dX7_holder_188 (by rw [e9]; try rfl) rfl
      · refine z_tableIn 189 dX7_holder_144 (by decide) (by decide) rfl rfl ?_
        have e9 : sHold v (nI h) (nI 1) = sHoldW v h 1 := by unfold sHold; rw [if_pos cx, if_pos hx, zn_nI (by omega)]; rfl
        refine z_iload_n 3 rfl rfl dX7_holder_189 ?_
        exact z_iret dX7_holder_190 (by rw [e9]; try rfl) rfl
      · refine z_tableIn 191 dX7_holder_144 (by decide) (by decide) rfl rfl ?_
        have e9 : sHold v (nI h) (nI 2) = sHoldW v h 2 := by unfold sHold; rw [if_pos cx, if_pos hx, zn_nI (by omega)]; rfl
        refine z_iload 4 rfl dX7_holder_191 ?_
        exact z_iret dX7_holder_193 (by rw [e9]; try rfl) rfl
      · refine z_tableIn 194 dX7_holder_144 (by decide) (by decide) rfl rfl ?_
        have e9 : sHold v (nI h) (nI 3) = sHoldW v h 3 := by unfold sHold; rw [if_pos cx, if_pos hx, zn_nI (by omega)]; rfl
        refine z_iload 5 rfl dX7_holder_194 ?_
        exact z_iret dX7_holder_196 (by rw [e9]; try rfl) rfl
    · refine z_tableOut 197 dX7_holder_144 (zIn_out (by decide) (by simpa using hx)) rfl ?_
      have e9 : sHold v (nI h) w = -2 := by unfold sHold; rw [if_pos cx, if_neg hx]
      refine z_bipush (-2) dX7_holder_197 (by decide) ?_
      exact z_iret dX7_holder_199 (by rw [e9]; try rfl) rfl
  · have hl : i < nD v := Nat.lt_of_not_le (fun q => c114 ((nI_leI (by omega) (by omega)).mpr (by omega)))
    obtain ⟨z, hz, h5, -⟩ := hK.2.2.1 i (by omega)
    refine z_iload 5 rfl dX7_holder_117 ?_
    refine z_aload_n 0 rfl rfl dX7_holder_119 ?_
    refine z_iload_n 1 rfl rfl dX7_holder_120 ?_
    refine z_iload 6 rfl dX7_holder_121 ?_
    refine zM_p2 zm_X7_placeOf (c_X7_placeOf hp i z (nI h) (by omega) h5 hz) hp rfl rfl zl_X7_151 (by decide) (Nat.le_of_ble_eq_true rfl) dX7_holder_123 ?_
    refine z_if_lt 133 dX7_holder_126 rfl (fun c126 => ?_) (fun c126 => ?_)
    · refine z_iconst (nI 0) dX7_holder_133 rfl ?_
      refine z_iaddN dX7_holder_134 ?_
      refine z_istore 5 (Nat.le_of_ble_eq_true rfl) rfl dX7_holder_135 ?_
      refine z_iincN (n := 1) 6 rfl rfl dX7_holder_137 ?_
      refine z_goto 106 dX7_holder_140 rfl ?_
      first | exact ih hl _ (by rw [sHl, h5, zn_nI (by omega), if_pos (i_not_lt.mp c126), hb]) | exact ih hl _ (by rw [sHl, h5, zn_nI (by omega), if_neg (i_not_le.mpr c126), hb])
    · refine z_iconst (nI 1) dX7_holder_129 rfl ?_
      refine z_goto 134 dX7_holder_130 rfl ?_
      refine z_iaddN dX7_holder_134 ?_
      refine z_istore 5 (Nat.le_of_ble_eq_true rfl) rfl dX7_holder_135 ?_
      refine z_iincN (n := 1) 6 rfl rfl dX7_holder_137 ?_
      refine z_goto 106 dX7_holder_140 rfl ?_
      first | exact ih hl _ (by rw [sHl, h5, zn_nI (by omega), if_pos (i_not_lt.mp c126), hb]) | exact ih hl _ (by rw [sHl, h5, zn_nI (by omega), if_neg (i_not_le.mpr c126), hb])
set_option maxRecDepth 4000 in
theorem l_X7_holder_a {l : Launch} {G : zG} {A : Nat → Nat} {m0 mm : zM} {v : Nat → Int32} {S : Nat → Nat → Int32} (hp : zMP G A m0 v S mm) (w : Int32) (h : Nat) (hh : h < 10) (hK : zK v) (cx : zIn (nI h) (nI 0) (nI 9) = true) : ∀ i, i ≤ nR v → ∀ (a b : Nat) (ha : a = sHa v h i) (hb : b = sHe v h i) (x6 : Option Value), zV l G (yX7_holder, cX7_holder, 7, (some .int)) 4 (some (.int (sHold v (nI h) w))) (fun m' => m' = mm) 17 [some (.ref (A 0)), some (.int (nI h)), some (.int w), some (.int (nI a)), some (.int (nI b)), some (.int (nI i)), x6] [] mm := by
  refine z_loop (nR v) (fun i hi ih a b ha hb x6 => ?_)
  have hJ := hK.2.1
  have hJ2 := hK.2.1.2
  have hD2 := hK.1.2
  refine z_iload 5 rfl dX7_holder_17 ?_
  refine z_aload_n 0 rfl rfl dX7_holder_19 ?_
  refine zM_ref 0 1 hp (by decide) rfl (by decide) rfl rfl zf_X7_7 dX7_holder_20 ?_
  refine z_iconst (nI 2) dX7_holder_23 rfl ?_
  refine zM_vld hp (by omega) dX7_holder_24 ?_
  rw [hJ.1]
  refine z_icmp_ge 100 dX7_holder_25 rfl (fun c25 => ?_) (fun c25 => ?_)
  · have e : i = nR v := by have := (nI_leI (by omega) (by omega)).mp c25; omega
    subst e
    refine z_iconst (nI 0) dX7_holder_100 rfl ?_
    refine z_istore 5 (Nat.le_of_ble_eq_true rfl) rfl dX7_holder_101 ?_
    refine z_iconst (nI 0) dX7_holder_103 rfl ?_
    refine z_istore 6 (Nat.le_of_ble_eq_true rfl) rfl dX7_holder_104 ?_
    subst ha; subst hb
    exact l_X7_holder_b hp w h hh hK cx 0 (by omega) 0 rfl
  · have hl : i < nR v := Nat.lt_of_not_le (fun q => c25 ((nI_leI (by omega) (by omega)).mpr (by omega)))
    refine z_aload_n 0 rfl rfl dX7_holder_28 ?_
    refine z_iload 5 rfl dX7_holder_29 ?_
    refine z_iconst (nI 1) dX7_holder_31 rfl ?_
    refine zM_p2 zm_X7_of (c_X7_of hp _ _ (by omega) (by omega)) hp rfl rfl zl_X7_53 (by decide) (Nat.le_of_ble_eq_true rfl) dX7_holder_32 ?_
    refine z_iload_n 1 rfl rfl dX7_holder_35 ?_
    refine z_icmp_ne 43 dX7_holder_36 rfl (fun c36 => ?_) (fun c36 => ?_)
    · refine z_iconst (nI 0) dX7_holder_43 rfl ?_
      refine z_istore 6 (Nat.le_of_ble_eq_true rfl) rfl dX7_holder_44 ?_
      refine z_iload_n 3 rfl rfl dX7_holder_46 ?_
      refine z_iload 6 rfl dX7_holder_47 ?_
      refine z_if_eq 65 dX7_holder_49 rfl (fun c49 => ?_) (fun c49 => ?_)
      · refine z_iconst (nI 0) dX7_holder_65 rfl ?_
        refine z_iaddN dX7_holder_66 ?_
        refine z_istore_n 3 rfl (Nat.le_of_ble_eq_true rfl) rfl dX7_holder_67 ?_
        refine z_iload 4 rfl dX7_holder_68 ?_
        refine z_iload 6 rfl dX7_holder_70 ?_
        refine z_if_eq 90 dX7_holder_72 rfl (fun c72 => ?_) (fun c72 => ?_)
        · refine z_iconst (nI 0) dX7_holder_90 rfl ?_
          refine z_iaddN dX7_holder_91 ?_
          refine z_istore 4 (Nat.le_of_ble_eq_true rfl) rfl dX7_holder_92 ?_
          refine z_iincN (n := 1) 5 rfl rfl dX7_holder_94 ?_
          refine z_goto 17 dX7_holder_97 rfl ?_
          first | exact ih hl _ _ (by rw [sHa, if_pos (And.intro c36 (of_decide_eq_true c58)), ha]) (by rw [sHe, if_pos (And.intro c36 c83), hb]) _ | exact ih hl _ _ (by rw [sHa, if_pos (And.intro c36 (of_decide_eq_true c58)), ha]) (by rw [sHe, if_neg (fun q => c83 q.2), hb]) _ | exact ih hl _ _ (by rw [sHa, if_neg (fun q => of_decide_eq_false c58 q.2), ha]) (by rw [sHe, if_pos (And.intro c36 c83), hb]) _ | exact ih hl _ _ (by rw [sHa, if_neg (fun q => of_decide_eq_false c58 q.2), ha]) (by rw [sHe, if_neg (fun q => c83 q.2), hb]) _ | exact ih hl _ _ (by rw [sHa, if_neg (fun q => c36 q.1), ha]) (by rw [sHe, if_neg (fun q => c36 q.1), hb]) _
        · exact absurd c72 (by decide)
      · exact absurd c49 (by decide)
    · refine z_iconst (nI 1) dX7_holder_39 rfl ?_
      refine z_goto 44 dX7_holder_40 rfl ?_
      refine z_istore 6 (Nat.le_of_ble_eq_true rfl) rfl dX7_holder_44 ?_
      refine z_iload_n 3 rfl rfl dX7_holder_46 ?_
      refine z_iload 6 rfl dX7_holder_47 ?_
      refine z_if_eq 65 dX7_holder_49 rfl (fun c49 => ?_) (fun c49 => ?_)
      · exact absurd c49 (by decide)
      · refine z_aload_n 0 rfl rfl dX7_holder_52 ?_
        refine z_iload 5 rfl dX7_holder_53 ?_
        refine zM_p1 zm_X7_isFree (c_X7_isFree hp _ (by omega)) hp rfl rfl zl_X7_105 (by decide) (Nat.le_of_ble_eq_true rfl) dX7_holder_55 ?_
        refine z_if_eqB 65 dX7_holder_58 rfl (fun c58 => ?_) (fun c58 => ?_)
        · refine z_iconst (nI 0) dX7_holder_65 rfl ?_
          refine z_iaddN dX7_holder_66 ?_
          refine z_istore_n 3 rfl (Nat.le_of_ble_eq_true rfl) rfl dX7_holder_67 ?_
          refine z_iload 4 rfl dX7_holder_68 ?_
          refine z_iload 6 rfl dX7_holder_70 ?_
          refine z_if_eq 90 dX7_holder_72 rfl (fun c72 => ?_) (fun c72 => ?_)
          · exact absurd c72 (by decide)
          · refine z_aload_n 0 rfl rfl dX7_holder_75 ?_
            refine z_iload 5 rfl dX7_holder_76 ?_
            refine z_iconst (nI 3) dX7_holder_78 rfl ?_
            refine zM_p2 zm_X7_of (c_X7_of hp _ _ (by omega) (by omega)) hp rfl rfl zl_X7_53 (by decide) (Nat.le_of_ble_eq_true rfl) dX7_holder_79 ?_
            refine z_iconst (nI 2) dX7_holder_82 rfl ?_
            refine z_icmp_ne 90 dX7_holder_83 rfl (fun c83 => ?_) (fun c83 => ?_)
            · refine z_iconst (nI 0) dX7_holder_90 rfl ?_
              refine z_iaddN dX7_holder_91 ?_
              refine z_istore 4 (Nat.le_of_ble_eq_true rfl) rfl dX7_holder_92 ?_
              refine z_iincN (n := 1) 5 rfl rfl dX7_holder_94 ?_
              refine z_goto 17 dX7_holder_97 rfl ?_
              first | exact ih hl _ _ (by rw [sHa, if_pos (And.intro c36 (of_decide_eq_true c58)), ha]) (by rw [sHe, if_pos (And.intro c36 c83), hb]) _ | exact ih hl _ _ (by rw [sHa, if_pos (And.intro c36 (of_decide_eq_true c58)), ha]) (by rw [sHe, if_neg (fun q => c83 q.2), hb]) _ | exact ih hl _ _ (by rw [sHa, if_neg (fun q => of_decide_eq_false c58 q.2), ha]) (by rw [sHe, if_pos (And.intro c36 c83), hb]) _ | exact ih hl _ _ (by rw [sHa, if_neg (fun q => of_decide_eq_false c58 q.2), ha]) (by rw [sHe, if_neg (fun q => c83 q.2), hb]) _ | exact ih hl _ _ (by rw [sHa, if_neg (fun q => c36 q.1), ha]) (by rw [sHe, if_neg (fun q => c36 q.1), hb]) _
            · refine z_iconst (nI 1) dX7_holder_86 rfl ?_
              refine z_goto 91 dX7_holder_87 rfl ?_
              refine z_iaddN dX7_holder_91 ?_
              refine z_istore 4 (Nat.le_of_ble_eq_true rfl) rfl dX7_holder_92 ?_
              refine z_iincN (n := 1) 5 rfl rfl dX7_holder_94 ?_
              refine z_goto 17 dX7_holder_97 rfl ?_
              first | exact ih hl _ _ (by rw [sHa, if_pos (And.intro c36 (of_decide_eq_true c58)), ha]) (by rw [sHe, if_pos (And.intro c36 c83), hb]) _ | exact ih hl _ _ (by rw [sHa, if_pos (And.intro c36 (of_decide_eq_true c58)), ha]) (by rw [sHe, if_neg (fun q => c83 q.2), hb]) _ | exact ih hl _ _ (by rw [sHa, if_neg (fun q => of_decide_eq_false c58 q.2), ha]) (by rw [sHe, if_pos (And.intro c36 c83), hb]) _ | exact ih hl _ _ (by rw [sHa, if_neg (fun q => of_decide_eq_false c58 q.2), ha]) (by rw [sHe, if_neg (fun q => c83 q.2), hb]) _ | exact ih hl _ _ (by rw [sHa, if_neg (fun q => c36 q.1), ha]) (by rw [sHe, if_neg (fun q => c36 q.1), hb]) _
        · refine z_iconst (nI 1) dX7_holder_61 rfl ?_
          refine z_goto 66 dX7_holder_62 rfl ?_
          refine z_iaddN dX7_holder_66 ?_
          refine z_istore_n 3 rfl (Nat.le_of_ble_eq_true rfl) rfl dX7_holder_67 ?_
          refine z_iload 4 rfl dX7_holder_68 ?_
          refine z_iload 6 rfl dX7_holder_70 ?_
          refine z_if_eq 90 dX7_holder_72 rfl (fun c72 => ?_) (fun c72 => ?_)
          · exact absurd c72 (by decide)
          · refine z_aload_n 0 rfl rfl dX7_holder_75 ?_
            refine z_iload 5 rfl dX7_holder_76 ?_
            refine z_iconst (nI 3) dX7_holder_78 rfl ?_
            refine zM_p2 zm_X7_of (c_X7_of hp _ _ (by omega) (by omega)) hp rfl rfl zl_X7_53 (by decide) (Nat.le_of_ble_eq_true rfl) dX7_holder_79 ?_
            refine z_iconst (nI 2) dX7_holder_82 rfl ?_
            refine z_icmp_ne 90 dX7_holder_83 rfl (fun c83 => ?_) (fun c83 => ?_)
            · refine z_iconst (nI 0) dX7_holder_90 rfl ?_
              refine z_iaddN dX7_holder_91 ?_
              refine z_istore 4 (Nat.le_of_ble_eq_true rfl) rfl dX7_holder_92 ?_
              refine z_iincN (n := 1) 5 rfl rfl dX7_holder_94 ?_
              refine z_goto 17 dX7_holder_97 rfl ?_
              first | exact ih hl _ _ (by rw [sHa, if_pos (And.intro c36 (of_decide_eq_true c58)), ha]) (by rw [sHe, if_pos (And.intro c36 c83), hb]) _ | exact ih hl _ _ (by rw [sHa, if_pos (And.intro c36 (of_decide_eq_true c58)), ha]) (by rw [sHe, if_neg (fun q => c83 q.2), hb]) _ | exact ih hl _ _ (by rw [sHa, if_neg (fun q => of_decide_eq_false c58 q.2), ha]) (by rw [sHe, if_pos (And.intro c36 c83), hb]) _ | exact ih hl _ _ (by rw [sHa, if_neg (fun q => of_decide_eq_false c58 q.2), ha]) (by rw [sHe, if_neg (fun q => c83 q.2), hb]) _ | exact ih hl _ _ (by rw [sHa, if_neg (fun q => c36 q.1), ha]) (by rw [sHe, if_neg (fun q => c36 q.1), hb]) _
            · refine z_iconst (nI 1) dX7_holder_86 rfl ?_
              refine z_goto 91 dX7_holder_87 rfl ?_
              refine z_iaddN dX7_holder_91 ?_
              refine z_istore 4 (Nat.le_of_ble_eq_true rfl) rfl dX7_holder_92 ?_
              refine z_iincN (n := 1) 5 rfl rfl dX7_holder_94 ?_
              refine z_goto 17 dX7_holder_97 rfl ?_
              first | exact ih hl _ _ (by rw [sHa, if_pos (And.intro c36 (of_decide_eq_true c58)), ha]) (by rw [sHe, if_pos (And.intro c36 c83), hb]) _ | exact ih hl _ _ (by rw [sHa, if_pos (And.intro c36 (of_decide_eq_true c58)), ha]) (by rw [sHe, if_neg (fun q => c83 q.2), hb]) _ | exact ih hl _ _ (by rw [sHa, if_neg (fun q => of_decide_eq_false c58 q.2), ha]) (by rw [sHe, if_pos (And.intro c36 c83), hb]) _ | exact ih hl _ _ (by rw [sHa, if_neg (fun q => of_decide_eq_false c58 q.2), ha]) (by rw [sHe, if_neg (fun q => c83 q.2), hb]) _ | exact ih hl _ _ (by rw [sHa, if_neg (fun q => c36 q.1), ha]) (by rw [sHe, if_neg (fun q => c36 q.1), hb]) _
set_option maxRecDepth 4000 in
theorem c_X7_holder {l : Launch} {G : zG} {A : Nat → Nat} {m0 mm : zM} {v : Nat → Int32} {S : Nat → Nat → Int32} (hp : zMP G A m0 v S mm) (x w : Int32) (hK : zK v) : zSem l G (yX7_holder, cX7_holder, 7, (some .int)) 4 [.ref (A 0), .int x, .int w] mm (some (.int (sHold v x w))) (fun m' => m' = mm) := by
  have hJ := hK.2.1
  have hJ2 := hK.2.1.2
  have hD2 := hK.1.2
  refine z_met [some (.ref (A 0)), some (.int x), some (.int w), none, none, none, none] rfl (zc1 (by rfl)) (Nat.le_of_ble_eq_true rfl) rfl ?_
  refine z_iload_n 1 rfl rfl dX7_holder_0 ?_
  refine z_pS1 zm_X7_isHolder (c_X7_isHolder _) rfl zl_X7_90 (by decide) (Nat.le_of_ble_eq_true rfl) dX7_holder_1 ?_
  refine z_if_neB 9 dX7_holder_4 rfl (fun c4 => ?_) (fun c4 => ?_)
  · obtain ⟨h, hh, rfl⟩ := zIn_nI (by decide) c4
    refine z_iconst (nI 0) dX7_holder_9 rfl ?_
    refine z_istore_n 3 rfl (Nat.le_of_ble_eq_true rfl) rfl dX7_holder_10 ?_
    refine z_iconst (nI 0) dX7_holder_11 rfl ?_
    refine z_istore 4 (Nat.le_of_ble_eq_true rfl) rfl dX7_holder_12 ?_
    refine z_iconst (nI 0) dX7_holder_14 rfl ?_
    refine z_istore 5 (Nat.le_of_ble_eq_true rfl) rfl dX7_holder_15 ?_
    exact l_X7_holder_a hp w h (by omega) hK c4 0 (by omega) 0 0 rfl rfl _
  · refine z_iconst (-1) dX7_holder_7 (by decide) ?_
    have e9 : sHold v x w = -1 := by simp only [sHold, c4, and_self, and_true, true_and, and_false, false_and, reduceIte, Bool.false_eq_true, reduceCtorEq]
    exact z_iret dX7_holder_8 (by rw [e9]) rfl
set_option maxRecDepth 4000 in
theorem l_X7_count {l : Launch} {G : zG} {A : Nat → Nat} {m0 mm : zM} {v : Nat → Int32} {S : Nat → Nat → Int32} (hp : zMP G A m0 v S mm) (w : Int32) (hK : zK v) : ∀ i, i ≤ nR v → ∀ (a : Nat) (ha : a = sCs v (w - nI 3) i), zV l G (yX7_count, cX7_count, 4, (some .int)) 3 (some (.int (sCount v S w))) (fun m' => m' = mm) 4 [some (.ref (A 0)), some (.int w), some (.int (nI a)), some (.int (nI i))] [] mm := by
  refine z_loop (nR v) (fun i hi ih a ha => ?_)
  have hJ := hK.2.1
  have hJ2 := hK.2.1.2
  have hD2 := hK.1.2
  refine z_iload_n 3 rfl rfl dX7_count_4 ?_
  refine z_aload_n 0 rfl rfl dX7_count_5 ?_
  refine zM_ref 0 1 hp (by decide) rfl (by decide) rfl rfl zf_X7_7 dX7_count_6 ?_
  refine z_iconst (nI 2) dX7_count_9 rfl ?_
  refine zM_vld hp (by omega) dX7_count_10 ?_
  rw [hJ.1]
  refine z_icmp_ge 40 dX7_count_11 rfl (fun c11 => ?_) (fun c11 => ?_)
  · have e : i = nR v := by have := (nI_leI (by omega) (by omega)).mp c11; omega
    subst e
    refine z_iload_n 1 rfl rfl dX7_count_40 ?_
    subst ha
    by_cases hx : zIn w (nI 0) (nI 15) = true
    · obtain ⟨j, hj, rfl⟩ := zIn_nI (by decide) hx
      rcases (by omega : j = 0 ∨ j = 1 ∨ j = 2 ∨ j = 3 ∨ j = 4 ∨ j = 5 ∨ j = 6 ∨ j = 7 ∨ j = 8 ∨ j = 9 ∨ j = 10 ∨ j = 11 ∨ j = 12 ∨ j = 13 ∨ j = 14 ∨ j = 15) with rfl | rfl | rfl | rfl | rfl | rfl | rfl | rfl | rfl | rfl | rfl | rfl | rfl | rfl | rfl | rfl
      · refine z_tableIn 120 dX7_count_41 (by decide) (by decide) rfl rfl ?_
        have e9 : sCount v S (nI 0) = sCountW v S 0 := by unfold sCount; rw [if_pos hx]; rfl
        refine z_aload_n 0 rfl rfl dX7_count_120 ?_
        refine zM_ref 0 1 hp (by decide) rfl (by decide) rfl rfl zf_X7_7 dX7_count_121 ?_
        refine z_iload_n 1 rfl rfl dX7_count_124 ?_
        refine zM_vld hp (by omega) dX7_count_125 ?_
        exact z_iret dX7_count_126 (by rw [e9]; try rfl) rfl
      · refine z_tableIn 120 dX7_count_41 (by decide) (by decide) rfl rfl ?_
        have e9 : sCount v S (nI 1) = sCountW v S 1 := by unfold sCount; rw [if_pos hx]; rfl
        refine z_aload_n 0 rfl rfl dX7_count_120 ?_
        refine zM_ref 0 1 hp (by decide) rfl (by decide) rfl rfl zf_X7_7 dX7_count_121 ?_
        refine z_iload_n 1 rfl rfl dX7_count_124 ?_
        refine zM_vld hp (by omega) dX7_count_125 ?_
        exact z_iret dX7_count_126 (by rw [e9]; try rfl) rfl
      · refine z_tableIn 120 dX7_count_41 (by decide) (by decide) rfl rfl ?_
        have e9 : sCount v S (nI 2) = sCountW v S 2 := by unfold sCount; rw [if_pos hx]; rfl
        refine z_aload_n 0 rfl rfl dX7_count_120 ?_
        refine zM_ref 0 1 hp (by decide) rfl (by decide) rfl rfl zf_X7_7 dX7_count_121 ?_
        refine z_iload_n 1 rfl rfl dX7_count_124 ?_
        refine zM_vld hp (by omega) dX7_count_125 ?_
        exact z_iret dX7_count_126 (by rw [e9]; try rfl) rfl
      · refine z_tableIn 127 dX7_count_41 (by decide) (by decide) rfl rfl ?_
        have e9 : sCount v S (nI 3) = sCountW v S 3 := by unfold sCount; rw [if_pos hx]; rfl
        refine z_iload_n 2 rfl rfl dX7_count_127 ?_
        exact z_iret dX7_count_128 (by rw [e9]; try rfl) rfl
      · refine z_tableIn 127 dX7_count_41 (by decide) (by decide) rfl rfl ?_
        have e9 : sCount v S (nI 4) = sCountW v S 4 := by unfold sCount; rw [if_pos hx]; rfl
        refine z_iload_n 2 rfl rfl dX7_count_127 ?_
        exact z_iret dX7_count_128 (by rw [e9]; try rfl) rfl
      · refine z_tableIn 127 dX7_count_41 (by decide) (by decide) rfl rfl ?_
        have e9 : sCount v S (nI 5) = sCountW v S 5 := by unfold sCount; rw [if_pos hx]; rfl
        refine z_iload_n 2 rfl rfl dX7_count_127 ?_
        exact z_iret dX7_count_128 (by rw [e9]; try rfl) rfl
      · refine z_tableIn 127 dX7_count_41 (by decide) (by decide) rfl rfl ?_
        have e9 : sCount v S (nI 6) = sCountW v S 6 := by unfold sCount; rw [if_pos hx]; rfl
        refine z_iload_n 2 rfl rfl dX7_count_127 ?_
        exact z_iret dX7_count_128 (by rw [e9]; try rfl) rfl
      · refine z_tableIn 127 dX7_count_41 (by decide) (by decide) rfl rfl ?_
        have e9 : sCount v S (nI 7) = sCountW v S 7 := by unfold sCount; rw [if_pos hx]; rfl
        refine z_iload_n 2 rfl rfl dX7_count_127 ?_
        exact z_iret dX7_count_128 (by rw [e9]; try rfl) rfl
      · refine z_tableIn 127 dX7_count_41 (by decide) (by decide) rfl rfl ?_
        have e9 : sCount v S (nI 8) = sCountW v S 8 := by unfold sCount; rw [if_pos hx]; rfl
        refine z_iload_n 2 rfl rfl dX7_count_127 ?_
        exact z_iret dX7_count_128 (by rw [e9]; try rfl) rfl
      · refine z_tableIn 129 dX7_count_41 (by decide) (by decide) rfl rfl ?_
        have e9 : sCount v S (nI 9) = sCountW v S 9 := by unfold sCount; rw [if_pos hx]; rfl
        refine z_aload_n 0 rfl rfl dX7_count_129 ?_
        refine zM_ref 0 1 hp (by decide) rfl (by decide) rfl rfl zf_X7_7 dX7_count_130 ?_
        refine z_bipush (nI 7) dX7_count_133 rfl ?_
        refine zM_vld hp (by omega) dX7_count_135 ?_
        refine z_ldc zk_X7_196 rfl dX7_count_136 ?_
        refine z_iadd dX7_count_138 ?_
        exact z_iret dX7_count_139 (by rw [e9]; try rfl) rfl
      · refine z_tableIn 140 dX7_count_41 (by decide) (by decide) rfl rfl ?_
        have e9 : sCount v S (nI 10) = sCountW v S 10 := by unfold sCount; rw [if_pos hx]; rfl
        refine z_aload_n 0 rfl rfl dX7_count_140 ?_
        refine zM_ref 0 1 hp (by decide) rfl (by decide) rfl rfl zf_X7_7 dX7_count_141 ?_
        refine z_iconst (nI 3) dX7_count_144 rfl ?_
        refine z_iload_n 1 rfl rfl dX7_count_145 ?_
        refine z_iaddN dX7_count_146 ?_
        refine z_bipush (nI 10) dX7_count_147 rfl ?_
        refine z_isubN (by decide) dX7_count_149 ?_
        refine zM_vld hp (by omega) dX7_count_150 ?_
        exact z_iret dX7_count_151 (by rw [e9]; try rfl) rfl
      · refine z_tableIn 140 dX7_count_41 (by decide) (by decide) rfl rfl ?_
        have e9 : sCount v S (nI 11) = sCountW v S 11 := by unfold sCount; rw [if_pos hx]; rfl
        refine z_aload_n 0 rfl rfl dX7_count_140 ?_
        refine zM_ref 0 1 hp (by decide) rfl (by decide) rfl rfl zf_X7_7 dX7_count_141 ?_
        refine z_iconst (nI 3) dX7_count_144 rfl ?_
        refine z_iload_n 1 rfl rfl dX7_count_145 ?_
        refine z_iaddN dX7_count_146 ?_
        refine z_bipush (nI 10) dX7_count_147 rfl ?_
        refine z_isubN (by decide) dX7_count_149 ?_
        refine zM_vld hp (by omega) dX7_count_150 ?_
        exact z_iret dX7_count_151 (by rw [e9]; try rfl) rfl
      · refine z_tableIn 140 dX7_count_41 (by decide) (by decide) rfl rfl ?_
        have e9 : sCount v S (nI 12) = sCountW v S 12 := by unfold sCount; rw [if_pos hx]; rfl
        refine z_aload_n 0 rfl rfl dX7_count_140 ?_
        refine zM_ref 0 1 hp (by decide) rfl (by decide) rfl rfl zf_X7_7 dX7_count_141 ?_
        refine z_iconst (nI 3) dX7_count_144 rfl ?_
        refine z_iload_n 1 rfl rfl dX7_count_145 ?_
        refine z_iaddN dX7_count_146 ?_
        refine z_bipush (nI 10) dX7_count_147 rfl ?_
        refine z_isubN (by decide) dX7_count_149 ?_
        refine zM_vld hp (by omega) dX7_count_150 ?_
        exact z_iret dX7_count_151 (by rw [e9]; try rfl) rfl
      · refine z_tableIn 140 dX7_count_41 (by decide) (by decide) rfl rfl ?_
        have e9 : sCount v S (nI 13) = sCountW v S 13 := by unfold sCount; rw [if_pos hx]; rfl
        refine z_aload_n 0 rfl rfl dX7_count_140 ?_
        refine zM_ref 0 1 hp (by decide) rfl (by decide) rfl rfl zf_X7_7 dX7_count_141 ?_
        refine z_iconst (nI 3) dX7_count_144 rfl ?_
        refine z_iload_n 1 rfl rfl dX7_count_145 ?_
        refine z_iaddN dX7_count_146 ?_
        refine z_bipush (nI 10) dX7_count_147 rfl ?_
        refine z_isubN (by decide) dX7_count_149 ?_
        refine zM_vld hp (by omega) dX7_count_150 ?_
        exact z_iret dX7_count_151 (by rw [e9]; try rfl) rfl
      · refine z_tableIn 152 dX7_count_41 (by decide) (by decide) rfl rfl ?_
        have e9 : sCount v S (nI 14) = sCountW v S 14 := by unfold sCount; rw [if_pos hx]; rfl
        refine z_aload_n 0 rfl rfl dX7_count_152 ?_
        refine zM_int 3 hp (by decide) rfl rfl rfl zf_X7_31 dX7_count_153 ?_
        exact z_iret dX7_count_156 (by rw [e9]; try rfl) rfl
      · refine z_tableIn 157 dX7_count_41 (by decide) (by decide) rfl rfl ?_
        have e9 : sCount v S (nI 15) = sCountW v S 15 := by unfold sCount; rw [if_pos hx]; rfl
        refine z_aload_n 0 rfl rfl dX7_count_157 ?_
        refine zM_int 7 hp (by decide) rfl rfl rfl zf_X7_158 dX7_count_158 ?_
        exact z_iret dX7_count_161 (by rw [e9]; try rfl) rfl
    · refine z_tableOut 162 dX7_count_41 (zIn_out (by decide) (by simpa using hx)) rfl ?_
      have e9 : sCount v S w = -2 := by unfold sCount; rw [if_neg hx]
      refine z_bipush (-2) dX7_count_162 (by decide) ?_
      exact z_iret dX7_count_164 (by rw [e9]; try rfl) rfl
  · have hl : i < nR v := Nat.lt_of_not_le (fun q => c11 ((nI_leI (by omega) (by omega)).mpr (by omega)))
    refine z_iload_n 2 rfl rfl dX7_count_14 ?_
    refine z_aload_n 0 rfl rfl dX7_count_15 ?_
    refine z_iload_n 3 rfl rfl dX7_count_16 ?_
    refine z_iconst (nI 3) dX7_count_17 rfl ?_
    refine zM_p2 zm_X7_of (c_X7_of hp _ _ (by omega) (by omega)) hp rfl rfl zl_X7_53 (by decide) (Nat.le_of_ble_eq_true rfl) dX7_count_18 ?_
    refine z_iload_n 1 rfl rfl dX7_count_21 ?_
    refine z_iconst (nI 3) dX7_count_22 rfl ?_
    refine z_isub dX7_count_23 ?_
    refine z_icmp_ne 31 dX7_count_24 rfl (fun c24 => ?_) (fun c24 => ?_)
    · refine z_iconst (nI 0) dX7_count_31 rfl ?_
      refine z_iaddN dX7_count_32 ?_
      refine z_istore_n 2 rfl (Nat.le_of_ble_eq_true rfl) rfl dX7_count_33 ?_
      refine z_iincN (n := 1) 3 rfl rfl dX7_count_34 ?_
      refine z_goto 4 dX7_count_37 rfl ?_
      first | exact ih hl _ (by rw [sCs, if_pos c24, ha]) | exact ih hl _ (by rw [sCs, if_neg c24, ha])
    · refine z_iconst (nI 1) dX7_count_27 rfl ?_
      refine z_goto 32 dX7_count_28 rfl ?_
      refine z_iaddN dX7_count_32 ?_
      refine z_istore_n 2 rfl (Nat.le_of_ble_eq_true rfl) rfl dX7_count_33 ?_
      refine z_iincN (n := 1) 3 rfl rfl dX7_count_34 ?_
      refine z_goto 4 dX7_count_37 rfl ?_
      first | exact ih hl _ (by rw [sCs, if_pos c24, ha]) | exact ih hl _ (by rw [sCs, if_neg c24, ha])
set_option maxRecDepth 4000 in
theorem c_X7_count {l : Launch} {G : zG} {A : Nat → Nat} {m0 mm : zM} {v : Nat → Int32} {S : Nat → Nat → Int32} (hp : zMP G A m0 v S mm) (w : Int32) (hK : zK v) : zSem l G (yX7_count, cX7_count, 4, (some .int)) 3 [.ref (A 0), .int w] mm (some (.int (sCount v S w))) (fun m' => m' = mm) := by
  have hJ := hK.2.1
  have hJ2 := hK.2.1.2
  have hD2 := hK.1.2
  refine z_met [some (.ref (A 0)), some (.int w), none, none] rfl (zc1 (by rfl)) (Nat.le_of_ble_eq_true rfl) rfl ?_
  refine z_iconst (nI 0) dX7_count_0 rfl ?_
  refine z_istore_n 2 rfl (Nat.le_of_ble_eq_true rfl) rfl dX7_count_1 ?_
  refine z_iconst (nI 0) dX7_count_2 rfl ?_
  refine z_istore_n 3 rfl (Nat.le_of_ble_eq_true rfl) rfl dX7_count_3 ?_
  exact l_X7_count hp w hK 0 (by omega) 0 rfl
