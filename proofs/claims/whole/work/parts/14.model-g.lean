/-! ===== the reference's history, spare, snapshot ===== -/
def zFill (v : Nat → Int32) (S : Nat → Nat → Int32) (m i : Nat) : Nat → Nat → Int32 := fun b k => if b = 3 ∧ 607 * m ≤ k ∧ k < 607 * m + i then v (k - 607 * m) else S b k
def zShift (S : Nat → Nat → Int32) (i : Nat) : Nat → Nat → Int32 := fun b k => if b = 3 ∧ k < i then S 3 (k + 607) else S b k
def sRec0 (v : Nat → Int32) (S : Nat → Nat → Int32) (m : Nat) : Nat → Nat → Int32 := suS (zFill v S m 607) 0 3 (nI (m + 1))
def sRec (v : Nat → Int32) (S : Nat → Nat → Int32) (n : Nat) : Nat → Nat → Int32 := if n = 4 then sRec0 v (suS (zShift S 1821) 0 3 (nI 3)) 3 else sRec0 v S n
theorem zFill_ne {v : Nat → Int32} {S : Nat → Nat → Int32} {m i b k : Nat} (h : b ≠ 3) : zFill v S m i b k = S b k := by unfold zFill; rw [if_neg (fun q => h q.1)]
theorem zShift_ne {S : Nat → Nat → Int32} {i b k : Nat} (h : b ≠ 3) : zShift S i b k = S b k := by unfold zShift; rw [if_neg (fun q => h q.1)]
theorem suS_ne {S : Nat → Nat → Int32} {j i b k : Nat} {x : Int32} (h : ¬ (b = j ∧ k = i)) : suS S j i x b k = S b k := by unfold suS; rw [if_neg h]
theorem suS_eq {S : Nat → Nat → Int32} {j i : Nat} {x : Int32} : suS S j i x j i = x := by unfold suS; rw [if_pos ⟨rfl, rfl⟩]
theorem zFill_0 (v : Nat → Int32) (S : Nat → Nat → Int32) (m : Nat) : zFill v S m 0 = S := by
  funext b k; unfold zFill; rw [if_neg (fun q => by omega)]
theorem zFill_s (v : Nat → Int32) (S : Nat → Nat → Int32) (m i : Nat) : suS (zFill v S m i) 3 (607 * m + i) (v i) = zFill v S m (i + 1) := by
  funext b k
  simp only [suS, zFill]
  by_cases e : b = 3 ∧ k = 607 * m + i
  · rw [if_pos e, if_pos (by omega)]; congr 1; omega
  · rw [if_neg e]
    by_cases h : b = 3 ∧ 607 * m ≤ k ∧ k < 607 * m + i
    · rw [if_pos h, if_pos (by omega)]
    · rw [if_neg h, if_neg (by omega)]
theorem zShift_0 (S : Nat → Nat → Int32) : zShift S 0 = S := by
  funext b k; unfold zShift; rw [if_neg (fun q => by omega)]
theorem zShift_s (S : Nat → Nat → Int32) (i : Nat) : suS (zShift S i) 3 i (zShift S i 3 (i + 607)) = zShift S (i + 1) := by
  funext b k
  simp only [suS, zShift]
  by_cases e : b = 3 ∧ k = i
  · rw [if_pos e, if_neg (by omega), if_pos (by omega), e.2]
  · rw [if_neg e]
    by_cases h : b = 3 ∧ k < i
    · rw [if_pos h, if_pos (by omega)]
    · rw [if_neg h, if_neg (by omega)]
set_option maxRecDepth 4000 in
theorem l_X7_record_b {l : Launch} {G : zG} {A : Nat → Nat} {m0 : zM} {v : Nat → Int32} {S : Nat → Nat → Int32} (m : Nat) (hm : m ≤ 3) (hS : S 0 3 = nI m) : ∀ i, i ≤ 607 → ∀ (mm : zM) (hp : zMP G A m0 v (zFill v S m i) mm), zV l G (yX7_record, cX7_record, 2, none) 1 none (fun m' => zMP G A m0 v (sRec0 v S m) m') 51 [some (.ref (A 0)), some (.int (nI i))] [] mm := by
  refine z_loop (607) (fun i hi ih mm hp => ?_)
  refine z_iload_n 1 rfl rfl dX7_record_51 ?_
  refine z_sipush (nI 607) dX7_record_52 rfl ?_
  refine z_icmp_ge 85 dX7_record_55 rfl (fun c55 => ?_) (fun c55 => ?_)
  · have e : i = 607 := by have := (nI_leI (by omega) (by omega)).mp c55; omega
    subst e
    refine z_aload_n 0 rfl rfl dX7_record_85 ?_
    refine z_dup dX7_record_86 rfl ?_
    refine zM_int 3 hp (by decide) rfl rfl rfl zf_X7_31 dX7_record_87 ?_
    rw [show zFill v S m 607 0 3 = nI m by rw [zFill_ne (by decide), hS]]
    refine z_iconst (nI 1) dX7_record_90 rfl ?_
    refine z_iaddN dX7_record_91 ?_
    refine zM_put 3 hp (by decide) rfl rfl rfl rfl rfl rfl rfl zf_X7_31 dX7_record_92 (fun mm hp => ?_)
    exact z_vret dX7_record_95 rfl hp
  · have hl : i < 607 := Nat.lt_of_not_le (fun q => c55 ((nI_leI (by omega) (by omega)).mpr (by omega)))
    refine z_aload_n 0 rfl rfl dX7_record_58 ?_
    refine zM_ref 2 3 hp (by decide) rfl (by decide) rfl rfl zf_X7_16 dX7_record_59 ?_
    refine z_sipush (nI 607) dX7_record_62 rfl ?_
    refine z_aload_n 0 rfl rfl dX7_record_65 ?_
    refine zM_int 3 hp (by decide) rfl rfl rfl zf_X7_31 dX7_record_66 ?_
    rw [show zFill v S m i 0 3 = nI m by rw [zFill_ne (by decide), hS]]
    refine z_imulN dX7_record_69 ?_
    refine z_iload_n 1 rfl rfl dX7_record_70 ?_
    refine z_iaddN dX7_record_71 ?_
    refine z_aload_n 0 rfl rfl dX7_record_72 ?_
    refine zM_ref 0 1 hp (by decide) rfl (by decide) rfl rfl zf_X7_7 dX7_record_73 ?_
    refine z_iload_n 1 rfl rfl dX7_record_76 ?_
    refine zM_vld hp (by omega) dX7_record_77 ?_
    refine zM_ast 3 2428 hp (by decide) (by decide) rfl (by decide) (by omega) dX7_record_78 (fun mm hp => ?_)
    rw [zFill_s] at hp
    refine z_iincN (n := 1) 1 rfl rfl dX7_record_79 ?_
    refine z_goto 51 dX7_record_82 rfl ?_
    exact ih hl _ hp
set_option maxRecDepth 4000 in
theorem l_X7_record_a {l : Launch} {G : zG} {A : Nat → Nat} {m0 : zM} {v : Nat → Int32} {S : Nat → Nat → Int32} (hS : S 0 3 = nI 4) : ∀ i, i ≤ 1821 → ∀ (mm : zM) (hp : zMP G A m0 v (zShift S i) mm), zV l G (yX7_record, cX7_record, 2, none) 1 none (fun m' => zMP G A m0 v (sRec0 v (suS (zShift S 1821) 0 3 (nI 3)) 3) m') 10 [some (.ref (A 0)), some (.int (nI i))] [] mm := by
  refine z_loop (1821) (fun i hi ih mm hp => ?_)
  refine z_iload_n 1 rfl rfl dX7_record_10 ?_
  refine z_sipush (nI 1821) dX7_record_11 rfl ?_
  refine z_icmp_ge 39 dX7_record_14 rfl (fun c14 => ?_) (fun c14 => ?_)
  · have e : i = 1821 := by have := (nI_leI (by omega) (by omega)).mp c14; omega
    subst e
    refine z_aload_n 0 rfl rfl dX7_record_39 ?_
    refine z_dup dX7_record_40 rfl ?_
    refine zM_int 3 hp (by decide) rfl rfl rfl zf_X7_31 dX7_record_41 ?_
    rw [show zShift S 1821 0 3 = nI 4 by rw [zShift_ne (by decide), hS]]
    refine z_iconst (nI 1) dX7_record_44 rfl ?_
    refine z_isubN (by omega) dX7_record_45 ?_
    refine zM_put 3 hp (by decide) rfl rfl rfl rfl rfl rfl rfl zf_X7_31 dX7_record_46 (fun mm hp => ?_)
    refine z_iconst (nI 0) dX7_record_49 rfl ?_
    refine z_istore_n 1 rfl (Nat.le_of_ble_eq_true rfl) rfl dX7_record_50 ?_
    exact l_X7_record_b 3 (by omega) suS_eq 0 (by omega) _ (by rw [zFill_0]; exact hp)
  · have hl : i < 1821 := Nat.lt_of_not_le (fun q => c14 ((nI_leI (by omega) (by omega)).mpr (by omega)))
    refine z_aload_n 0 rfl rfl dX7_record_17 ?_
    refine zM_ref 2 3 hp (by decide) rfl (by decide) rfl rfl zf_X7_16 dX7_record_18 ?_
    refine z_iload_n 1 rfl rfl dX7_record_21 ?_
    refine z_aload_n 0 rfl rfl dX7_record_22 ?_
    refine zM_ref 2 3 hp (by decide) rfl (by decide) rfl rfl zf_X7_16 dX7_record_23 ?_
    refine z_iload_n 1 rfl rfl dX7_record_26 ?_
    refine z_sipush (nI 607) dX7_record_27 rfl ?_
    refine z_iaddN dX7_record_30 ?_
    refine zM_ald 3 2428 hp (by decide) (by decide) rfl (by decide) (by omega) dX7_record_31 ?_
    refine zM_ast 3 2428 hp (by decide) (by decide) rfl (by decide) (by omega) dX7_record_32 (fun mm hp => ?_)
    rw [zShift_s] at hp
    refine z_iincN (n := 1) 1 rfl rfl dX7_record_33 ?_
    refine z_goto 10 dX7_record_36 rfl ?_
    exact ih hl _ hp
set_option maxRecDepth 4000 in
theorem c_X7_record {l : Launch} {G : zG} {A : Nat → Nat} {m0 mm : zM} {v : Nat → Int32} {S : Nat → Nat → Int32} (hp : zMP G A m0 v S mm) (n : Nat) (hn : n ≤ 4) (hS : S 0 3 = nI n) : zSem l G (yX7_record, cX7_record, 2, none) 1 [.ref (A 0)] mm none (fun m' => zMP G A m0 v (sRec v S n) m') := by
  refine z_met [some (.ref (A 0)), none] rfl (zc1 (by rfl)) (Nat.le_of_ble_eq_true rfl) rfl ?_
  refine z_aload_n 0 rfl rfl dX7_record_0 ?_
  refine zM_int 3 hp (by decide) rfl rfl rfl zf_X7_31 dX7_record_1 ?_
  rw [hS]
  refine z_iconst (nI 4) dX7_record_4 rfl ?_
  refine z_icmp_ne 49 dX7_record_5 rfl (fun c5 => ?_) (fun c5 => ?_)
  · have e : sRec v S n = sRec0 v S n := if_neg (fun q => c5 (by rw [q]))
    have h4 : n ≤ 3 := by rcases Nat.lt_or_ge n 4 with q | q; omega; exact absurd (by rw [show n = 4 by omega]) c5
    rw [e]
    refine z_iconst (nI 0) dX7_record_49 rfl ?_
    refine z_istore_n 1 rfl (Nat.le_of_ble_eq_true rfl) rfl dX7_record_50 ?_
    exact l_X7_record_b n h4 hS 0 (by omega) _ (by rw [zFill_0]; exact hp)
  · have h4 : n = 4 := (nI_eq (by omega) (by omega)).mp c5
    subst h4
    have e : sRec v S 4 = sRec0 v (suS (zShift S 1821) 0 3 (nI 3)) 3 := if_pos rfl
    rw [e]
    refine z_iconst (nI 0) dX7_record_8 rfl ?_
    refine z_istore_n 1 rfl (Nat.le_of_ble_eq_true rfl) rfl dX7_record_9 ?_
    exact l_X7_record_a hS 0 (by omega) _ (by rw [zShift_0]; exact hp)
def zAs (v : Nat → Int32) (S : Nat → Nat → Int32) (i : Nat) : Nat → Nat → Int32 := fun b k => if b = 2 ∧ k < i then v k else S b k
def zBr (v w : Nat → Int32) (i : Nat) : Nat → Int32 := fun k => if k < i then w k else v k
theorem zAs_0 (v : Nat → Int32) (S : Nat → Nat → Int32) : zAs v S 0 = S := by funext b k; unfold zAs; rw [if_neg (fun q => by omega)]
theorem zAs_ne {v : Nat → Int32} {S : Nat → Nat → Int32} {i b k : Nat} (h : b ≠ 2) : zAs v S i b k = S b k := by unfold zAs; rw [if_neg (fun q => h q.1)]
theorem zAs_s (v : Nat → Int32) (S : Nat → Nat → Int32) (i : Nat) : suS (zAs v S i) 2 i (v i) = zAs v S (i + 1) := by
  funext b k
  simp only [suS, zAs]
  by_cases e : b = 2 ∧ k = i
  · rw [if_pos e, if_pos (by omega), e.2]
  · rw [if_neg e]
    by_cases h : b = 2 ∧ k < i
    · rw [if_pos h, if_pos (by omega)]
    · rw [if_neg h, if_neg (by omega)]
theorem zBr_0 (v w : Nat → Int32) : zBr v w 0 = v := by funext k; unfold zBr; rw [if_neg (by omega)]
theorem zBr_s (v w : Nat → Int32) (i : Nat) : upd (zBr v w i) i (w i) = zBr v w (i + 1) := by
  funext k
  simp only [upd, zBr]
  by_cases e : k = i
  · rw [if_pos e, if_pos (by omega), e]
  · rw [if_neg e]
    by_cases h : k < i
    · rw [if_pos h, if_pos (by omega)]
    · rw [if_neg h, if_neg (by omega)]
theorem zBr_self (v w : Nat → Int32) {i : Nat} : zBr v w i i = v i := by unfold zBr; rw [if_neg (by omega)]
set_option maxRecDepth 4000 in
theorem l_X7_aside {l : Launch} {G : zG} {A : Nat → Nat} {m0 : zM} {v : Nat → Int32} {S : Nat → Nat → Int32} : ∀ i, i ≤ 607 → ∀ (mm : zM) (hp : zMP G A m0 v (zAs v S i) mm), zV l G (yX7_aside, cX7_aside, 2, none) 1 none (fun m' => zMP G A m0 v (zAs v S 607) m') 2 [some (.ref (A 0)), some (.int (nI i))] [] mm := by
  refine z_loop (607) (fun i hi ih mm hp => ?_)
  refine z_iload_n 1 rfl rfl dX7_aside_2 ?_
  refine z_sipush (nI 607) dX7_aside_3 rfl ?_
  refine z_icmp_ge 27 dX7_aside_6 rfl (fun c6 => ?_) (fun c6 => ?_)
  · have e : i = 607 := by have := (nI_leI (by omega) (by omega)).mp c6; omega
    subst e
    exact z_vret dX7_aside_27 rfl hp
  · have hl : i < 607 := Nat.lt_of_not_le (fun q => c6 ((nI_leI (by omega) (by omega)).mpr (by omega)))
    refine z_aload_n 0 rfl rfl dX7_aside_9 ?_
    refine zM_ref 1 2 hp (by decide) rfl (by decide) rfl rfl zf_X7_13 dX7_aside_10 ?_
    refine z_iload_n 1 rfl rfl dX7_aside_13 ?_
    refine z_aload_n 0 rfl rfl dX7_aside_14 ?_
    refine zM_ref 0 1 hp (by decide) rfl (by decide) rfl rfl zf_X7_7 dX7_aside_15 ?_
    refine z_iload_n 1 rfl rfl dX7_aside_18 ?_
    refine zM_vld hp (by omega) dX7_aside_19 ?_
    refine zM_ast 2 607 hp (by decide) (by decide) rfl (by decide) (by omega) dX7_aside_20 (fun mm hp => ?_)
    rw [zAs_s] at hp
    refine z_iincN (n := 1) 1 rfl rfl dX7_aside_21 ?_
    refine z_goto 2 dX7_aside_24 rfl ?_
    exact ih hl _ hp
set_option maxRecDepth 4000 in
theorem c_X7_aside {l : Launch} {G : zG} {A : Nat → Nat} {m0 mm : zM} {v : Nat → Int32} {S : Nat → Nat → Int32} (hp : zMP G A m0 v S mm) : zSem l G (yX7_aside, cX7_aside, 2, none) 1 [.ref (A 0)] mm none (fun m' => zMP G A m0 (v) (zAs v S 607) m') := by
  refine z_met [some (.ref (A 0)), none] rfl (zc1 (by rfl)) (Nat.le_of_ble_eq_true rfl) rfl ?_
  refine z_iconst (nI 0) dX7_aside_0 rfl ?_
  refine z_istore_n 1 rfl (Nat.le_of_ble_eq_true rfl) rfl dX7_aside_1 ?_
  exact l_X7_aside 0 (by omega) _ (by rw [zAs_0]; exact hp)
set_option maxRecDepth 4000 in
theorem l_X7_bringBack {l : Launch} {G : zG} {A : Nat → Nat} {m0 : zM} {v : Nat → Int32} {S : Nat → Nat → Int32} : ∀ i, i ≤ 607 → ∀ (mm : zM) (hp : zMP G A m0 (zBr v (S 2) i) S mm), zV l G (yX7_bringBack, cX7_bringBack, 2, none) 1 none (fun m' => zMP G A m0 (zBr v (S 2) 607) S m') 2 [some (.ref (A 0)), some (.int (nI i))] [] mm := by
  refine z_loop (607) (fun i hi ih mm hp => ?_)
  refine z_iload_n 1 rfl rfl dX7_bringBack_2 ?_
  refine z_sipush (nI 607) dX7_bringBack_3 rfl ?_
  refine z_icmp_ge 27 dX7_bringBack_6 rfl (fun c6 => ?_) (fun c6 => ?_)
  · have e : i = 607 := by have := (nI_leI (by omega) (by omega)).mp c6; omega
    subst e
    exact z_vret dX7_bringBack_27 rfl hp
  · have hl : i < 607 := Nat.lt_of_not_le (fun q => c6 ((nI_leI (by omega) (by omega)).mpr (by omega)))
    refine z_aload_n 0 rfl rfl dX7_bringBack_9 ?_
    refine zM_ref 0 1 hp (by decide) rfl (by decide) rfl rfl zf_X7_7 dX7_bringBack_10 ?_
    refine z_iload_n 1 rfl rfl dX7_bringBack_13 ?_
    refine z_aload_n 0 rfl rfl dX7_bringBack_14 ?_
    refine zM_ref 1 2 hp (by decide) rfl (by decide) rfl rfl zf_X7_13 dX7_bringBack_15 ?_
    refine z_iload_n 1 rfl rfl dX7_bringBack_18 ?_
    refine zM_ald 2 607 hp (by decide) (by decide) rfl (by decide) (by omega) dX7_bringBack_19 ?_
    refine zM_vst hp (by omega) dX7_bringBack_20 (fun mm hp => ?_)
    rw [zBr_s] at hp
    refine z_iincN (n := 1) 1 rfl rfl dX7_bringBack_21 ?_
    refine z_goto 2 dX7_bringBack_24 rfl ?_
    exact ih hl _ hp
set_option maxRecDepth 4000 in
theorem c_X7_bringBack {l : Launch} {G : zG} {A : Nat → Nat} {m0 mm : zM} {v : Nat → Int32} {S : Nat → Nat → Int32} (hp : zMP G A m0 v S mm) : zSem l G (yX7_bringBack, cX7_bringBack, 2, none) 1 [.ref (A 0)] mm none (fun m' => zMP G A m0 (zBr v (S 2) 607) S m') := by
  refine z_met [some (.ref (A 0)), none] rfl (zc1 (by rfl)) (Nat.le_of_ble_eq_true rfl) rfl ?_
  refine z_iconst (nI 0) dX7_bringBack_0 rfl ?_
  refine z_istore_n 1 rfl (Nat.le_of_ble_eq_true rfl) rfl dX7_bringBack_1 ?_
  exact l_X7_bringBack 0 (by omega) _ (by rw [zBr_0]; exact hp)
def sActS (v : Nat → Int32) (S : Nat → Nat → Int32) (n : Nat) : Nat → Nat → Int32 := sRec (zBr v (S 2) 607) (zAs v S 607) n
theorem sRec_ne {v : Nat → Int32} {S : Nat → Nat → Int32} {n b k : Nat} (h3 : b ≠ 3) (h0 : ¬ (b = 0 ∧ k = 3)) : sRec v S n b k = S b k := by
  unfold sRec sRec0
  split
  · rw [suS_ne h0, zFill_ne h3, suS_ne h0, zShift_ne h3]
  · rw [suS_ne h0, zFill_ne h3]
theorem zBr_back (v : Nat → Int32) (S : Nat → Nat → Int32) (n : Nat) : zBr (zBr v (S 2) 607) (sActS v S n 2) 607 = v := by
  funext k
  unfold zBr
  by_cases h : k < 607
  · rw [if_pos h]
    unfold sActS
    rw [sRec_ne (by decide) (by omega)]
    unfold zAs
    rw [if_pos ⟨rfl, h⟩]
  · rw [if_neg h, if_neg h]
def sActd (x : Int32) (v : Nat → Int32) (S : Nat → Nat → Int32) (n : Nat) : Nat → Nat → Int32 := if 0 ≤ x then sActS v S n else S
set_option maxRecDepth 4000 in
theorem l_X7_acted {l : Launch} {G : zG} {A : Nat → Nat} {m0 : zM} {v : Nat → Int32} {S : Nat → Nat → Int32} (x : Int32) (n : Nat) (hn : n ≤ 4) (hS : S 0 3 = nI n) : ∀ i, i ≤ 607 → ∀ (x3 : Option Value) (mm : zM) (hp : zMP G A m0 (zBr v (S 2) i) (zAs v S i) mm), zV l G (yX7_acted, cX7_acted, 4, (some .int)) 2 (some (.int x)) (fun m' => zMP G A m0 v (sActS v S n) m') 6 [some (.ref (A 0)), some (.int x), some (.int (nI i)), x3] [] mm := by
  refine z_loop (607) (fun i hi ih x3 mm hp => ?_)
  refine z_iload_n 2 rfl rfl dX7_acted_6 ?_
  refine z_sipush (nI 607) dX7_acted_7 rfl ?_
  refine z_icmp_ge 45 dX7_acted_10 rfl (fun c10 => ?_) (fun c10 => ?_)
  · have e : i = 607 := by have := (nI_leI (by omega) (by omega)).mp c10; omega
    subst e
    have hS2 : zAs v S 607 0 3 = nI n := (zAs_ne (by decide)).trans hS
    refine z_aload_n 0 rfl rfl dX7_acted_45 ?_
    refine zM_v0 zm_X7_record (c_X7_record hp n hn hS2) hp rfl rfl zl_X7_124 (by decide) (Nat.le_of_ble_eq_true rfl) dX7_acted_46 (fun mm hp => ?_)
    refine z_aload_n 0 rfl rfl dX7_acted_49 ?_
    refine zM_v0 zm_X7_bringBack (c_X7_bringBack hp) hp rfl rfl zl_X7_127 (by decide) (Nat.le_of_ble_eq_true rfl) dX7_acted_50 (fun mm hp => ?_)
    have hp : zMP G A m0 (zBr (zBr v (S 2) 607) (sActS v S n 2) 607) (sActS v S n) mm := hp
    rw [zBr_back] at hp
    refine z_iload_n 1 rfl rfl dX7_acted_53 ?_
    exact z_iret dX7_acted_54 rfl hp
  · have hl : i < 607 := Nat.lt_of_not_le (fun q => c10 ((nI_leI (by omega) (by omega)).mpr (by omega)))
    refine z_aload_n 0 rfl rfl dX7_acted_13 ?_
    refine zM_ref 0 1 hp (by decide) rfl (by decide) rfl rfl zf_X7_7 dX7_acted_14 ?_
    refine z_iload_n 2 rfl rfl dX7_acted_17 ?_
    refine zM_vld hp (by omega) dX7_acted_18 ?_
    rw [zBr_self]
    refine z_istore_n 3 rfl (Nat.le_of_ble_eq_true rfl) rfl dX7_acted_19 ?_
    refine z_aload_n 0 rfl rfl dX7_acted_20 ?_
    refine zM_ref 0 1 hp (by decide) rfl (by decide) rfl rfl zf_X7_7 dX7_acted_21 ?_
    refine z_iload_n 2 rfl rfl dX7_acted_24 ?_
    refine z_aload_n 0 rfl rfl dX7_acted_25 ?_
    refine zM_ref 1 2 hp (by decide) rfl (by decide) rfl rfl zf_X7_13 dX7_acted_26 ?_
    refine z_iload_n 2 rfl rfl dX7_acted_29 ?_
    refine zM_ald 2 607 hp (by decide) (by decide) rfl (by decide) (by omega) dX7_acted_30 ?_
    rw [show zAs v S i 2 i = S 2 i by unfold zAs; rw [if_neg (by omega)]]
    refine zM_vst hp (by omega) dX7_acted_31 (fun mm hp => ?_)
    rw [zBr_s] at hp
    refine z_aload_n 0 rfl rfl dX7_acted_32 ?_
    refine zM_ref 1 2 hp (by decide) rfl (by decide) rfl rfl zf_X7_13 dX7_acted_33 ?_
    refine z_iload_n 2 rfl rfl dX7_acted_36 ?_
    refine z_iload_n 3 rfl rfl dX7_acted_37 ?_
    refine zM_ast 2 607 hp (by decide) (by decide) rfl (by decide) (by omega) dX7_acted_38 (fun mm hp => ?_)
    rw [zAs_s] at hp
    refine z_iincN (n := 1) 2 rfl rfl dX7_acted_39 ?_
    refine z_goto 6 dX7_acted_42 rfl ?_
    exact ih hl _ _ hp
set_option maxRecDepth 4000 in
theorem c_X7_acted {l : Launch} {G : zG} {A : Nat → Nat} {m0 mm : zM} {v : Nat → Int32} {S : Nat → Nat → Int32} (hp : zMP G A m0 v S mm) (x : Int32) (n : Nat) (hn : n ≤ 4) (hS : S 0 3 = nI n) : zSem l G (yX7_acted, cX7_acted, 4, (some .int)) 2 [.ref (A 0), .int x] mm (some (.int x)) (fun m' => zMP G A m0 (v) (sActd x v S n) m') := by
  refine z_met [some (.ref (A 0)), some (.int x), none, none] rfl (zc1 (by rfl)) (Nat.le_of_ble_eq_true rfl) rfl ?_
  refine z_iload_n 1 rfl rfl dX7_acted_0 ?_
  refine z_if_lt 53 dX7_acted_1 rfl (fun c1 => ?_) (fun c1 => ?_)
  · have e : sActd x v S n = S := if_neg (i_not_le.mpr c1)
    rw [e]
    refine z_iload_n 1 rfl rfl dX7_acted_53 ?_
    exact z_iret dX7_acted_54 rfl hp
  · have e : sActd x v S n = sActS v S n := if_pos (i_not_lt.mp c1)
    rw [e]
    refine z_iconst (nI 0) dX7_acted_4 rfl ?_
    refine z_istore_n 2 rfl (Nat.le_of_ble_eq_true rfl) rfl dX7_acted_5 ?_
    exact l_X7_acted x n hn hS 0 (by omega) _ _ (by rw [zBr_0, zAs_0]; exact hp)
theorem zAs_03 {v : Nat → Int32} {S : Nat → Nat → Int32} {n : Nat} (h : S 0 3 = nI n) : zAs v S 607 0 3 = nI n := (zAs_ne (by decide)).trans h
set_option maxRecDepth 4000 in
theorem c_X7_buy {l : Launch} {G : zG} {A : Nat → Nat} {m0 mm : zM} {v : Nat → Int32} {S : Nat → Nat → Int32} (hp : zMP G A m0 v S mm) (x y : Int32) (hK : zK v) (n : Nat) (hn : n ≤ 4) (hS : S 0 3 = nI n) : zSem l G (yX7_buy, cX7_buy, 3, (some .int)) 8 [.ref (A 0), .int x, .int y] mm (some (.int (sDoBuy v x y).1)) (fun m' => zMP G A m0 ((sDoBuy v x y).2) (sActd (sDoBuy v x y).1 (sDoBuy v x y).2 (zAs v S 607) n) m') := by
  refine z_met [some (.ref (A 0)), some (.int x), some (.int y)] rfl (zc1 (by rfl)) (Nat.le_of_ble_eq_true rfl) rfl ?_
  refine z_aload_n 0 rfl rfl dX7_buy_0 ?_
  refine zM_v0 zm_X7_aside (c_X7_aside hp) hp rfl rfl zl_X7_130 (by decide) (Nat.le_of_ble_eq_true rfl) dX7_buy_1 (fun mm hp => ?_)
  refine z_aload_n 0 rfl rfl dX7_buy_4 ?_
  refine z_aload_n 0 rfl rfl dX7_buy_5 ?_
  refine z_iload_n 1 rfl rfl dX7_buy_6 ?_
  refine z_iload_n 2 rfl rfl dX7_buy_7 ?_
  refine zM_u2 zm_X7_doBuy (c_X7_doBuy hp _ _ (by assumption)) hp rfl rfl zl_X7_133 (by decide) (Nat.le_of_ble_eq_true rfl) dX7_buy_8 (fun mm hp => ?_)
  refine zM_u1 zm_X7_acted (c_X7_acted hp _ n hn (zAs_03 hS)) hp rfl rfl zl_X7_136 (by decide) (Nat.le_of_ble_eq_true rfl) dX7_buy_11 (fun mm hp => ?_)
  exact z_iret dX7_buy_14 rfl hp
set_option maxRecDepth 4000 in
theorem c_X7_buyOffered {l : Launch} {G : zG} {A : Nat → Nat} {m0 mm : zM} {v : Nat → Int32} {S : Nat → Nat → Int32} (hp : zMP G A m0 v S mm) (x y : Int32) (hK : zK v) (n : Nat) (hn : n ≤ 4) (hS : S 0 3 = nI n) : zSem l G (yX7_buyOffered, cX7_buyOffered, 3, (some .int)) 6 [.ref (A 0), .int x, .int y] mm (some (.int (sDoOff v x y).1)) (fun m' => zMP G A m0 ((sDoOff v x y).2) (sActd (sDoOff v x y).1 (sDoOff v x y).2 (zAs v S 607) n) m') := by
  refine z_met [some (.ref (A 0)), some (.int x), some (.int y)] rfl (zc1 (by rfl)) (Nat.le_of_ble_eq_true rfl) rfl ?_
  refine z_aload_n 0 rfl rfl dX7_buyOffered_0 ?_
  refine zM_v0 zm_X7_aside (c_X7_aside hp) hp rfl rfl zl_X7_130 (by decide) (Nat.le_of_ble_eq_true rfl) dX7_buyOffered_1 (fun mm hp => ?_)
  refine z_aload_n 0 rfl rfl dX7_buyOffered_4 ?_
  refine z_aload_n 0 rfl rfl dX7_buyOffered_5 ?_
  refine z_iload_n 1 rfl rfl dX7_buyOffered_6 ?_
  refine z_iload_n 2 rfl rfl dX7_buyOffered_7 ?_
  refine zM_u2 zm_X7_doBuyOffered (c_X7_doBuyOffered hp _ _ (by assumption)) hp rfl rfl zl_X7_139 (by decide) (Nat.le_of_ble_eq_true rfl) dX7_buyOffered_8 (fun mm hp => ?_)
  refine zM_u1 zm_X7_acted (c_X7_acted hp _ n hn (zAs_03 hS)) hp rfl rfl zl_X7_136 (by decide) (Nat.le_of_ble_eq_true rfl) dX7_buyOffered_11 (fun mm hp => ?_)
  exact z_iret dX7_buyOffered_14 rfl hp
set_option maxRecDepth 4000 in
theorem c_X7_cancel {l : Launch} {G : zG} {A : Nat → Nat} {m0 mm : zM} {v : Nat → Int32} {S : Nat → Nat → Int32} (hp : zMP G A m0 v S mm) (x : Int32) (hK : zK v) (hO : zOpn v) (n : Nat) (hn : n ≤ 4) (hS : S 0 3 = nI n) : zSem l G (yX7_cancel, cX7_cancel, 2, (some .int)) 9 [.ref (A 0), .int x] mm (some (.int (sDoCan v x).1)) (fun m' => zMP G A m0 ((sDoCan v x).2) (sActd (sDoCan v x).1 (sDoCan v x).2 (zAs v S 607) n) m') := by
  refine z_met [some (.ref (A 0)), some (.int x)] rfl (zc1 (by rfl)) (Nat.le_of_ble_eq_true rfl) rfl ?_
  refine z_aload_n 0 rfl rfl dX7_cancel_0 ?_
  refine zM_v0 zm_X7_aside (c_X7_aside hp) hp rfl rfl zl_X7_130 (by decide) (Nat.le_of_ble_eq_true rfl) dX7_cancel_1 (fun mm hp => ?_)
  refine z_aload_n 0 rfl rfl dX7_cancel_4 ?_
  refine z_aload_n 0 rfl rfl dX7_cancel_5 ?_
  refine z_iload_n 1 rfl rfl dX7_cancel_6 ?_
  refine zM_u1 zm_X7_doCancel (c_X7_doCancel hp _ (by assumption) (by assumption)) hp rfl rfl zl_X7_142 (by decide) (Nat.le_of_ble_eq_true rfl) dX7_cancel_7 (fun mm hp => ?_)
  refine zM_u1 zm_X7_acted (c_X7_acted hp _ n hn (zAs_03 hS)) hp rfl rfl zl_X7_136 (by decide) (Nat.le_of_ble_eq_true rfl) dX7_cancel_10 (fun mm hp => ?_)
  exact z_iret dX7_cancel_13 rfl hp
set_option maxRecDepth 4000 in
theorem c_X7_offer {l : Launch} {G : zG} {A : Nat → Nat} {m0 mm : zM} {v : Nat → Int32} {S : Nat → Nat → Int32} (hp : zMP G A m0 v S mm) (x y : Int32) (hK : zK v) (n : Nat) (hn : n ≤ 4) (hS : S 0 3 = nI n) : zSem l G (yX7_offer, cX7_offer, 3, (some .int)) 5 [.ref (A 0), .int x, .int y] mm (some (.int (sDoOfr v x y).1)) (fun m' => zMP G A m0 ((sDoOfr v x y).2) (sActd (sDoOfr v x y).1 (sDoOfr v x y).2 (zAs v S 607) n) m') := by
  refine z_met [some (.ref (A 0)), some (.int x), some (.int y)] rfl (zc1 (by rfl)) (Nat.le_of_ble_eq_true rfl) rfl ?_
  refine z_aload_n 0 rfl rfl dX7_offer_0 ?_
  refine zM_v0 zm_X7_aside (c_X7_aside hp) hp rfl rfl zl_X7_130 (by decide) (Nat.le_of_ble_eq_true rfl) dX7_offer_1 (fun mm hp => ?_)
  refine z_aload_n 0 rfl rfl dX7_offer_4 ?_
  refine z_aload_n 0 rfl rfl dX7_offer_5 ?_
  refine z_iload_n 1 rfl rfl dX7_offer_6 ?_
  refine z_iload_n 2 rfl rfl dX7_offer_7 ?_
  refine zM_u2 zm_X7_doOffer (c_X7_doOffer hp _ _ (by assumption)) hp rfl rfl zl_X7_145 (by decide) (Nat.le_of_ble_eq_true rfl) dX7_offer_8 (fun mm hp => ?_)
  refine zM_u1 zm_X7_acted (c_X7_acted hp _ n hn (zAs_03 hS)) hp rfl rfl zl_X7_136 (by decide) (Nat.le_of_ble_eq_true rfl) dX7_offer_11 (fun mm hp => ?_)
  exact z_iret dX7_offer_14 rfl hp
set_option maxRecDepth 4000 in
theorem c_X7_exercise {l : Launch} {G : zG} {A : Nat → Nat} {m0 mm : zM} {v : Nat → Int32} {S : Nat → Nat → Int32} (hp : zMP G A m0 v S mm) (x : Int32) (hK : zK v) (n : Nat) (hn : n ≤ 4) (hS : S 0 3 = nI n) : zSem l G (yX7_exercise, cX7_exercise, 2, (some .int)) 6 [.ref (A 0), .int x] mm (some (.int (sDoEx v x).1)) (fun m' => zMP G A m0 ((sDoEx v x).2) (sActd (sDoEx v x).1 (sDoEx v x).2 (zAs v S 607) n) m') := by
  refine z_met [some (.ref (A 0)), some (.int x)] rfl (zc1 (by rfl)) (Nat.le_of_ble_eq_true rfl) rfl ?_
  refine z_aload_n 0 rfl rfl dX7_exercise_0 ?_
  refine zM_v0 zm_X7_aside (c_X7_aside hp) hp rfl rfl zl_X7_130 (by decide) (Nat.le_of_ble_eq_true rfl) dX7_exercise_1 (fun mm hp => ?_)
  refine z_aload_n 0 rfl rfl dX7_exercise_4 ?_
  refine z_aload_n 0 rfl rfl dX7_exercise_5 ?_
  refine z_iload_n 1 rfl rfl dX7_exercise_6 ?_
  refine zM_u1 zm_X7_doExercise (c_X7_doExercise hp _ (by assumption)) hp rfl rfl zl_X7_148 (by decide) (Nat.le_of_ble_eq_true rfl) dX7_exercise_7 (fun mm hp => ?_)
  refine zM_u1 zm_X7_acted (c_X7_acted hp _ n hn (zAs_03 hS)) hp rfl rfl zl_X7_136 (by decide) (Nat.le_of_ble_eq_true rfl) dX7_exercise_10 (fun mm hp => ?_)
  exact z_iret dX7_exercise_13 rfl hp
