theorem z_isubN {l : Launch} {G : zG} {y : MethodName} {cc : ByteArray} {nL : Nat} {ret : Option FieldType} {d : Nat} {rv : Option Value} {Q : zM → Prop} {pc : Nat} {lv : List (Option Value)} {st : List Value} {mm : zM} {a b : Nat} (h : b ≤ a) (hd : decode cc pc = .ok (.isub, 1)) (k : zV l G (y, cc, nL, ret) d rv Q (pc + 1) lv (.int (nI (a - b)) :: st) mm) : zV l G (y, cc, nL, ret) d rv Q pc lv (.int (nI b) :: .int (nI a) :: st) mm := by
  refine z_isub hd ?_
  have e : nI a - nI b = nI (a - b) := by
    have : nI a = nI (a - b) + nI b := by rw [nI_add]; congr 1; omega
    rw [this]; simp
  rw [e]; exact k
theorem zIn_nI {x : Int32} {n : Nat} (hn : n < 2 ^ 31) (h : zIn x (nI 0) (nI n) = true) : ∃ j, j ≤ n ∧ x = nI j := by
  unfold zIn at h
  rw [Bool.and_eq_true, decide_eq_true_eq, decide_eq_true_eq] at h
  obtain ⟨j, hj, e⟩ := nI_of (x := x) (by rw [i_not_lt]; exact h.1)
  subst e
  exact ⟨j, (nI_leI hj hn).mp h.2, rfl⟩
theorem zIn_nIp {x : Int32} {n : Nat} (hn : n < 2 ^ 31) (h : zIn x (nI 0) (nI n - nI 1) = true) : ∃ j, j < n ∧ x = nI j := by
  cases n with
  | zero =>
    unfold zIn at h
    rw [Bool.and_eq_true, decide_eq_true_eq, decide_eq_true_eq] at h
    exact absurd (Int32.le_trans h.1 h.2) (by decide)
  | succ n =>
    have e : nI (n + 1) - nI 1 = nI n := nI_pred n
    rw [e] at h
    obtain ⟨j, h1, h2⟩ := zIn_nI (by omega) h
    exact ⟨j, by omega, h2⟩
/-- the price by the rule at so many days left -/
def sPrice (v : Nat → Int32) (d : Nat) (left : Int32) : Int32 :=
  if v (27 + 12 * d + 4) = nI 1 then v (27 + 12 * d + 3) + v (27 + 12 * d + 3) * nI (sOut v d) / v (27 + 12 * d + 1)
  else if v (27 + 12 * d + 4) = 0 then v (27 + 12 * d + 3)
  else v (27 + 12 * d + 3) * (nI 100 + nI 2 * (if nI 30 < left then nI 0 else nI 30 - left)) / nI 100
def sMost (v : Nat → Int32) (d : Nat) : Int32 := v (27 + 12 * d + 1) + (if v 3 < sLeft v d then v (27 + 12 * d + 2) else nI 0) - nI (sOut v d)
def sSell0 (v : Nat → Int32) (d : Nat) : Int32 := if sMost v d < nI 60 - v 2 then sMost v d else nI 60 - v 2
def sCan (v : Nat → Int32) (d : Nat) : Int32 := if 0 < sSell0 v d ∧ sOpen v d = true then sSell0 v d else nI 0
def sStage (v : Nat → Int32) (d : Nat) : Nat := if v 9 ≤ sLeft v d then 0 else if v 11 ≤ sLeft v d then 1 else if v 13 ≤ sLeft v d then 2 else 3
def sLow (v : Nat → Int32) (d : Nat) (s : Int32) (w : Nat) : Nat → Option Nat
  | 0 => none
  | n + 1 => if v (147 + 7 * n + 0) = nI d ∧ v (147 + 7 * n + 3) = s then (match sLow v d s w n with
      | none => some n
      | some b => if v (147 + 7 * n + w) < v (147 + 7 * b + w) then some n else some b) else sLow v d s w n
def zO (o : Option Nat) : Int32 := match o with
  | none => -1
  | some r => nI r
theorem sLow_lt {v : Nat → Int32} {d : Nat} {s : Int32} {w : Nat} : ∀ {n b : Nat}, sLow v d s w n = some b → b < n
  | 0, _, h => by simp [sLow] at h
  | n + 1, b, h => by
    unfold sLow at h
    split at h
    · split at h
      · cases h; omega
      · rename_i b' hb
        split at h
        · cases h; omega
        · cases h; have := sLow_lt hb; omega
    · have := sLow_lt h; omega
def sRef (v : Nat → Int32) (r d : Nat) : Int32 := v (147 + 7 * r + 2) - v (147 + 7 * r + 2) * v (9 + 2 * sStage v d + 1) / nI 100
def sEx (v : Nat → Int32) (r d : Nat) : Bool := decide (v (147 + 7 * r + 3) = 0) && (zIn (sLeft v d) (nI 1) (v 5) && decide (nI (sOf v d (nI 2) (nI 2)) < v (27 + 12 * d + 1)))
def sPl (v : Nat → Int32) (d : Nat) (h : Int32) : Nat → Int32
  | 0 => -5
  | n + 1 => if v (27 + 12 * d + (6 + n)) = h then nI n else sPl v d h n
set_option maxRecDepth 4000 in
theorem l_X7_rightsOf {l : Launch} {G : zG} {A : Nat → Nat} {m0 mm : zM} {v : Nat → Int32} {S : Nat → Nat → Int32} (hp : zMP G A m0 v S mm) (d : Nat) (lo hi0 : Int32) (hJ : zJ2 v) : ∀ i, i ≤ nR v → ∀ (cnt : Nat) (hc : cnt = sCnt v d lo hi0 i), zV l G (yX7_rightsOf, cX7_rightsOf, 6, (some .int)) 3 (some (.int (nI (sOf v d lo hi0)))) (fun m' => m' = mm) 6 [some (.ref (A 0)), some (.int (nI d)), some (.int lo), some (.int hi0), some (.int (nI cnt)), some (.int (nI i))] [] mm := by
  have hJ2 := hJ.2
  refine z_loop (nR v) (fun i hi ih cnt hc => ?_)
  refine z_iload 5 rfl dX7_rightsOf_6 ?_
  refine z_aload_n 0 rfl rfl dX7_rightsOf_8 ?_
  refine zM_ref 0 1 hp (by decide) rfl (by decide) rfl rfl zf_X7_7 dX7_rightsOf_9 ?_
  refine z_iconst (nI 2) dX7_rightsOf_12 rfl ?_
  refine zM_vld hp (by omega) dX7_rightsOf_13 ?_
  refine z_icmp_ge 59 dX7_rightsOf_14 rfl (fun c14 => ?_) (fun c14 => ?_)
  · have e : i = nR v := by rw [hJ.1] at c14; have := (nI_leI (by omega) (by omega)).mp c14; omega
    refine z_iload 4 rfl dX7_rightsOf_59 ?_
    exact z_iret dX7_rightsOf_61 (by subst e; rw [hc]; rfl) rfl
  · have hl : i < nR v := by rw [hJ.1] at c14; exact Nat.lt_of_not_le (fun q => c14 ((nI_leI (by omega) (by omega)).mpr q))
    refine z_iload 4 rfl dX7_rightsOf_17 ?_
    refine z_aload_n 0 rfl rfl dX7_rightsOf_19 ?_
    refine z_iload 5 rfl dX7_rightsOf_20 ?_
    refine z_iconst (nI 0) dX7_rightsOf_22 rfl ?_
    refine zM_p2 zm_X7_of (c_X7_of hp _ _ (by omega) (by omega)) hp rfl rfl zl_X7_53 (by decide) (Nat.le_of_ble_eq_true rfl) dX7_rightsOf_23 ?_
    refine z_iload_n 1 rfl rfl dX7_rightsOf_26 ?_
    refine z_icmp_ne 49 dX7_rightsOf_27 rfl (fun c27 => ?_) (fun c27 => ?_)
    · refine z_iconst (nI 0) dX7_rightsOf_49 rfl ?_
      refine z_iaddN dX7_rightsOf_50 ?_
      refine z_istore 4 (Nat.le_of_ble_eq_true rfl) rfl dX7_rightsOf_51 ?_
      refine z_iincN (n := 1) 5 rfl rfl dX7_rightsOf_53 ?_
      refine z_goto 6 dX7_rightsOf_56 rfl ?_
      exact ih hl _ (by first | rw [sCnt, if_pos (And.intro c27 c42), hc] | rw [sCnt, if_neg (fun q => c27 q.1), hc] | rw [sCnt, if_neg (fun q => by rw [c42] at q; exact absurd q.2 (by decide)), hc])
    · refine z_aload_n 0 rfl rfl dX7_rightsOf_30 ?_
      refine z_iload 5 rfl dX7_rightsOf_31 ?_
      refine z_iconst (nI 3) dX7_rightsOf_33 rfl ?_
      refine zM_p2 zm_X7_of (c_X7_of hp _ _ (by omega) (by omega)) hp rfl rfl zl_X7_53 (by decide) (Nat.le_of_ble_eq_true rfl) dX7_rightsOf_34 ?_
      refine z_iload_n 2 rfl rfl dX7_rightsOf_37 ?_
      refine z_iload_n 3 rfl rfl dX7_rightsOf_38 ?_
      refine z_pS3 zm_X7_in (c_X7_in _ _ _) rfl zl_X7_35 (by decide) (Nat.le_of_ble_eq_true rfl) dX7_rightsOf_39 ?_
      refine z_if_eqB 49 dX7_rightsOf_42 rfl (fun c42 => ?_) (fun c42 => ?_)
      · refine z_iconst (nI 0) dX7_rightsOf_49 rfl ?_
        refine z_iaddN dX7_rightsOf_50 ?_
        refine z_istore 4 (Nat.le_of_ble_eq_true rfl) rfl dX7_rightsOf_51 ?_
        refine z_iincN (n := 1) 5 rfl rfl dX7_rightsOf_53 ?_
        refine z_goto 6 dX7_rightsOf_56 rfl ?_
        exact ih hl _ (by first | rw [sCnt, if_pos (And.intro c27 c42), hc] | rw [sCnt, if_neg (fun q => c27 q.1), hc] | rw [sCnt, if_neg (fun q => by rw [c42] at q; exact absurd q.2 (by decide)), hc])
      · refine z_iconst (nI 1) dX7_rightsOf_45 rfl ?_
        refine z_goto 50 dX7_rightsOf_46 rfl ?_
        refine z_iaddN dX7_rightsOf_50 ?_
        refine z_istore 4 (Nat.le_of_ble_eq_true rfl) rfl dX7_rightsOf_51 ?_
        refine z_iincN (n := 1) 5 rfl rfl dX7_rightsOf_53 ?_
        refine z_goto 6 dX7_rightsOf_56 rfl ?_
        exact ih hl _ (by first | rw [sCnt, if_pos (And.intro c27 c42), hc] | rw [sCnt, if_neg (fun q => c27 q.1), hc] | rw [sCnt, if_neg (fun q => by rw [c42] at q; exact absurd q.2 (by decide)), hc])
set_option maxRecDepth 4000 in
theorem c_X7_rightsOf {l : Launch} {G : zG} {A : Nat → Nat} {m0 mm : zM} {v : Nat → Int32} {S : Nat → Nat → Int32} (hp : zMP G A m0 v S mm) (d : Nat) (lo hi : Int32) (hJ : zJ2 v) : zSem l G (yX7_rightsOf, cX7_rightsOf, 6, (some .int)) 3 [.ref (A 0), .int (nI d), .int lo, .int hi] mm (some (.int (nI (sOf v d lo hi)))) (fun m' => m' = mm) := by
  refine z_met [some (.ref (A 0)), some (.int (nI d)), some (.int lo), some (.int hi), none, none] rfl (zc1 (by rfl)) (Nat.le_of_ble_eq_true rfl) rfl ?_
  refine z_iconst (nI 0) dX7_rightsOf_0 rfl ?_
  refine z_istore 4 (Nat.le_of_ble_eq_true rfl) rfl dX7_rightsOf_1 ?_
  refine z_iconst (nI 0) dX7_rightsOf_3 rfl ?_
  refine z_istore 5 (Nat.le_of_ble_eq_true rfl) rfl dX7_rightsOf_4 ?_
  exact l_X7_rightsOf hp d lo hi hJ 0 (Nat.zero_le _) 0 rfl
set_option maxRecDepth 4000 in
theorem c_X7_out {l : Launch} {G : zG} {A : Nat → Nat} {m0 mm : zM} {v : Nat → Int32} {S : Nat → Nat → Int32} (hp : zMP G A m0 v S mm) (d : Nat) (hJ : zJ2 v) : zSem l G (yX7_out, cX7_out, 2, (some .int)) 4 [.ref (A 0), .int (nI d)] mm (some (.int (nI (sOut v d)))) (fun m' => m' = mm) := by
  refine z_met [some (.ref (A 0)), some (.int (nI d))] rfl (zc1 (by rfl)) (Nat.le_of_ble_eq_true rfl) rfl ?_
  refine z_aload_n 0 rfl rfl dX7_out_0 ?_
  refine z_iload_n 1 rfl rfl dX7_out_1 ?_
  refine z_iconst (nI 0) dX7_out_2 rfl ?_
  refine z_iconst (nI 2) dX7_out_3 rfl ?_
  refine zM_p3 zm_X7_rightsOf (c_X7_rightsOf hp _ _ _ hJ) hp rfl rfl zl_X7_56 (by decide) (Nat.le_of_ble_eq_true rfl) dX7_out_4 ?_
  exact z_iret dX7_out_7 rfl rfl
set_option maxRecDepth 4000 in
theorem c_X7_price {l : Launch} {G : zG} {A : Nat → Nat} {m0 mm : zM} {v : Nat → Int32} {S : Nat → Nat → Int32} (hp : zMP G A m0 v S mm) (d : Nat) (left : Int32) (hd : d < 10) (hJ : zJ2 v) (hpl : ¬ v (27 + 12 * d + 1) = 0) : zSem l G (yX7_price, cX7_price, 5, (some .int)) 5 [.ref (A 0), .int (nI d), .int left] mm (some (.int (sPrice v d left))) (fun m' => m' = mm) := by
  refine z_met [some (.ref (A 0)), some (.int (nI d)), some (.int left), none, none] rfl (zc1 (by rfl)) (Nat.le_of_ble_eq_true rfl) rfl ?_
  refine z_aload_n 0 rfl rfl dX7_price_0 ?_
  refine z_iload_n 1 rfl rfl dX7_price_1 ?_
  refine z_iconst (nI 3) dX7_price_2 rfl ?_
  refine zM_p2 zm_X7_ofDate (c_X7_ofDate hp _ _ (by omega) (by omega)) hp rfl rfl zl_X7_46 (by decide) (Nat.le_of_ble_eq_true rfl) dX7_price_3 ?_
  refine z_istore_n 3 rfl (Nat.le_of_ble_eq_true rfl) rfl dX7_price_6 ?_
  refine z_aload_n 0 rfl rfl dX7_price_7 ?_
  refine z_iload_n 1 rfl rfl dX7_price_8 ?_
  refine z_iconst (nI 4) dX7_price_9 rfl ?_
  refine zM_p2 zm_X7_ofDate (c_X7_ofDate hp _ _ (by omega) (by omega)) hp rfl rfl zl_X7_46 (by decide) (Nat.le_of_ble_eq_true rfl) dX7_price_10 ?_
  refine z_iconst (nI 1) dX7_price_13 rfl ?_
  refine z_icmp_ne 34 dX7_price_14 rfl (fun c14 => ?_) (fun c14 => ?_)
  · refine z_iload_n 2 rfl rfl dX7_price_34 ?_
    refine z_bipush (nI 30) dX7_price_35 rfl ?_
    refine z_icmp_le 44 dX7_price_37 rfl (fun c37 => ?_) (fun c37 => ?_)
    · refine z_bipush (nI 30) dX7_price_44 rfl ?_
      refine z_iload_n 2 rfl rfl dX7_price_46 ?_
      refine z_isub dX7_price_47 ?_
      refine z_istore 4 (Nat.le_of_ble_eq_true rfl) rfl dX7_price_48 ?_
      refine z_aload_n 0 rfl rfl dX7_price_50 ?_
      refine z_iload_n 1 rfl rfl dX7_price_51 ?_
      refine z_iconst (nI 4) dX7_price_52 rfl ?_
      refine zM_p2 zm_X7_ofDate (c_X7_ofDate hp _ _ (by omega) (by omega)) hp rfl rfl zl_X7_46 (by decide) (Nat.le_of_ble_eq_true rfl) dX7_price_53 ?_
      refine z_if_ne 63 dX7_price_56 rfl (fun c56 => ?_) (fun c56 => ?_)
      · refine z_iload_n 3 rfl rfl dX7_price_63 ?_
        refine z_bipush (nI 100) dX7_price_64 rfl ?_
        refine z_iconst (nI 2) dX7_price_66 rfl ?_
        refine z_iload 4 rfl dX7_price_67 ?_
        refine z_imul dX7_price_69 ?_
        refine z_iadd dX7_price_70 ?_
        refine z_imul dX7_price_71 ?_
        refine z_bipush (nI 100) dX7_price_72 rfl ?_
        refine z_idiv dX7_price_74 (by decide) ?_
        exact z_iret dX7_price_75 (by first | (rw [sPrice, if_neg c14, if_pos c56]; done) | rw [sPrice, if_neg c14, if_neg c56, if_neg (i_not_lt.mpr c37)] | rw [sPrice, if_neg c14, if_neg c56, if_pos (i_not_le.mp c37), nI_mul, nI_add]) rfl
      · refine z_iload_n 3 rfl rfl dX7_price_59 ?_
        refine z_goto 75 dX7_price_60 rfl ?_
        exact z_iret dX7_price_75 (by first | (rw [sPrice, if_neg c14, if_pos c56]; done) | rw [sPrice, if_neg c14, if_neg c56, if_neg (i_not_lt.mpr c37)] | rw [sPrice, if_neg c14, if_neg c56, if_pos (i_not_le.mp c37), nI_mul, nI_add]) rfl
    · refine z_iconst (nI 0) dX7_price_40 rfl ?_
      refine z_goto 48 dX7_price_41 rfl ?_
      refine z_istore 4 (Nat.le_of_ble_eq_true rfl) rfl dX7_price_48 ?_
      refine z_aload_n 0 rfl rfl dX7_price_50 ?_
      refine z_iload_n 1 rfl rfl dX7_price_51 ?_
      refine z_iconst (nI 4) dX7_price_52 rfl ?_
      refine zM_p2 zm_X7_ofDate (c_X7_ofDate hp _ _ (by omega) (by omega)) hp rfl rfl zl_X7_46 (by decide) (Nat.le_of_ble_eq_true rfl) dX7_price_53 ?_
      refine z_if_ne 63 dX7_price_56 rfl (fun c56 => ?_) (fun c56 => ?_)
      · refine z_iload_n 3 rfl rfl dX7_price_63 ?_
        refine z_bipush (nI 100) dX7_price_64 rfl ?_
        refine z_iconst (nI 2) dX7_price_66 rfl ?_
        refine z_iload 4 rfl dX7_price_67 ?_
        refine z_imulN dX7_price_69 ?_
        refine z_iaddN dX7_price_70 ?_
        refine z_imul dX7_price_71 ?_
        refine z_bipush (nI 100) dX7_price_72 rfl ?_
        refine z_idiv dX7_price_74 (by decide) ?_
        exact z_iret dX7_price_75 (by first | (rw [sPrice, if_neg c14, if_pos c56]; done) | rw [sPrice, if_neg c14, if_neg c56, if_neg (i_not_lt.mpr c37)] | rw [sPrice, if_neg c14, if_neg c56, if_pos (i_not_le.mp c37), nI_mul, nI_add]) rfl
      · refine z_iload_n 3 rfl rfl dX7_price_59 ?_
        refine z_goto 75 dX7_price_60 rfl ?_
        exact z_iret dX7_price_75 (by first | (rw [sPrice, if_neg c14, if_pos c56]; done) | rw [sPrice, if_neg c14, if_neg c56, if_neg (i_not_lt.mpr c37)] | rw [sPrice, if_neg c14, if_neg c56, if_pos (i_not_le.mp c37), nI_mul, nI_add]) rfl
  · refine z_iload_n 3 rfl rfl dX7_price_17 ?_
    refine z_iload_n 3 rfl rfl dX7_price_18 ?_
    refine z_aload_n 0 rfl rfl dX7_price_19 ?_
    refine z_iload_n 1 rfl rfl dX7_price_20 ?_
    refine zM_p1 zm_X7_out (c_X7_out hp _ hJ) hp rfl rfl zl_X7_60 (by decide) (Nat.le_of_ble_eq_true rfl) dX7_price_21 ?_
    refine z_imul dX7_price_24 ?_
    refine z_aload_n 0 rfl rfl dX7_price_25 ?_
    refine z_iload_n 1 rfl rfl dX7_price_26 ?_
    refine z_iconst (nI 1) dX7_price_27 rfl ?_
    refine zM_p2 zm_X7_ofDate (c_X7_ofDate hp _ _ (by omega) (by omega)) hp rfl rfl zl_X7_46 (by decide) (Nat.le_of_ble_eq_true rfl) dX7_price_28 ?_
    refine z_idiv dX7_price_31 hpl ?_
    refine z_iadd dX7_price_32 ?_
    exact z_iret dX7_price_33 (by rw [sPrice, if_pos c14]) rfl
set_option maxRecDepth 4000 in
theorem c_X7_canSell {l : Launch} {G : zG} {A : Nat → Nat} {m0 mm : zM} {v : Nat → Int32} {S : Nat → Nat → Int32} (hp : zMP G A m0 v S mm) (d : Nat) (hd : d < 10) (hJ : zJ2 v) : zSem l G (yX7_canSell, cX7_canSell, 4, (some .int)) 5 [.ref (A 0), .int (nI d)] mm (some (.int (sCan v d))) (fun m' => m' = mm) := by
  refine z_met [some (.ref (A 0)), some (.int (nI d)), none, none] rfl (zc1 (by rfl)) (Nat.le_of_ble_eq_true rfl) rfl ?_
  refine z_aload_n 0 rfl rfl dX7_canSell_0 ?_
  refine z_iload_n 1 rfl rfl dX7_canSell_1 ?_
  refine z_iconst (nI 1) dX7_canSell_2 rfl ?_
  refine zM_p2 zm_X7_ofDate (c_X7_ofDate hp _ _ (by omega) (by omega)) hp rfl rfl zl_X7_46 (by decide) (Nat.le_of_ble_eq_true rfl) dX7_canSell_3 ?_
  refine z_aload_n 0 rfl rfl dX7_canSell_6 ?_
  refine z_iload_n 1 rfl rfl dX7_canSell_7 ?_
  refine zM_p1 zm_X7_daysLeft (c_X7_daysLeft hp _ (by omega)) hp rfl rfl zl_X7_49 (by decide) (Nat.le_of_ble_eq_true rfl) dX7_canSell_8 ?_
  refine z_aload_n 0 rfl rfl dX7_canSell_11 ?_
  refine zM_ref 0 1 hp (by decide) rfl (by decide) rfl rfl zf_X7_7 dX7_canSell_12 ?_
  refine z_iconst (nI 3) dX7_canSell_15 rfl ?_
  refine zM_vld hp (by omega) dX7_canSell_16 ?_
  refine z_icmp_le 29 dX7_canSell_17 rfl (fun c17 => ?_) (fun c17 => ?_)
  · have e1 : v (27 + 12 * d + 1) + nI 0 - nI (sOut v d) = sMost v d := by rw [sMost, if_neg (i_not_lt.mpr c17)]
    refine z_iconst (nI 0) dX7_canSell_29 rfl ?_
    refine z_iadd dX7_canSell_30 ?_
    refine z_aload_n 0 rfl rfl dX7_canSell_31 ?_
    refine z_iload_n 1 rfl rfl dX7_canSell_32 ?_
    refine zM_p1 zm_X7_out (c_X7_out hp _ hJ) hp rfl rfl zl_X7_60 (by decide) (Nat.le_of_ble_eq_true rfl) dX7_canSell_33 ?_
    refine z_isub dX7_canSell_36 ?_
    rw [e1]
    refine z_istore_n 2 rfl (Nat.le_of_ble_eq_true rfl) rfl dX7_canSell_37 ?_
    refine z_bipush (nI 60) dX7_canSell_38 rfl ?_
    refine z_aload_n 0 rfl rfl dX7_canSell_40 ?_
    refine zM_ref 0 1 hp (by decide) rfl (by decide) rfl rfl zf_X7_7 dX7_canSell_41 ?_
    refine z_iconst (nI 2) dX7_canSell_44 rfl ?_
    refine zM_vld hp (by omega) dX7_canSell_45 ?_
    refine z_isub dX7_canSell_46 ?_
    refine z_istore_n 3 rfl (Nat.le_of_ble_eq_true rfl) rfl dX7_canSell_47 ?_
    refine z_iload_n 2 rfl rfl dX7_canSell_48 ?_
    refine z_iload_n 3 rfl rfl dX7_canSell_49 ?_
    refine z_icmp_ge 57 dX7_canSell_50 rfl (fun c50 => ?_) (fun c50 => ?_)
    · have e2 : nI 60 - v 2 = sSell0 v d := by rw [sSell0, if_neg (i_not_lt.mpr c50)]
      refine z_iload_n 3 rfl rfl dX7_canSell_57 ?_
      rw [e2]
      refine z_istore_n 2 rfl (Nat.le_of_ble_eq_true rfl) rfl dX7_canSell_58 ?_
      refine z_iload_n 2 rfl rfl dX7_canSell_59 ?_
      refine z_if_le 75 dX7_canSell_60 rfl (fun c60 => ?_) (fun c60 => ?_)
      · refine z_iconst (nI 0) dX7_canSell_75 rfl ?_
        exact z_iret dX7_canSell_76 (by first | rw [sCan, if_pos (And.intro (i_not_le.mp c60) c68)] | rw [sCan, if_neg (fun q => absurd q.1 (i_not_lt.mpr c60))] | rw [sCan, if_neg (fun q => by rw [c68] at q; exact absurd q.2 (by decide))]) rfl
      · refine z_aload_n 0 rfl rfl dX7_canSell_63 ?_
        refine z_iload_n 1 rfl rfl dX7_canSell_64 ?_
        refine zM_p1 zm_X7_isOpen (c_X7_isOpen hp _ (by omega)) hp rfl rfl zl_X7_63 (by decide) (Nat.le_of_ble_eq_true rfl) dX7_canSell_65 ?_
        refine z_if_eqB 75 dX7_canSell_68 rfl (fun c68 => ?_) (fun c68 => ?_)
        · refine z_iconst (nI 0) dX7_canSell_75 rfl ?_
          exact z_iret dX7_canSell_76 (by first | rw [sCan, if_pos (And.intro (i_not_le.mp c60) c68)] | rw [sCan, if_neg (fun q => absurd q.1 (i_not_lt.mpr c60))] | rw [sCan, if_neg (fun q => by rw [c68] at q; exact absurd q.2 (by decide))]) rfl
        · refine z_iload_n 2 rfl rfl dX7_canSell_71 ?_
          refine z_goto 76 dX7_canSell_72 rfl ?_
          exact z_iret dX7_canSell_76 (by first | rw [sCan, if_pos (And.intro (i_not_le.mp c60) c68)] | rw [sCan, if_neg (fun q => absurd q.1 (i_not_lt.mpr c60))] | rw [sCan, if_neg (fun q => by rw [c68] at q; exact absurd q.2 (by decide))]) rfl
    · have e2 : sMost v d = sSell0 v d := by rw [sSell0, if_pos (i_not_le.mp c50)]
      refine z_iload_n 2 rfl rfl dX7_canSell_53 ?_
      refine z_goto 58 dX7_canSell_54 rfl ?_
      rw [e2]
      refine z_istore_n 2 rfl (Nat.le_of_ble_eq_true rfl) rfl dX7_canSell_58 ?_
      refine z_iload_n 2 rfl rfl dX7_canSell_59 ?_
      refine z_if_le 75 dX7_canSell_60 rfl (fun c60 => ?_) (fun c60 => ?_)
      · refine z_iconst (nI 0) dX7_canSell_75 rfl ?_
        exact z_iret dX7_canSell_76 (by first | rw [sCan, if_pos (And.intro (i_not_le.mp c60) c68)] | rw [sCan, if_neg (fun q => absurd q.1 (i_not_lt.mpr c60))] | rw [sCan, if_neg (fun q => by rw [c68] at q; exact absurd q.2 (by decide))]) rfl
      · refine z_aload_n 0 rfl rfl dX7_canSell_63 ?_
        refine z_iload_n 1 rfl rfl dX7_canSell_64 ?_
        refine zM_p1 zm_X7_isOpen (c_X7_isOpen hp _ (by omega)) hp rfl rfl zl_X7_63 (by decide) (Nat.le_of_ble_eq_true rfl) dX7_canSell_65 ?_
        refine z_if_eqB 75 dX7_canSell_68 rfl (fun c68 => ?_) (fun c68 => ?_)
        · refine z_iconst (nI 0) dX7_canSell_75 rfl ?_
          exact z_iret dX7_canSell_76 (by first | rw [sCan, if_pos (And.intro (i_not_le.mp c60) c68)] | rw [sCan, if_neg (fun q => absurd q.1 (i_not_lt.mpr c60))] | rw [sCan, if_neg (fun q => by rw [c68] at q; exact absurd q.2 (by decide))]) rfl
        · refine z_iload_n 2 rfl rfl dX7_canSell_71 ?_
          refine z_goto 76 dX7_canSell_72 rfl ?_
          exact z_iret dX7_canSell_76 (by first | rw [sCan, if_pos (And.intro (i_not_le.mp c60) c68)] | rw [sCan, if_neg (fun q => absurd q.1 (i_not_lt.mpr c60))] | rw [sCan, if_neg (fun q => by rw [c68] at q; exact absurd q.2 (by decide))]) rfl
  · have e1 : v (27 + 12 * d + 1) + v (27 + 12 * d + 2) - nI (sOut v d) = sMost v d := by rw [sMost, if_pos (i_not_le.mp c17)]
    refine z_aload_n 0 rfl rfl dX7_canSell_20 ?_
    refine z_iload_n 1 rfl rfl dX7_canSell_21 ?_
    refine z_iconst (nI 2) dX7_canSell_22 rfl ?_
    refine zM_p2 zm_X7_ofDate (c_X7_ofDate hp _ _ (by omega) (by omega)) hp rfl rfl zl_X7_46 (by decide) (Nat.le_of_ble_eq_true rfl) dX7_canSell_23 ?_
    refine z_goto 30 dX7_canSell_26 rfl ?_
    refine z_iadd dX7_canSell_30 ?_
    refine z_aload_n 0 rfl rfl dX7_canSell_31 ?_
    refine z_iload_n 1 rfl rfl dX7_canSell_32 ?_
    refine zM_p1 zm_X7_out (c_X7_out hp _ hJ) hp rfl rfl zl_X7_60 (by decide) (Nat.le_of_ble_eq_true rfl) dX7_canSell_33 ?_
    refine z_isub dX7_canSell_36 ?_
    rw [e1]
    refine z_istore_n 2 rfl (Nat.le_of_ble_eq_true rfl) rfl dX7_canSell_37 ?_
    refine z_bipush (nI 60) dX7_canSell_38 rfl ?_
    refine z_aload_n 0 rfl rfl dX7_canSell_40 ?_
    refine zM_ref 0 1 hp (by decide) rfl (by decide) rfl rfl zf_X7_7 dX7_canSell_41 ?_
    refine z_iconst (nI 2) dX7_canSell_44 rfl ?_
    refine zM_vld hp (by omega) dX7_canSell_45 ?_
    refine z_isub dX7_canSell_46 ?_
    refine z_istore_n 3 rfl (Nat.le_of_ble_eq_true rfl) rfl dX7_canSell_47 ?_
    refine z_iload_n 2 rfl rfl dX7_canSell_48 ?_
    refine z_iload_n 3 rfl rfl dX7_canSell_49 ?_
    refine z_icmp_ge 57 dX7_canSell_50 rfl (fun c50 => ?_) (fun c50 => ?_)
    · have e2 : nI 60 - v 2 = sSell0 v d := by rw [sSell0, if_neg (i_not_lt.mpr c50)]
      refine z_iload_n 3 rfl rfl dX7_canSell_57 ?_
      rw [e2]
      refine z_istore_n 2 rfl (Nat.le_of_ble_eq_true rfl) rfl dX7_canSell_58 ?_
      refine z_iload_n 2 rfl rfl dX7_canSell_59 ?_
      refine z_if_le 75 dX7_canSell_60 rfl (fun c60 => ?_) (fun c60 => ?_)
      · refine z_iconst (nI 0) dX7_canSell_75 rfl ?_
        exact z_iret dX7_canSell_76 (by first | rw [sCan, if_pos (And.intro (i_not_le.mp c60) c68)] | rw [sCan, if_neg (fun q => absurd q.1 (i_not_lt.mpr c60))] | rw [sCan, if_neg (fun q => by rw [c68] at q; exact absurd q.2 (by decide))]) rfl
      · refine z_aload_n 0 rfl rfl dX7_canSell_63 ?_
        refine z_iload_n 1 rfl rfl dX7_canSell_64 ?_
        refine zM_p1 zm_X7_isOpen (c_X7_isOpen hp _ (by omega)) hp rfl rfl zl_X7_63 (by decide) (Nat.le_of_ble_eq_true rfl) dX7_canSell_65 ?_
        refine z_if_eqB 75 dX7_canSell_68 rfl (fun c68 => ?_) (fun c68 => ?_)
        · refine z_iconst (nI 0) dX7_canSell_75 rfl ?_
          exact z_iret dX7_canSell_76 (by first | rw [sCan, if_pos (And.intro (i_not_le.mp c60) c68)] | rw [sCan, if_neg (fun q => absurd q.1 (i_not_lt.mpr c60))] | rw [sCan, if_neg (fun q => by rw [c68] at q; exact absurd q.2 (by decide))]) rfl
        · refine z_iload_n 2 rfl rfl dX7_canSell_71 ?_
          refine z_goto 76 dX7_canSell_72 rfl ?_
          exact z_iret dX7_canSell_76 (by first | rw [sCan, if_pos (And.intro (i_not_le.mp c60) c68)] | rw [sCan, if_neg (fun q => absurd q.1 (i_not_lt.mpr c60))] | rw [sCan, if_neg (fun q => by rw [c68] at q; exact absurd q.2 (by decide))]) rfl
    · have e2 : sMost v d = sSell0 v d := by rw [sSell0, if_pos (i_not_le.mp c50)]
      refine z_iload_n 2 rfl rfl dX7_canSell_53 ?_
      refine z_goto 58 dX7_canSell_54 rfl ?_
      rw [e2]
      refine z_istore_n 2 rfl (Nat.le_of_ble_eq_true rfl) rfl dX7_canSell_58 ?_
      refine z_iload_n 2 rfl rfl dX7_canSell_59 ?_
      refine z_if_le 75 dX7_canSell_60 rfl (fun c60 => ?_) (fun c60 => ?_)
      · refine z_iconst (nI 0) dX7_canSell_75 rfl ?_
        exact z_iret dX7_canSell_76 (by first | rw [sCan, if_pos (And.intro (i_not_le.mp c60) c68)] | rw [sCan, if_neg (fun q => absurd q.1 (i_not_lt.mpr c60))] | rw [sCan, if_neg (fun q => by rw [c68] at q; exact absurd q.2 (by decide))]) rfl
      · refine z_aload_n 0 rfl rfl dX7_canSell_63 ?_
        refine z_iload_n 1 rfl rfl dX7_canSell_64 ?_
        refine zM_p1 zm_X7_isOpen (c_X7_isOpen hp _ (by omega)) hp rfl rfl zl_X7_63 (by decide) (Nat.le_of_ble_eq_true rfl) dX7_canSell_65 ?_
        refine z_if_eqB 75 dX7_canSell_68 rfl (fun c68 => ?_) (fun c68 => ?_)
        · refine z_iconst (nI 0) dX7_canSell_75 rfl ?_
          exact z_iret dX7_canSell_76 (by first | rw [sCan, if_pos (And.intro (i_not_le.mp c60) c68)] | rw [sCan, if_neg (fun q => absurd q.1 (i_not_lt.mpr c60))] | rw [sCan, if_neg (fun q => by rw [c68] at q; exact absurd q.2 (by decide))]) rfl
        · refine z_iload_n 2 rfl rfl dX7_canSell_71 ?_
          refine z_goto 76 dX7_canSell_72 rfl ?_
          exact z_iret dX7_canSell_76 (by first | rw [sCan, if_pos (And.intro (i_not_le.mp c60) c68)] | rw [sCan, if_neg (fun q => absurd q.1 (i_not_lt.mpr c60))] | rw [sCan, if_neg (fun q => by rw [c68] at q; exact absurd q.2 (by decide))]) rfl
set_option maxRecDepth 4000 in
theorem l_X7_stageOf {l : Launch} {G : zG} {A : Nat → Nat} {m0 mm : zM} {v : Nat → Int32} {S : Nat → Nat → Int32} (hp : zMP G A m0 v S mm) (d : Nat) (hd : d < 10) (hst : v 15 ≤ sLeft v d) : ∀ i, i ≤ 3 → ∀ (hj : ∀ j, j < i → ¬ v (9 + 2 * j) ≤ sLeft v d), zV l G (yX7_stageOf, cX7_stageOf, 3, (some .int)) 4 (some (.int (nI (sStage v d)))) (fun m' => m' = mm) 2 [some (.ref (A 0)), some (.int (nI d)), some (.int (nI i))] [] mm := by
  refine z_loop (3) (fun i hi ih hj => ?_)
  refine z_aload_n 0 rfl rfl dX7_stageOf_2 ?_
  refine zM_ref 0 1 hp (by decide) rfl (by decide) rfl rfl zf_X7_7 dX7_stageOf_3 ?_
  refine z_bipush (nI 9) dX7_stageOf_6 rfl ?_
  refine z_iconst (nI 2) dX7_stageOf_8 rfl ?_
  refine z_iload_n 2 rfl rfl dX7_stageOf_9 ?_
  refine z_imulN dX7_stageOf_10 ?_
  refine z_iaddN dX7_stageOf_11 ?_
  refine zM_vld hp (by omega) dX7_stageOf_12 ?_
  refine z_aload_n 0 rfl rfl dX7_stageOf_13 ?_
  refine z_iload_n 1 rfl rfl dX7_stageOf_14 ?_
  refine zM_p1 zm_X7_daysLeft (c_X7_daysLeft hp _ (by omega)) hp rfl rfl zl_X7_49 (by decide) (Nat.le_of_ble_eq_true rfl) dX7_stageOf_15 ?_
  refine z_icmp_le 27 dX7_stageOf_18 rfl (fun c18 => ?_) (fun c18 => ?_)
  · refine z_iload_n 2 rfl rfl dX7_stageOf_27 ?_
    exact z_iret dX7_stageOf_28 (by
        have h0 := hj 0; have h1 := hj 1; have h2 := hj 2
        rcases (by omega : i = 0 ∨ i = 1 ∨ i = 2 ∨ i = 3) with rfl | rfl | rfl | rfl
        · rw [sStage, if_pos c18]
        · rw [sStage, if_neg (h0 (by omega)), if_pos c18]
        · rw [sStage, if_neg (h0 (by omega)), if_neg (h1 (by omega)), if_pos c18]
        · rw [sStage, if_neg (h0 (by omega)), if_neg (h1 (by omega)), if_neg (h2 (by omega))]) rfl
  · have hl : i < 3 := by
      rcases Nat.lt_or_ge i 3 with q | q
      · exact q
      · have : i = 3 := by omega
        subst this
        exact absurd hst c18
    refine z_iincN (n := 1) 2 rfl rfl dX7_stageOf_21 ?_
    refine z_goto 2 dX7_stageOf_24 rfl ?_
    exact ih hl (fun j hj1 => by by_cases e : j = i; subst e; exact c18; exact hj j (by omega))
set_option maxRecDepth 4000 in
theorem c_X7_stageOf {l : Launch} {G : zG} {A : Nat → Nat} {m0 mm : zM} {v : Nat → Int32} {S : Nat → Nat → Int32} (hp : zMP G A m0 v S mm) (d : Nat) (hd : d < 10) (hst : v 15 ≤ sLeft v d) : zSem l G (yX7_stageOf, cX7_stageOf, 3, (some .int)) 4 [.ref (A 0), .int (nI d)] mm (some (.int (nI (sStage v d)))) (fun m' => m' = mm) := by
  refine z_met [some (.ref (A 0)), some (.int (nI d)), none] rfl (zc1 (by rfl)) (Nat.le_of_ble_eq_true rfl) rfl ?_
  refine z_iconst (nI 0) dX7_stageOf_0 rfl ?_
  refine z_istore_n 2 rfl (Nat.le_of_ble_eq_true rfl) rfl dX7_stageOf_1 ?_
  exact l_X7_stageOf hp d hd hst 0 (by omega) (fun j h => absurd h (by omega))
theorem l_X7_lowest_a {v : Nat → Int32} {d i : Nat} {s : Int32} {w : Nat} {o : Option Nat} (ho : o = sLow v d s w i) (h : ¬ (v (147 + 7 * i + 0) = nI d ∧ v (147 + 7 * i + 3) = s)) : o = sLow v d s w (i + 1) := by rw [sLow, if_neg h]; exact ho
set_option maxRecDepth 4000 in
theorem l_X7_lowest {l : Launch} {G : zG} {A : Nat → Nat} {m0 mm : zM} {v : Nat → Int32} {S : Nat → Nat → Int32} (hp : zMP G A m0 v S mm) (d : Nat) (s : Int32) (w : Nat) (hw : w < 7) (hJ : zJ2 v) : ∀ i, i ≤ nR v → ∀ (o : Option Nat) (ho : o = sLow v d s w i) (x6 : Option Value), zV l G (yX7_lowest, cX7_lowest, 7, (some .int)) 3 (some (.int (zO (sLow v d s w (nR v))))) (fun m' => m' = mm) 6 [some (.ref (A 0)), some (.int (nI d)), some (.int s), some (.int (nI w)), some (.int (zO o)), some (.int (nI i)), x6] [] mm := by
  have hJ2 := hJ.2
  refine z_loop (nR v) (fun i hi ih o ho x6 => ?_)
  rcases o with _ | b
  · show zV _ _ _ _ _ _ 6 [some (.ref (A 0)), some (.int (nI d)), some (.int s), some (.int (nI w)), some (.int (zO none)), some (.int (nI i)), x6] [] mm
    refine z_iload 5 rfl dX7_lowest_6 ?_
    refine z_aload_n 0 rfl rfl dX7_lowest_8 ?_
    refine zM_ref 0 1 hp (by decide) rfl (by decide) rfl rfl zf_X7_7 dX7_lowest_9 ?_
    refine z_iconst (nI 2) dX7_lowest_12 rfl ?_
    refine zM_vld hp (by omega) dX7_lowest_13 ?_
    refine z_icmp_ge 88 dX7_lowest_14 rfl (fun c14 => ?_) (fun c14 => ?_)
    · have e : i = nR v := by rw [hJ.1] at c14; have := (nI_leI (by omega) (by omega)).mp c14; omega
      refine z_iload 4 rfl dX7_lowest_88 ?_
      exact z_iret dX7_lowest_90 (by subst e; first | rw [← ho]; rfl | rw [← ho]) rfl
    · have hl : i < nR v := by rw [hJ.1] at c14; exact Nat.lt_of_not_le (fun q => c14 ((nI_leI (by omega) (by omega)).mpr q))
      refine z_aload_n 0 rfl rfl dX7_lowest_17 ?_
      refine z_iload 5 rfl dX7_lowest_18 ?_
      refine z_iconst (nI 0) dX7_lowest_20 rfl ?_
      refine zM_p2 zm_X7_of (c_X7_of hp _ _ (by omega) (by omega)) hp rfl rfl zl_X7_53 (by decide) (Nat.le_of_ble_eq_true rfl) dX7_lowest_21 ?_
      refine z_iload_n 1 rfl rfl dX7_lowest_24 ?_
      refine z_icmp_ne 43 dX7_lowest_25 rfl (fun c25 => ?_) (fun c25 => ?_)
      · refine z_iconst (nI 0) dX7_lowest_43 rfl ?_
        refine z_istore 6 (Nat.le_of_ble_eq_true rfl) rfl dX7_lowest_44 ?_
        refine z_iload 6 rfl dX7_lowest_46 ?_
        refine z_if_eq 78 dX7_lowest_48 rfl (fun c48 => ?_) (fun c48 => ?_)
        · refine z_iload 4 rfl dX7_lowest_78 ?_
          refine z_istore 4 (Nat.le_of_ble_eq_true rfl) rfl dX7_lowest_80 ?_
          refine z_iincN (n := 1) 5 rfl rfl dX7_lowest_82 ?_
          refine z_goto 6 dX7_lowest_85 rfl ?_
          first | exact ih hl none (l_X7_lowest_a ho (fun q => c25 q.1)) _ | exact ih hl none (l_X7_lowest_a ho (fun q => c36 q.2)) _ | exact ih hl (some i) (by rw [sLow, if_pos (And.intro c25 c36), ← ho]) _
        · exact absurd c48 (by decide)
      · refine z_aload_n 0 rfl rfl dX7_lowest_28 ?_
        refine z_iload 5 rfl dX7_lowest_29 ?_
        refine z_iconst (nI 3) dX7_lowest_31 rfl ?_
        refine zM_p2 zm_X7_of (c_X7_of hp _ _ (by omega) (by omega)) hp rfl rfl zl_X7_53 (by decide) (Nat.le_of_ble_eq_true rfl) dX7_lowest_32 ?_
        refine z_iload_n 2 rfl rfl dX7_lowest_35 ?_
        refine z_icmp_ne 43 dX7_lowest_36 rfl (fun c36 => ?_) (fun c36 => ?_)
        · refine z_iconst (nI 0) dX7_lowest_43 rfl ?_
          refine z_istore 6 (Nat.le_of_ble_eq_true rfl) rfl dX7_lowest_44 ?_
          refine z_iload 6 rfl dX7_lowest_46 ?_
          refine z_if_eq 78 dX7_lowest_48 rfl (fun c48 => ?_) (fun c48 => ?_)
          · refine z_iload 4 rfl dX7_lowest_78 ?_
            refine z_istore 4 (Nat.le_of_ble_eq_true rfl) rfl dX7_lowest_80 ?_
            refine z_iincN (n := 1) 5 rfl rfl dX7_lowest_82 ?_
            refine z_goto 6 dX7_lowest_85 rfl ?_
            first | exact ih hl none (l_X7_lowest_a ho (fun q => c25 q.1)) _ | exact ih hl none (l_X7_lowest_a ho (fun q => c36 q.2)) _ | exact ih hl (some i) (by rw [sLow, if_pos (And.intro c25 c36), ← ho]) _
          · exact absurd c48 (by decide)
        · refine z_iconst (nI 1) dX7_lowest_39 rfl ?_
          refine z_goto 44 dX7_lowest_40 rfl ?_
          refine z_istore 6 (Nat.le_of_ble_eq_true rfl) rfl dX7_lowest_44 ?_
          refine z_iload 6 rfl dX7_lowest_46 ?_
          refine z_if_eq 78 dX7_lowest_48 rfl (fun c48 => ?_) (fun c48 => ?_)
          · exact absurd c48 (by decide)
          · refine z_iload 4 rfl dX7_lowest_51 ?_
            refine z_if_lt 73 dX7_lowest_53 rfl (fun c53 => ?_) (fun c53 => ?_)
            · refine z_iload 5 rfl dX7_lowest_73 ?_
              refine z_goto 80 dX7_lowest_75 rfl ?_
              refine z_istore 4 (Nat.le_of_ble_eq_true rfl) rfl dX7_lowest_80 ?_
              refine z_iincN (n := 1) 5 rfl rfl dX7_lowest_82 ?_
              refine z_goto 6 dX7_lowest_85 rfl ?_
              first | exact ih hl none (l_X7_lowest_a ho (fun q => c25 q.1)) _ | exact ih hl none (l_X7_lowest_a ho (fun q => c36 q.2)) _ | exact ih hl (some i) (by rw [sLow, if_pos (And.intro c25 c36), ← ho]) _
            · exact absurd (by decide) c53
  · show zV _ _ _ _ _ _ 6 [some (.ref (A 0)), some (.int (nI d)), some (.int s), some (.int (nI w)), some (.int (nI b)), some (.int (nI i)), x6] [] mm
    have hb : b < i := sLow_lt ho.symm
    refine z_iload 5 rfl dX7_lowest_6 ?_
    refine z_aload_n 0 rfl rfl dX7_lowest_8 ?_
    refine zM_ref 0 1 hp (by decide) rfl (by decide) rfl rfl zf_X7_7 dX7_lowest_9 ?_
    refine z_iconst (nI 2) dX7_lowest_12 rfl ?_
    refine zM_vld hp (by omega) dX7_lowest_13 ?_
    refine z_icmp_ge 88 dX7_lowest_14 rfl (fun c14 => ?_) (fun c14 => ?_)
    · have e : i = nR v := by rw [hJ.1] at c14; have := (nI_leI (by omega) (by omega)).mp c14; omega
      refine z_iload 4 rfl dX7_lowest_88 ?_
      exact z_iret dX7_lowest_90 (by subst e; first | rw [← ho]; rfl | rw [← ho]) rfl
    · have hl : i < nR v := by rw [hJ.1] at c14; exact Nat.lt_of_not_le (fun q => c14 ((nI_leI (by omega) (by omega)).mpr q))
      refine z_aload_n 0 rfl rfl dX7_lowest_17 ?_
      refine z_iload 5 rfl dX7_lowest_18 ?_
      refine z_iconst (nI 0) dX7_lowest_20 rfl ?_
      refine zM_p2 zm_X7_of (c_X7_of hp _ _ (by omega) (by omega)) hp rfl rfl zl_X7_53 (by decide) (Nat.le_of_ble_eq_true rfl) dX7_lowest_21 ?_
      refine z_iload_n 1 rfl rfl dX7_lowest_24 ?_
      refine z_icmp_ne 43 dX7_lowest_25 rfl (fun c25 => ?_) (fun c25 => ?_)
      · refine z_iconst (nI 0) dX7_lowest_43 rfl ?_
        refine z_istore 6 (Nat.le_of_ble_eq_true rfl) rfl dX7_lowest_44 ?_
        refine z_iload 6 rfl dX7_lowest_46 ?_
        refine z_if_eq 78 dX7_lowest_48 rfl (fun c48 => ?_) (fun c48 => ?_)
        · refine z_iload 4 rfl dX7_lowest_78 ?_
          refine z_istore 4 (Nat.le_of_ble_eq_true rfl) rfl dX7_lowest_80 ?_
          refine z_iincN (n := 1) 5 rfl rfl dX7_lowest_82 ?_
          refine z_goto 6 dX7_lowest_85 rfl ?_
          first | exact ih hl (some b) (l_X7_lowest_a ho (fun q => c25 q.1)) _ | exact ih hl (some b) (l_X7_lowest_a ho (fun q => c36 q.2)) _ | exact ih hl (some i) (by rw [sLow, if_pos (And.intro c25 c36), ← ho]; simp only []; rw [if_pos (i_not_le.mp c70)]) _ | exact ih hl (some b) (by rw [sLow, if_pos (And.intro c25 c36), ← ho]; simp only []; rw [if_neg (i_not_lt.mpr c70)]) _
        · exact absurd c48 (by decide)
      · refine z_aload_n 0 rfl rfl dX7_lowest_28 ?_
        refine z_iload 5 rfl dX7_lowest_29 ?_
        refine z_iconst (nI 3) dX7_lowest_31 rfl ?_
        refine zM_p2 zm_X7_of (c_X7_of hp _ _ (by omega) (by omega)) hp rfl rfl zl_X7_53 (by decide) (Nat.le_of_ble_eq_true rfl) dX7_lowest_32 ?_
        refine z_iload_n 2 rfl rfl dX7_lowest_35 ?_
        refine z_icmp_ne 43 dX7_lowest_36 rfl (fun c36 => ?_) (fun c36 => ?_)
        · refine z_iconst (nI 0) dX7_lowest_43 rfl ?_
          refine z_istore 6 (Nat.le_of_ble_eq_true rfl) rfl dX7_lowest_44 ?_
          refine z_iload 6 rfl dX7_lowest_46 ?_
          refine z_if_eq 78 dX7_lowest_48 rfl (fun c48 => ?_) (fun c48 => ?_)
          · refine z_iload 4 rfl dX7_lowest_78 ?_
            refine z_istore 4 (Nat.le_of_ble_eq_true rfl) rfl dX7_lowest_80 ?_
            refine z_iincN (n := 1) 5 rfl rfl dX7_lowest_82 ?_
            refine z_goto 6 dX7_lowest_85 rfl ?_
            first | exact ih hl (some b) (l_X7_lowest_a ho (fun q => c25 q.1)) _ | exact ih hl (some b) (l_X7_lowest_a ho (fun q => c36 q.2)) _ | exact ih hl (some i) (by rw [sLow, if_pos (And.intro c25 c36), ← ho]; simp only []; rw [if_pos (i_not_le.mp c70)]) _ | exact ih hl (some b) (by rw [sLow, if_pos (And.intro c25 c36), ← ho]; simp only []; rw [if_neg (i_not_lt.mpr c70)]) _
          · exact absurd c48 (by decide)
        · refine z_iconst (nI 1) dX7_lowest_39 rfl ?_
          refine z_goto 44 dX7_lowest_40 rfl ?_
          refine z_istore 6 (Nat.le_of_ble_eq_true rfl) rfl dX7_lowest_44 ?_
          refine z_iload 6 rfl dX7_lowest_46 ?_
          refine z_if_eq 78 dX7_lowest_48 rfl (fun c48 => ?_) (fun c48 => ?_)
          · exact absurd c48 (by decide)
          · refine z_iload 4 rfl dX7_lowest_51 ?_
            refine z_if_lt 73 dX7_lowest_53 rfl (fun c53 => ?_) (fun c53 => ?_)
            · exact absurd c53 (nI_pos (by omega))
            · refine z_aload_n 0 rfl rfl dX7_lowest_56 ?_
              refine z_iload 5 rfl dX7_lowest_57 ?_
              refine z_iload_n 3 rfl rfl dX7_lowest_59 ?_
              refine zM_p2 zm_X7_of (c_X7_of hp _ _ (by omega) (by omega)) hp rfl rfl zl_X7_53 (by decide) (Nat.le_of_ble_eq_true rfl) dX7_lowest_60 ?_
              refine z_aload_n 0 rfl rfl dX7_lowest_63 ?_
              refine z_iload 4 rfl dX7_lowest_64 ?_
              refine z_iload_n 3 rfl rfl dX7_lowest_66 ?_
              refine zM_p2 zm_X7_of (c_X7_of hp _ _ (by omega) (by omega)) hp rfl rfl zl_X7_53 (by decide) (Nat.le_of_ble_eq_true rfl) dX7_lowest_67 ?_
              refine z_icmp_ge 78 dX7_lowest_70 rfl (fun c70 => ?_) (fun c70 => ?_)
              · refine z_iload 4 rfl dX7_lowest_78 ?_
                refine z_istore 4 (Nat.le_of_ble_eq_true rfl) rfl dX7_lowest_80 ?_
                refine z_iincN (n := 1) 5 rfl rfl dX7_lowest_82 ?_
                refine z_goto 6 dX7_lowest_85 rfl ?_
                first | exact ih hl (some b) (l_X7_lowest_a ho (fun q => c25 q.1)) _ | exact ih hl (some b) (l_X7_lowest_a ho (fun q => c36 q.2)) _ | exact ih hl (some i) (by rw [sLow, if_pos (And.intro c25 c36), ← ho]; simp only []; rw [if_pos (i_not_le.mp c70)]) _ | exact ih hl (some b) (by rw [sLow, if_pos (And.intro c25 c36), ← ho]; simp only []; rw [if_neg (i_not_lt.mpr c70)]) _
              · refine z_iload 5 rfl dX7_lowest_73 ?_
                refine z_goto 80 dX7_lowest_75 rfl ?_
                refine z_istore 4 (Nat.le_of_ble_eq_true rfl) rfl dX7_lowest_80 ?_
                refine z_iincN (n := 1) 5 rfl rfl dX7_lowest_82 ?_
                refine z_goto 6 dX7_lowest_85 rfl ?_
                first | exact ih hl (some b) (l_X7_lowest_a ho (fun q => c25 q.1)) _ | exact ih hl (some b) (l_X7_lowest_a ho (fun q => c36 q.2)) _ | exact ih hl (some i) (by rw [sLow, if_pos (And.intro c25 c36), ← ho]; simp only []; rw [if_pos (i_not_le.mp c70)]) _ | exact ih hl (some b) (by rw [sLow, if_pos (And.intro c25 c36), ← ho]; simp only []; rw [if_neg (i_not_lt.mpr c70)]) _
set_option maxRecDepth 4000 in
theorem c_X7_lowest {l : Launch} {G : zG} {A : Nat → Nat} {m0 mm : zM} {v : Nat → Int32} {S : Nat → Nat → Int32} (hp : zMP G A m0 v S mm) (d : Nat) (s : Int32) (w : Nat) (hw : w < 7) (hJ : zJ2 v) : zSem l G (yX7_lowest, cX7_lowest, 7, (some .int)) 3 [.ref (A 0), .int (nI d), .int s, .int (nI w)] mm (some (.int (zO (sLow v d s w (nR v))))) (fun m' => m' = mm) := by
  refine z_met [some (.ref (A 0)), some (.int (nI d)), some (.int s), some (.int (nI w)), none, none, none] rfl (zc1 (by rfl)) (Nat.le_of_ble_eq_true rfl) rfl ?_
  refine z_iconst (-1) dX7_lowest_0 (by decide) ?_
  refine z_istore 4 (Nat.le_of_ble_eq_true rfl) rfl dX7_lowest_1 ?_
  refine z_iconst (nI 0) dX7_lowest_3 rfl ?_
  refine z_istore 5 (Nat.le_of_ble_eq_true rfl) rfl dX7_lowest_4 ?_
  exact l_X7_lowest hp d s w hw hJ 0 (Nat.zero_le _) none rfl _
set_option maxRecDepth 4000 in
theorem c_X7_refund {l : Launch} {G : zG} {A : Nat → Nat} {m0 mm : zM} {v : Nat → Int32} {S : Nat → Nat → Int32} (hp : zMP G A m0 v S mm) (r d : Nat) (hr : r < 60) (hd : d < 10) (hF : v (147 + 7 * r + 0) = nI d) (hst : v 15 ≤ sLeft v d) : zSem l G (yX7_refund, cX7_refund, 3, (some .int)) 5 [.ref (A 0), .int (nI r)] mm (some (.int (sRef v r d))) (fun m' => m' = mm) := by
  refine z_met [some (.ref (A 0)), some (.int (nI r)), none] rfl (zc1 (by rfl)) (Nat.le_of_ble_eq_true rfl) rfl ?_
  refine z_aload_n 0 rfl rfl dX7_refund_0 ?_
  refine zM_ref 0 1 hp (by decide) rfl (by decide) rfl rfl zf_X7_7 dX7_refund_1 ?_
  refine z_bipush (nI 9) dX7_refund_4 rfl ?_
  refine z_iconst (nI 2) dX7_refund_6 rfl ?_
  refine z_aload_n 0 rfl rfl dX7_refund_7 ?_
  refine z_aload_n 0 rfl rfl dX7_refund_8 ?_
  refine z_iload_n 1 rfl rfl dX7_refund_9 ?_
  refine z_iconst (nI 0) dX7_refund_10 rfl ?_
  refine zM_p2 zm_X7_of (c_X7_of hp _ _ (by omega) (by omega)) hp rfl rfl zl_X7_53 (by decide) (Nat.le_of_ble_eq_true rfl) dX7_refund_11 ?_
  rw [hF]
  refine zM_p1 zm_X7_stageOf (c_X7_stageOf hp _ (by omega) (by assumption)) hp rfl rfl zl_X7_87 (by decide) (Nat.le_of_ble_eq_true rfl) dX7_refund_14 ?_
  have hs3 : sStage v d ≤ 3 := by unfold sStage; split; omega; split; omega; split; omega; omega
  refine z_imulN dX7_refund_17 ?_
  refine z_iaddN dX7_refund_18 ?_
  refine z_iconst (nI 1) dX7_refund_19 rfl ?_
  refine z_iaddN dX7_refund_20 ?_
  refine zM_vld hp (by omega) dX7_refund_21 ?_
  refine z_istore_n 2 rfl (Nat.le_of_ble_eq_true rfl) rfl dX7_refund_22 ?_
  refine z_aload_n 0 rfl rfl dX7_refund_23 ?_
  refine z_iload_n 1 rfl rfl dX7_refund_24 ?_
  refine z_iconst (nI 2) dX7_refund_25 rfl ?_
  refine zM_p2 zm_X7_of (c_X7_of hp _ _ (by omega) (by omega)) hp rfl rfl zl_X7_53 (by decide) (Nat.le_of_ble_eq_true rfl) dX7_refund_26 ?_
  refine z_aload_n 0 rfl rfl dX7_refund_29 ?_
  refine z_iload_n 1 rfl rfl dX7_refund_30 ?_
  refine z_iconst (nI 2) dX7_refund_31 rfl ?_
  refine zM_p2 zm_X7_of (c_X7_of hp _ _ (by omega) (by omega)) hp rfl rfl zl_X7_53 (by decide) (Nat.le_of_ble_eq_true rfl) dX7_refund_32 ?_
  refine z_iload_n 2 rfl rfl dX7_refund_35 ?_
  refine z_imul dX7_refund_36 ?_
  refine z_bipush (nI 100) dX7_refund_37 rfl ?_
  refine z_idiv dX7_refund_39 (by decide) ?_
  refine z_isub dX7_refund_40 ?_
  exact z_iret dX7_refund_41 rfl rfl
set_option maxRecDepth 4000 in
theorem c_X7_canExercise {l : Launch} {G : zG} {A : Nat → Nat} {m0 mm : zM} {v : Nat → Int32} {S : Nat → Nat → Int32} (hp : zMP G A m0 v S mm) (r d : Nat) (hr : r < 60) (hd : d < 10) (hF : v (147 + 7 * r + 0) = nI d) (hJ : zJ2 v) : zSem l G (yX7_canExercise, cX7_canExercise, 3, (some .boolean)) 4 [.ref (A 0), .int (nI r)] mm (some (.int (zB (sEx v r d)))) (fun m' => m' = mm) := by
  refine z_met [some (.ref (A 0)), some (.int (nI r)), none] rfl (zc1 (by rfl)) (Nat.le_of_ble_eq_true rfl) rfl ?_
  refine z_aload_n 0 rfl rfl dX7_canExercise_0 ?_
  refine z_iload_n 1 rfl rfl dX7_canExercise_1 ?_
  refine z_iconst (nI 0) dX7_canExercise_2 rfl ?_
  refine zM_p2 zm_X7_of (c_X7_of hp _ _ (by omega) (by omega)) hp rfl rfl zl_X7_53 (by decide) (Nat.le_of_ble_eq_true rfl) dX7_canExercise_3 ?_
  rw [hF]
  refine z_istore_n 2 rfl (Nat.le_of_ble_eq_true rfl) rfl dX7_canExercise_6 ?_
  refine z_aload_n 0 rfl rfl dX7_canExercise_7 ?_
  refine z_iload_n 1 rfl rfl dX7_canExercise_8 ?_
  refine z_iconst (nI 3) dX7_canExercise_9 rfl ?_
  refine zM_p2 zm_X7_of (c_X7_of hp _ _ (by omega) (by omega)) hp rfl rfl zl_X7_53 (by decide) (Nat.le_of_ble_eq_true rfl) dX7_canExercise_10 ?_
  refine z_if_ne 54 dX7_canExercise_13 rfl (fun c13 => ?_) (fun c13 => ?_)
  · refine z_iconst (nI 0) dX7_canExercise_54 rfl ?_
    exact z_zret dX7_canExercise_55 (by first | rfl | exact zB_nar _) (by first | (simp only [sEx, c13, c31, i_not_le.mp c47, decide_true, Bool.and_self]; rfl) | (simp only [sEx, decide_eq_false c13, Bool.false_and]; rfl) | (simp only [sEx, c31, Bool.and_false, Bool.false_and]; rfl) | (simp only [sEx, decide_eq_false (i_not_lt.mpr c47), Bool.and_false]; rfl)) rfl
  · refine z_aload_n 0 rfl rfl dX7_canExercise_16 ?_
    refine z_iload_n 2 rfl rfl dX7_canExercise_17 ?_
    refine zM_p1 zm_X7_daysLeft (c_X7_daysLeft hp _ (by omega)) hp rfl rfl zl_X7_49 (by decide) (Nat.le_of_ble_eq_true rfl) dX7_canExercise_18 ?_
    refine z_iconst (nI 1) dX7_canExercise_21 rfl ?_
    refine z_aload_n 0 rfl rfl dX7_canExercise_22 ?_
    refine zM_ref 0 1 hp (by decide) rfl (by decide) rfl rfl zf_X7_7 dX7_canExercise_23 ?_
    refine z_iconst (nI 5) dX7_canExercise_26 rfl ?_
    refine zM_vld hp (by omega) dX7_canExercise_27 ?_
    refine z_pS3 zm_X7_in (c_X7_in _ _ _) rfl zl_X7_35 (by decide) (Nat.le_of_ble_eq_true rfl) dX7_canExercise_28 ?_
    refine z_if_eqB 54 dX7_canExercise_31 rfl (fun c31 => ?_) (fun c31 => ?_)
    · refine z_iconst (nI 0) dX7_canExercise_54 rfl ?_
      exact z_zret dX7_canExercise_55 (by first | rfl | exact zB_nar _) (by first | (simp only [sEx, c13, c31, i_not_le.mp c47, decide_true, Bool.and_self]; rfl) | (simp only [sEx, decide_eq_false c13, Bool.false_and]; rfl) | (simp only [sEx, c31, Bool.and_false, Bool.false_and]; rfl) | (simp only [sEx, decide_eq_false (i_not_lt.mpr c47), Bool.and_false]; rfl)) rfl
    · refine z_aload_n 0 rfl rfl dX7_canExercise_34 ?_
      refine z_iload_n 2 rfl rfl dX7_canExercise_35 ?_
      refine z_iconst (nI 2) dX7_canExercise_36 rfl ?_
      refine z_iconst (nI 2) dX7_canExercise_37 rfl ?_
      refine zM_p3 zm_X7_rightsOf (c_X7_rightsOf hp _ _ _ hJ) hp rfl rfl zl_X7_56 (by decide) (Nat.le_of_ble_eq_true rfl) dX7_canExercise_38 ?_
      refine z_aload_n 0 rfl rfl dX7_canExercise_41 ?_
      refine z_iload_n 2 rfl rfl dX7_canExercise_42 ?_
      refine z_iconst (nI 1) dX7_canExercise_43 rfl ?_
      refine zM_p2 zm_X7_ofDate (c_X7_ofDate hp _ _ (by omega) (by omega)) hp rfl rfl zl_X7_46 (by decide) (Nat.le_of_ble_eq_true rfl) dX7_canExercise_44 ?_
      refine z_icmp_ge 54 dX7_canExercise_47 rfl (fun c47 => ?_) (fun c47 => ?_)
      · refine z_iconst (nI 0) dX7_canExercise_54 rfl ?_
        exact z_zret dX7_canExercise_55 (by first | rfl | exact zB_nar _) (by first | (simp only [sEx, c13, c31, i_not_le.mp c47, decide_true, Bool.and_self]; rfl) | (simp only [sEx, decide_eq_false c13, Bool.false_and]; rfl) | (simp only [sEx, c31, Bool.and_false, Bool.false_and]; rfl) | (simp only [sEx, decide_eq_false (i_not_lt.mpr c47), Bool.and_false]; rfl)) rfl
      · refine z_iconst (nI 1) dX7_canExercise_50 rfl ?_
        refine z_goto 55 dX7_canExercise_51 rfl ?_
        exact z_zret dX7_canExercise_55 (by first | rfl | exact zB_nar _) (by first | (simp only [sEx, c13, c31, i_not_le.mp c47, decide_true, Bool.and_self]; rfl) | (simp only [sEx, decide_eq_false c13, Bool.false_and]; rfl) | (simp only [sEx, c31, Bool.and_false, Bool.false_and]; rfl) | (simp only [sEx, decide_eq_false (i_not_lt.mpr c47), Bool.and_false]; rfl)) rfl
set_option maxRecDepth 4000 in
theorem l_X7_placeOf {l : Launch} {G : zG} {A : Nat → Nat} {m0 mm : zM} {v : Nat → Int32} {S : Nat → Nat → Int32} (hp : zMP G A m0 v S mm) (d n : Nat) (h : Int32) (hd : d < 10) (hW : v (27 + 12 * d + 5) = nI n) (hn : n ≤ 6) : ∀ i, i ≤ n → ∀ (b : Int32) (hb : b = sPl v d h i), zV l G (yX7_placeOf, cX7_placeOf, 5, (some .int)) 3 (some (.int (sPl v d h n))) (fun m' => m' = mm) 6 [some (.ref (A 0)), some (.int h), some (.int (nI d)), some (.int b), some (.int (nI i))] [] mm := by
  refine z_loop (n) (fun i hi ih b hb => ?_)
  refine z_iload 4 rfl dX7_placeOf_6 ?_
  refine z_aload_n 0 rfl rfl dX7_placeOf_8 ?_
  refine z_iload_n 2 rfl rfl dX7_placeOf_9 ?_
  refine z_iconst (nI 5) dX7_placeOf_10 rfl ?_
  refine zM_p2 zm_X7_ofDate (c_X7_ofDate hp _ _ (by omega) (by omega)) hp rfl rfl zl_X7_46 (by decide) (Nat.le_of_ble_eq_true rfl) dX7_placeOf_11 ?_
  refine z_icmp_ge 44 dX7_placeOf_14 rfl (fun c14 => ?_) (fun c14 => ?_)
  · have e : i = n := by rw [hW] at c14; have := (nI_leI (by omega) (by omega)).mp c14; omega
    refine z_iload_n 3 rfl rfl dX7_placeOf_44 ?_
    exact z_iret dX7_placeOf_45 (by subst e; rw [hb]) rfl
  · have hl : i < n := by rw [hW] at c14; exact Nat.lt_of_not_le (fun q => c14 ((nI_leI (by omega) (by omega)).mpr q))
    refine z_aload_n 0 rfl rfl dX7_placeOf_17 ?_
    refine z_iload_n 2 rfl rfl dX7_placeOf_18 ?_
    refine z_bipush (nI 6) dX7_placeOf_19 rfl ?_
    refine z_iload 4 rfl dX7_placeOf_21 ?_
    refine z_iaddN dX7_placeOf_23 ?_
    refine zM_p2 zm_X7_ofDate (c_X7_ofDate hp _ _ (by omega) (by omega)) hp rfl rfl zl_X7_46 (by decide) (Nat.le_of_ble_eq_true rfl) dX7_placeOf_24 ?_
    refine z_iload_n 1 rfl rfl dX7_placeOf_27 ?_
    refine z_icmp_ne 36 dX7_placeOf_28 rfl (fun c28 => ?_) (fun c28 => ?_)
    · refine z_iload_n 3 rfl rfl dX7_placeOf_36 ?_
      refine z_istore_n 3 rfl (Nat.le_of_ble_eq_true rfl) rfl dX7_placeOf_37 ?_
      refine z_iincN (n := 1) 4 rfl rfl dX7_placeOf_38 ?_
      refine z_goto 6 dX7_placeOf_41 rfl ?_
      exact ih hl _ (by first | rw [sPl, if_pos c28] | rw [sPl, if_neg c28, hb])
    · refine z_iload 4 rfl dX7_placeOf_31 ?_
      refine z_goto 37 dX7_placeOf_33 rfl ?_
      refine z_istore_n 3 rfl (Nat.le_of_ble_eq_true rfl) rfl dX7_placeOf_37 ?_
      refine z_iincN (n := 1) 4 rfl rfl dX7_placeOf_38 ?_
      refine z_goto 6 dX7_placeOf_41 rfl ?_
      exact ih hl _ (by first | rw [sPl, if_pos c28] | rw [sPl, if_neg c28, hb])
set_option maxRecDepth 4000 in
theorem c_X7_placeOf {l : Launch} {G : zG} {A : Nat → Nat} {m0 mm : zM} {v : Nat → Int32} {S : Nat → Nat → Int32} (hp : zMP G A m0 v S mm) (d n : Nat) (h : Int32) (hd : d < 10) (hW : v (27 + 12 * d + 5) = nI n) (hn : n ≤ 6) : zSem l G (yX7_placeOf, cX7_placeOf, 5, (some .int)) 3 [.ref (A 0), .int h, .int (nI d)] mm (some (.int (sPl v d h n))) (fun m' => m' = mm) := by
  refine z_met [some (.ref (A 0)), some (.int h), some (.int (nI d)), none, none] rfl (zc1 (by rfl)) (Nat.le_of_ble_eq_true rfl) rfl ?_
  refine z_bipush (-5) dX7_placeOf_0 (by decide) ?_
  refine z_istore_n 3 rfl (Nat.le_of_ble_eq_true rfl) rfl dX7_placeOf_2 ?_
  refine z_iconst (nI 0) dX7_placeOf_3 rfl ?_
  refine z_istore 4 (Nat.le_of_ble_eq_true rfl) rfl dX7_placeOf_4 ?_
  exact l_X7_placeOf hp d n h hd hW hn 0 (Nat.zero_le _) _ rfl
