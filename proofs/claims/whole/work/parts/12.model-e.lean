def zn (x : Int32) : Nat := x.toNatClampNeg
theorem zn_nI {n : Nat} (h : n < 2 ^ 31) : zn (nI n) = n := nI_clamp h
theorem zO_none : zO none = -1 := rfl
theorem zO_some (r : Nat) : zO (some r) = nI r := rfl
theorem zO_neg {o : Option Nat} (ho : ∀ r, o = some r → r < 60) (h : zO o < 0) : o = none := by
  cases o with
  | none => rfl
  | some r => exact absurd h (nI_pos (by have := ho r rfl; omega))
theorem zO_pos {o : Option Nat} (h : ¬ zO o < 0) : ∃ r, o = some r := by
  cases o with
  | none => exact absurd (by decide) h
  | some r => exact ⟨r, rfl⟩
theorem sCan_ne {v : Nat → Int32} {d : Nat} (h : ¬ sCan v d = 0) : 0 < sCan v d := by
  unfold sCan at h ⊢
  split
  · rename_i q; exact q.1
  · rename_i q; rw [if_neg q] at h; exact absurd rfl h
theorem zRt {v : Nat → Int32} (hK : zK v) {x : Int32} (h : zIn x (nI 0) (v 2 - nI 1) = true) : ∃ r d g, r < nR v ∧ x = nI r ∧ d < nD v ∧ v (147 + 7 * r + 0) = nI d ∧ g < 10 ∧ v (147 + 7 * r + 1) = nI g := by
  rw [hK.2.1.1] at h
  obtain ⟨r, hr, rfl⟩ := zIn_nIp (by have := hK.2.1.2; omega) h
  obtain ⟨⟨d, hd, e1⟩, g, hg, e2⟩ := hK.2.2.2.2 r hr
  exact ⟨r, d, g, hr, rfl, hd, e1, hg, e2⟩
theorem zDt {v : Nat → Int32} (hK : zK v) {x : Int32} (h : zIn x (nI 0) (v 1 - nI 1) = true) : ∃ d, d < nD v ∧ x = nI d := by
  rw [hK.1.1] at h
  exact zIn_nIp (by have := hK.1.2; omega) h
def sDoBuy (v : Nat → Int32) (x y : Int32) : Int32 × (Nat → Int32) :=
  if zIn x (nI 0) (nI 9) = true ∧ zIn y (nI 0) (v 1 - nI 1) = true then
    if sOpen v (zn y) = true then (if sCan v (zn y) = 0 then (-3, v) else (nI (nR v), sSells v (zn x) (zn y))) else (-4, v)
  else (-1, v)
def sOff2 (v : Nat → Int32) (r h g : Nat) : Nat → Int32 :=
  upd (sPays (sPays v h (v (147 + 7 * r + 4))) g (v (147 + 7 * r + 4) * v 4 / nI 100 - v (147 + 7 * r + 4))) (147 + 7 * r + 1) (nI h)
def sOff (v : Nat → Int32) (r h g : Nat) : Nat → Int32 :=
  sLog (sBec (upd (sOff2 v r h g) (147 + 7 * r + 6) (sOff2 v r h g (147 + 7 * r + 6) + nI 1)) r (nI 0)) (nI 1) (nI r) (v (147 + 7 * r + 4))
def sDoOff (v : Nat → Int32) (x y : Int32) : Int32 × (Nat → Int32) :=
  if zIn x (nI 0) (nI 9) = true ∧ zIn y (nI 0) (v 1 - nI 1) = true then
    match sLow v (zn y) (nI 1) 4 (nR v) with
    | none => (-4, v)
    | some r => if v (147 + 7 * r + 1) = x then (-4, v) else (nI r, sOff v r (zn x) (zn (v (147 + 7 * r + 1))))
  else (-1, v)
def sCan1 (v : Nat → Int32) (r d g : Nat) : Nat → Int32 := sLog (sBec (sPays v g (-sRef v r d)) r (nI 3)) (nI 4) (nI r) (sRef v r d)
def sDoCan (v : Nat → Int32) (x : Int32) : Int32 × (Nat → Int32) :=
  if zIn x (nI 0) (v 2 - nI 1) = true then
    if v (147 + 7 * zn x + 3) < nI 2 then
      (sRef v (zn x) (zn (v (147 + 7 * zn x + 0))), sLB (zn (v (147 + 7 * zn x + 0))) (zn (v (27 + 12 * zn (v (147 + 7 * zn x + 0)) + 5))) (sCan1 v (zn x) (zn (v (147 + 7 * zn x + 0))) (zn (v (147 + 7 * zn x + 1)))))
    else (-4, v)
  else (-1, v)
def sDoOfr (v : Nat → Int32) (x p : Int32) : Int32 × (Nat → Int32) :=
  if zIn x (nI 0) (v 2 - nI 1) = true then
    if v (147 + 7 * zn x + 3) < nI 2 then
      if zIn p (nI 1) (nI 2 * v (27 + 12 * zn (v (147 + 7 * zn x + 0)) + 3)) = true then
        if v (147 + 7 * zn x + 4) = p then (-5, v)
        else (if 0 ≤ v (147 + 7 * zn x + 4) then v (147 + 7 * zn x + 4) else nI 0, sLog (upd (upd v (147 + 7 * zn x + 3) (nI 1)) (147 + 7 * zn x + 4) p) (nI 2) x p)
      else (-2, v)
    else (-4, v)
  else (-1, v)
def sEx1 (v : Nat → Int32) (r g : Nat) : Nat → Int32 := sLog (sBec (sPays v g (v 6)) r (nI 2)) (nI 3) (nI r) (sBec (sPays v g (v 6)) r (nI 2) 6)
def sDoEx (v : Nat → Int32) (x : Int32) : Int32 × (Nat → Int32) :=
  if zIn x (nI 0) (v 2 - nI 1) = true then
    if sEx v (zn x) (zn (v (147 + 7 * zn x + 0))) = true then
      (nI (sOf (sEx1 v (zn x) (zn (v (147 + 7 * zn x + 1)))) (zn (v (147 + 7 * zn x + 0))) (nI 2) (nI 2)), sEx1 v (zn x) (zn (v (147 + 7 * zn x + 1))))
    else (-4, v)
  else (-1, v)
/-- the rights that can be cancelled are of open dates -/
def zOpn (v : Nat → Int32) : Prop := ∀ r, r < nR v → v (147 + 7 * r + 3) < nI 2 → v 15 ≤ sLeft v (zn (v (147 + 7 * r + 0)))
set_option maxRecDepth 4000 in
theorem c_X7_doBuy {l : Launch} {G : zG} {A : Nat → Nat} {m0 mm : zM} {v : Nat → Int32} {S : Nat → Nat → Int32} (hp : zMP G A m0 v S mm) (x y : Int32) (hK : zK v) : zSem l G (yX7_doBuy, cX7_doBuy, 3, (some .int)) 7 [.ref (A 0), .int x, .int y] mm (some (.int (sDoBuy v x y).1)) (fun m' => zMP G A m0 (sDoBuy v x y).2 S m') := by
  have hJ := hK.2.1
  have hJ2 := hK.2.1.2
  have hD2 := hK.1.2
  refine z_met [some (.ref (A 0)), some (.int x), some (.int y)] rfl (zc1 (by rfl)) (Nat.le_of_ble_eq_true rfl) rfl ?_
  refine z_iload_n 1 rfl rfl dX7_doBuy_0 ?_
  refine z_pS1 zm_X7_isHolder (c_X7_isHolder _) rfl zl_X7_90 (by decide) (Nat.le_of_ble_eq_true rfl) dX7_doBuy_1 ?_
  refine z_if_eqB 15 dX7_doBuy_4 rfl (fun c4 => ?_) (fun c4 => ?_)
  · refine z_iconst (-1) dX7_doBuy_15 (by decide) ?_
    have e9 : sDoBuy v x y = (-1, v) := by simp only [sDoBuy, c4, and_self, and_true, true_and, and_false, false_and, reduceIte, Bool.false_eq_true, reduceCtorEq]
    exact z_iret dX7_doBuy_16 (by rw [e9]) (by rw [e9]; exact hp)
  · obtain ⟨h, hh, rfl⟩ := zIn_nI (by decide) c4
    refine z_aload_n 0 rfl rfl dX7_doBuy_7 ?_
    refine z_iload_n 2 rfl rfl dX7_doBuy_8 ?_
    refine zM_p1 zm_X7_isDate (c_X7_isDate hp _) hp rfl rfl zl_X7_93 (by decide) (Nat.le_of_ble_eq_true rfl) dX7_doBuy_9 ?_
    refine z_if_neB 17 dX7_doBuy_12 rfl (fun c12 => ?_) (fun c12 => ?_)
    · obtain ⟨d, hd, rfl⟩ := zDt hK c12
      have hpl := hK.2.2.2.1 d hd
      refine z_aload_n 0 rfl rfl dX7_doBuy_17 ?_
      refine z_iload_n 2 rfl rfl dX7_doBuy_18 ?_
      refine zM_p1 zm_X7_isOpen (c_X7_isOpen hp _ (by omega)) hp rfl rfl zl_X7_63 (by decide) (Nat.le_of_ble_eq_true rfl) dX7_doBuy_19 ?_
      refine z_if_neB 28 dX7_doBuy_22 rfl (fun c22 => ?_) (fun c22 => ?_)
      · refine z_aload_n 0 rfl rfl dX7_doBuy_28 ?_
        refine z_iload_n 2 rfl rfl dX7_doBuy_29 ?_
        refine zM_p1 zm_X7_canSell (c_X7_canSell hp _ (by omega) hJ) hp rfl rfl zl_X7_78 (by decide) (Nat.le_of_ble_eq_true rfl) dX7_doBuy_30 ?_
        refine z_if_ne 41 dX7_doBuy_33 rfl (fun c33 => ?_) (fun c33 => ?_)
        · have hR := (sCan_pos hJ (sCan_ne c33)).1
          refine z_aload_n 0 rfl rfl dX7_doBuy_41 ?_
          refine z_iload_n 1 rfl rfl dX7_doBuy_42 ?_
          refine z_iload_n 2 rfl rfl dX7_doBuy_43 ?_
          refine zM_u2 zm_X7_sells (c_X7_sells hp _ _ (by omega) (by omega) (by omega) hJ (by assumption)) hp rfl rfl zl_X7_84 (by decide) (Nat.le_of_ble_eq_true rfl) dX7_doBuy_44 (fun mm hp => ?_)
          have e9 : sDoBuy v (nI h) (nI d) = (if sCan v d = 0 then (-3, v) else (nI (nR v), sSells v h d)) := by simp only [sDoBuy, c4, c12, zn_nI (show d < 2 ^ 31 by omega), zn_nI (show h < 2 ^ 31 by omega), c22, and_self, and_true, true_and, and_false, false_and, reduceIte, Bool.false_eq_true, reduceCtorEq]
          first | rw [if_pos c33] at e9 | rw [if_neg c33] at e9
          exact z_iret dX7_doBuy_47 (by rw [e9]) (by rw [e9]; exact hp)
        · refine z_bipush (-3) dX7_doBuy_36 (by decide) ?_
          refine z_goto 47 dX7_doBuy_38 rfl ?_
          have e9 : sDoBuy v (nI h) (nI d) = (if sCan v d = 0 then (-3, v) else (nI (nR v), sSells v h d)) := by simp only [sDoBuy, c4, c12, zn_nI (show d < 2 ^ 31 by omega), zn_nI (show h < 2 ^ 31 by omega), c22, and_self, and_true, true_and, and_false, false_and, reduceIte, Bool.false_eq_true, reduceCtorEq]
          first | rw [if_pos c33] at e9 | rw [if_neg c33] at e9
          exact z_iret dX7_doBuy_47 (by rw [e9]) (by rw [e9]; exact hp)
      · refine z_bipush (-4) dX7_doBuy_25 (by decide) ?_
        have e9 : sDoBuy v (nI h) (nI d) = (-4, v) := by simp only [sDoBuy, c4, c12, zn_nI (show d < 2 ^ 31 by omega), c22, and_self, and_true, true_and, and_false, false_and, reduceIte, Bool.false_eq_true, reduceCtorEq]
        exact z_iret dX7_doBuy_27 (by rw [e9]) (by rw [e9]; exact hp)
    · refine z_iconst (-1) dX7_doBuy_15 (by decide) ?_
      have e9 : sDoBuy v (nI h) y = (-1, v) := by simp only [sDoBuy, c4, c12, and_self, and_true, true_and, and_false, false_and, reduceIte, Bool.false_eq_true, reduceCtorEq]
      exact z_iret dX7_doBuy_16 (by rw [e9]) (by rw [e9]; exact hp)
set_option maxRecDepth 4000 in
theorem c_X7_doBuyOffered {l : Launch} {G : zG} {A : Nat → Nat} {m0 mm : zM} {v : Nat → Int32} {S : Nat → Nat → Int32} (hp : zMP G A m0 v S mm) (x y : Int32) (hK : zK v) : zSem l G (yX7_doBuyOffered, cX7_doBuyOffered, 6, (some .int)) 5 [.ref (A 0), .int x, .int y] mm (some (.int (sDoOff v x y).1)) (fun m' => zMP G A m0 (sDoOff v x y).2 S m') := by
  have hJ := hK.2.1
  have hJ2 := hK.2.1.2
  have hD2 := hK.1.2
  refine z_met [some (.ref (A 0)), some (.int x), some (.int y), none, none, none] rfl (zc1 (by rfl)) (Nat.le_of_ble_eq_true rfl) rfl ?_
  refine z_iload_n 1 rfl rfl dX7_doBuyOffered_0 ?_
  refine z_pS1 zm_X7_isHolder (c_X7_isHolder _) rfl zl_X7_90 (by decide) (Nat.le_of_ble_eq_true rfl) dX7_doBuyOffered_1 ?_
  refine z_if_eqB 15 dX7_doBuyOffered_4 rfl (fun c4 => ?_) (fun c4 => ?_)
  · refine z_iconst (-1) dX7_doBuyOffered_15 (by decide) ?_
    have e9 : sDoOff v x y = (-1, v) := by simp only [sDoOff, c4, and_self, and_true, true_and, and_false, false_and, reduceIte, Bool.false_eq_true, reduceCtorEq]
    exact z_iret dX7_doBuyOffered_16 (by rw [e9]) (by rw [e9]; exact hp)
  · obtain ⟨h, hh, rfl⟩ := zIn_nI (by decide) c4
    refine z_aload_n 0 rfl rfl dX7_doBuyOffered_7 ?_
    refine z_iload_n 2 rfl rfl dX7_doBuyOffered_8 ?_
    refine zM_p1 zm_X7_isDate (c_X7_isDate hp _) hp rfl rfl zl_X7_93 (by decide) (Nat.le_of_ble_eq_true rfl) dX7_doBuyOffered_9 ?_
    refine z_if_neB 17 dX7_doBuyOffered_12 rfl (fun c12 => ?_) (fun c12 => ?_)
    · obtain ⟨d, hd, rfl⟩ := zDt hK c12
      have hpl := hK.2.2.2.1 d hd
      refine z_aload_n 0 rfl rfl dX7_doBuyOffered_17 ?_
      refine z_iload_n 2 rfl rfl dX7_doBuyOffered_18 ?_
      refine z_iconst (nI 1) dX7_doBuyOffered_19 rfl ?_
      refine z_iconst (nI 4) dX7_doBuyOffered_20 rfl ?_
      refine zM_p3 zm_X7_lowest (c_X7_lowest hp _ _ _ (by omega) hJ) hp rfl rfl zl_X7_96 (by decide) (Nat.le_of_ble_eq_true rfl) dX7_doBuyOffered_21 ?_
      refine z_istore_n 3 rfl (Nat.le_of_ble_eq_true rfl) rfl dX7_doBuyOffered_24 ?_
      refine z_iload_n 3 rfl rfl dX7_doBuyOffered_25 ?_
      refine z_if_lt 39 dX7_doBuyOffered_26 rfl (fun c26 => ?_) (fun c26 => ?_)
      · have ho := zO_neg (fun r q => by have := sLow_lt q; omega) c26
        refine z_bipush (-4) dX7_doBuyOffered_39 (by decide) ?_
        have e9 : sDoOff v (nI h) (nI d) = (-4, v) := by first | (simp only [sDoOff, c4, c12, zn_nI (show d < 2 ^ 31 by omega), ho, c36, and_self, and_true, true_and, and_false, false_and, reduceIte, Bool.false_eq_true, reduceCtorEq]; done) | simp only [sDoOff, c4, c12, zn_nI (show d < 2 ^ 31 by omega), ho, and_self, and_true, true_and, and_false, false_and, reduceIte, Bool.false_eq_true, reduceCtorEq]
        exact z_iret dX7_doBuyOffered_41 (by rw [e9]) (by rw [e9]; exact hp)
      · obtain ⟨r, ho⟩ := zO_pos c26
        have hr := sLow_lt ho
        obtain ⟨-, g, hg, e1⟩ := hK.2.2.2.2 r hr
        rw [ho, zO_some]
        refine z_aload_n 0 rfl rfl dX7_doBuyOffered_29 ?_
        refine z_iload_n 3 rfl rfl dX7_doBuyOffered_30 ?_
        refine z_iconst (nI 1) dX7_doBuyOffered_31 rfl ?_
        refine zM_p2 zm_X7_of (c_X7_of hp _ _ (by omega) (by omega)) hp rfl rfl zl_X7_53 (by decide) (Nat.le_of_ble_eq_true rfl) dX7_doBuyOffered_32 ?_
        refine z_iload_n 1 rfl rfl dX7_doBuyOffered_35 ?_
        refine z_icmp_ne 42 dX7_doBuyOffered_36 rfl (fun c36 => ?_) (fun c36 => ?_)
        · refine z_aload_n 0 rfl rfl dX7_doBuyOffered_42 ?_
          refine z_iload_n 3 rfl rfl dX7_doBuyOffered_43 ?_
          refine z_iconst (nI 4) dX7_doBuyOffered_44 rfl ?_
          refine zM_p2 zm_X7_of (c_X7_of hp _ _ (by omega) (by omega)) hp rfl rfl zl_X7_53 (by decide) (Nat.le_of_ble_eq_true rfl) dX7_doBuyOffered_45 ?_
          refine z_istore 4 (Nat.le_of_ble_eq_true rfl) rfl dX7_doBuyOffered_48 ?_
          refine z_iload 4 rfl dX7_doBuyOffered_50 ?_
          refine z_aload_n 0 rfl rfl dX7_doBuyOffered_52 ?_
          refine zM_ref 0 1 hp (by decide) rfl (by decide) rfl rfl zf_X7_7 dX7_doBuyOffered_53 ?_
          refine z_iconst (nI 4) dX7_doBuyOffered_56 rfl ?_
          refine zM_vld hp (by omega) dX7_doBuyOffered_57 ?_
          refine z_imul dX7_doBuyOffered_58 ?_
          refine z_bipush (nI 100) dX7_doBuyOffered_59 rfl ?_
          refine z_idiv dX7_doBuyOffered_61 (by decide) ?_
          refine z_istore 5 (Nat.le_of_ble_eq_true rfl) rfl dX7_doBuyOffered_62 ?_
          refine z_aload_n 0 rfl rfl dX7_doBuyOffered_64 ?_
          refine z_iload_n 1 rfl rfl dX7_doBuyOffered_65 ?_
          refine z_iload 4 rfl dX7_doBuyOffered_66 ?_
          refine zM_v2 zm_X7_pays (c_X7_pays hp _ _ (by omega)) hp rfl rfl zl_X7_70 (by decide) (Nat.le_of_ble_eq_true rfl) dX7_doBuyOffered_68 (fun mm hp => ?_)
          refine z_aload_n 0 rfl rfl dX7_doBuyOffered_71 ?_
          refine z_aload_n 0 rfl rfl dX7_doBuyOffered_72 ?_
          refine z_iload_n 3 rfl rfl dX7_doBuyOffered_73 ?_
          refine z_iconst (nI 1) dX7_doBuyOffered_74 rfl ?_
          refine zM_p2 zm_X7_of (c_X7_of hp _ _ (by omega) (by omega)) hp rfl rfl zl_X7_53 (by decide) (Nat.le_of_ble_eq_true rfl) dX7_doBuyOffered_75 ?_
          rw [show sPays v h (v (147 + 7 * r + 4)) (147 + 7 * r + 1) = nI g by rw [sPays_at (by omega) (by omega)]; exact e1]
          refine z_iload 5 rfl dX7_doBuyOffered_78 ?_
          refine z_iload 4 rfl dX7_doBuyOffered_80 ?_
          refine z_isub dX7_doBuyOffered_82 ?_
          refine zM_v2 zm_X7_pays (c_X7_pays hp _ _ (by omega)) hp rfl rfl zl_X7_70 (by decide) (Nat.le_of_ble_eq_true rfl) dX7_doBuyOffered_83 (fun mm hp => ?_)
          refine z_aload_n 0 rfl rfl dX7_doBuyOffered_86 ?_
          refine zM_ref 0 1 hp (by decide) rfl (by decide) rfl rfl zf_X7_7 dX7_doBuyOffered_87 ?_
          refine z_iload_n 3 rfl rfl dX7_doBuyOffered_90 ?_
          refine z_iconst (nI 1) dX7_doBuyOffered_91 rfl ?_
          refine z_pS2 zm_X7_rightAt (c_X7_rightAt _ _) rfl zl_X7_43 (by decide) (Nat.le_of_ble_eq_true rfl) dX7_doBuyOffered_92 ?_
          refine z_iload_n 1 rfl rfl dX7_doBuyOffered_95 ?_
          refine zM_vst hp (by omega) dX7_doBuyOffered_96 (fun mm hp => ?_)
          refine z_aload_n 0 rfl rfl dX7_doBuyOffered_97 ?_
          refine zM_ref 0 1 hp (by decide) rfl (by decide) rfl rfl zf_X7_7 dX7_doBuyOffered_98 ?_
          refine z_iload_n 3 rfl rfl dX7_doBuyOffered_101 ?_
          refine z_bipush (nI 6) dX7_doBuyOffered_102 rfl ?_
          refine z_pS2 zm_X7_rightAt (c_X7_rightAt _ _) rfl zl_X7_43 (by decide) (Nat.le_of_ble_eq_true rfl) dX7_doBuyOffered_104 ?_
          refine z_dup2 dX7_doBuyOffered_107 rfl rfl ?_
          refine zM_vld hp (by omega) dX7_doBuyOffered_108 ?_
          refine z_iconst (nI 1) dX7_doBuyOffered_109 rfl ?_
          refine z_iadd dX7_doBuyOffered_110 ?_
          refine zM_vst hp (by omega) dX7_doBuyOffered_111 (fun mm hp => ?_)
          have hp : zMP G A m0 (upd (sOff2 v r h g) (147 + 7 * r + 6) (sOff2 v r h g (147 + 7 * r + 6) + nI 1)) S mm := hp
          refine z_aload_n 0 rfl rfl dX7_doBuyOffered_112 ?_
          refine z_iload_n 3 rfl rfl dX7_doBuyOffered_113 ?_
          refine z_iconst (nI 0) dX7_doBuyOffered_114 rfl ?_
          refine zM_v2 zm_X7_becomes (c_X7_becomes hp _ _ (by omega)) hp rfl rfl zl_X7_99 (by decide) (Nat.le_of_ble_eq_true rfl) dX7_doBuyOffered_115 (fun mm hp => ?_)
          refine z_aload_n 0 rfl rfl dX7_doBuyOffered_118 ?_
          refine z_iconst (nI 1) dX7_doBuyOffered_119 rfl ?_
          refine z_iload_n 3 rfl rfl dX7_doBuyOffered_120 ?_
          refine z_iload 4 rfl dX7_doBuyOffered_121 ?_
          refine zM_v3 zm_X7_log (c_X7_log hp _ _ _) hp rfl rfl zl_X7_74 (by decide) (Nat.le_of_ble_eq_true rfl) dX7_doBuyOffered_123 (fun mm hp => ?_)
          refine z_iload_n 3 rfl rfl dX7_doBuyOffered_126 ?_
          have e9 : sDoOff v (nI h) (nI d) = (nI r, sOff v r h g) := by simp only [sDoOff, c4, c12, zn_nI (show d < 2 ^ 31 by omega), zn_nI (show h < 2 ^ 31 by omega), ho, and_self, and_true, true_and, and_false, false_and, reduceIte, Bool.false_eq_true, reduceCtorEq]; rw [if_neg c36, e1, zn_nI (by omega)]
          exact z_iret dX7_doBuyOffered_127 (by rw [e9]) (by rw [e9]; exact hp)
        · refine z_bipush (-4) dX7_doBuyOffered_39 (by decide) ?_
          have e9 : sDoOff v (nI h) (nI d) = (-4, v) := by first | (simp only [sDoOff, c4, c12, zn_nI (show d < 2 ^ 31 by omega), ho, c36, and_self, and_true, true_and, and_false, false_and, reduceIte, Bool.false_eq_true, reduceCtorEq]; done) | simp only [sDoOff, c4, c12, zn_nI (show d < 2 ^ 31 by omega), ho, and_self, and_true, true_and, and_false, false_and, reduceIte, Bool.false_eq_true, reduceCtorEq]
          exact z_iret dX7_doBuyOffered_41 (by rw [e9]) (by rw [e9]; exact hp)
    · refine z_iconst (-1) dX7_doBuyOffered_15 (by decide) ?_
      have e9 : sDoOff v (nI h) y = (-1, v) := by simp only [sDoOff, c4, c12, and_self, and_true, true_and, and_false, false_and, reduceIte, Bool.false_eq_true, reduceCtorEq]
      exact z_iret dX7_doBuyOffered_16 (by rw [e9]) (by rw [e9]; exact hp)
set_option maxRecDepth 4000 in
theorem c_X7_doCancel {l : Launch} {G : zG} {A : Nat → Nat} {m0 mm : zM} {v : Nat → Int32} {S : Nat → Nat → Int32} (hp : zMP G A m0 v S mm) (x : Int32) (hK : zK v) (hO : zOpn v) : zSem l G (yX7_doCancel, cX7_doCancel, 3, (some .int)) 8 [.ref (A 0), .int x] mm (some (.int (sDoCan v x).1)) (fun m' => zMP G A m0 (sDoCan v x).2 S m') := by
  have hJ := hK.2.1
  have hJ2 := hK.2.1.2
  have hD2 := hK.1.2
  refine z_met [some (.ref (A 0)), some (.int x), none] rfl (zc1 (by rfl)) (Nat.le_of_ble_eq_true rfl) rfl ?_
  refine z_aload_n 0 rfl rfl dX7_doCancel_0 ?_
  refine z_iload_n 1 rfl rfl dX7_doCancel_1 ?_
  refine zM_p1 zm_X7_isRight (c_X7_isRight hp _) hp rfl rfl zl_X7_102 (by decide) (Nat.le_of_ble_eq_true rfl) dX7_doCancel_2 ?_
  refine z_if_neB 10 dX7_doCancel_5 rfl (fun c5 => ?_) (fun c5 => ?_)
  · obtain ⟨r, d, g, hr, rfl, hd, e0, hg, e1⟩ := zRt hK c5
    refine z_aload_n 0 rfl rfl dX7_doCancel_10 ?_
    refine z_iload_n 1 rfl rfl dX7_doCancel_11 ?_
    refine zM_p1 zm_X7_isFree (c_X7_isFree hp _ (by omega)) hp rfl rfl zl_X7_105 (by decide) (Nat.le_of_ble_eq_true rfl) dX7_doCancel_12 ?_
    refine z_if_neB 21 dX7_doCancel_15 rfl (fun c15 => ?_) (fun c15 => ?_)
    · have hst : v 15 ≤ sLeft v d := by have := hO r hr (of_decide_eq_true c15); rwa [e0, zn_nI (by omega)] at this
      refine z_aload_n 0 rfl rfl dX7_doCancel_21 ?_
      refine z_iload_n 1 rfl rfl dX7_doCancel_22 ?_
      refine zM_p1 zm_X7_refund (c_X7_refund hp _ d (by omega) (by omega) e0 hst) hp rfl rfl zl_X7_108 (by decide) (Nat.le_of_ble_eq_true rfl) dX7_doCancel_23 ?_
      refine z_istore_n 2 rfl (Nat.le_of_ble_eq_true rfl) rfl dX7_doCancel_26 ?_
      refine z_aload_n 0 rfl rfl dX7_doCancel_27 ?_
      refine z_aload_n 0 rfl rfl dX7_doCancel_28 ?_
      refine z_iload_n 1 rfl rfl dX7_doCancel_29 ?_
      refine z_iconst (nI 1) dX7_doCancel_30 rfl ?_
      refine zM_p2 zm_X7_of (c_X7_of hp _ _ (by omega) (by omega)) hp rfl rfl zl_X7_53 (by decide) (Nat.le_of_ble_eq_true rfl) dX7_doCancel_31 ?_
      rw [e1]
      refine z_iload_n 2 rfl rfl dX7_doCancel_34 ?_
      refine z_ineg dX7_doCancel_35 ?_
      refine zM_v2 zm_X7_pays (c_X7_pays hp _ _ (by omega)) hp rfl rfl zl_X7_70 (by decide) (Nat.le_of_ble_eq_true rfl) dX7_doCancel_36 (fun mm hp => ?_)
      refine z_aload_n 0 rfl rfl dX7_doCancel_39 ?_
      refine z_iload_n 1 rfl rfl dX7_doCancel_40 ?_
      refine z_iconst (nI 3) dX7_doCancel_41 rfl ?_
      refine zM_v2 zm_X7_becomes (c_X7_becomes hp _ _ (by omega)) hp rfl rfl zl_X7_99 (by decide) (Nat.le_of_ble_eq_true rfl) dX7_doCancel_42 (fun mm hp => ?_)
      refine z_aload_n 0 rfl rfl dX7_doCancel_45 ?_
      refine z_iconst (nI 4) dX7_doCancel_46 rfl ?_
      refine z_iload_n 1 rfl rfl dX7_doCancel_47 ?_
      refine z_iload_n 2 rfl rfl dX7_doCancel_48 ?_
      refine zM_v3 zm_X7_log (c_X7_log hp _ _ _) hp rfl rfl zl_X7_74 (by decide) (Nat.le_of_ble_eq_true rfl) dX7_doCancel_49 (fun mm hp => ?_)
      have hp : zMP G A m0 (sCan1 v r d g) S mm := hp
      have hK1 : zK (sCan1 v r d g) := ((hK.pays hg).bec).log
      have eat : ∀ j, j ≠ 7 → j ≠ 8 → (j < 17 ∨ 27 ≤ j) → (j < 147 ∨ (147 ≤ j ∧ j < 567 ∧ j ≠ 147 + 7 * r + 3 ∧ j ≠ 147 + 7 * r + 4)) → sCan1 v r d g j = v j := fun j h7 h8 hj h9 => by unfold sCan1; rw [sLog_at h8 (by omega), sBec_at (by omega) (by omega), sPays_at h7 (by omega)]
      refine z_aload_n 0 rfl rfl dX7_doCancel_52 ?_
      refine z_aload_n 0 rfl rfl dX7_doCancel_53 ?_
      refine z_iload_n 1 rfl rfl dX7_doCancel_54 ?_
      refine z_iconst (nI 0) dX7_doCancel_55 rfl ?_
      refine zM_p2 zm_X7_of (c_X7_of hp _ _ (by omega) (by omega)) hp rfl rfl zl_X7_53 (by decide) (Nat.le_of_ble_eq_true rfl) dX7_doCancel_56 ?_
      rw [show sCan1 v r d g (147 + 7 * r + 0) = nI d by rw [eat _ (by omega) (by omega) (by omega) (by omega)]; exact e0]
      obtain ⟨n, hn, h5, -⟩ := hK.2.2.1 d (by omega)
      have h5b : sCan1 v r d g (27 + 12 * d + 5) = nI n := by rw [eat _ (by omega) (by omega) (by omega) (by omega)]; exact h5
      have hd1 : d < nD (sCan1 v r d g) := by rw [nD_of (eat 1 (by omega) (by omega) (by omega) (by omega))]; exact hd
      refine zM_v1 zm_X7_listBuys (c_X7_listBuys hp _ _ (by assumption) (by omega) (by assumption) (by omega)) hp rfl rfl zl_X7_111 (by decide) (Nat.le_of_ble_eq_true rfl) dX7_doCancel_59 (fun mm hp => ?_)
      refine z_iload_n 2 rfl rfl dX7_doCancel_62 ?_
      have e9 : sDoCan v (nI r) = (sRef v r d, sLB d n (sCan1 v r d g)) := by simp only [sDoCan, c5, zn_nI (show r < 2 ^ 31 by omega), e0, e1, zn_nI (show d < 2 ^ 31 by omega), zn_nI (show g < 2 ^ 31 by omega), of_decide_eq_true c15, h5, zn_nI (show n < 2 ^ 31 by omega), and_self, and_true, true_and, and_false, false_and, reduceIte, Bool.false_eq_true, reduceCtorEq]
      exact z_iret dX7_doCancel_63 (by rw [e9]) (by rw [e9]; exact hp)
    · refine z_bipush (-4) dX7_doCancel_18 (by decide) ?_
      have e9 : sDoCan v (nI r) = (-4, v) := by simp only [sDoCan, c5, zn_nI (show r < 2 ^ 31 by omega), of_decide_eq_false c15, and_self, and_true, true_and, and_false, false_and, reduceIte, Bool.false_eq_true, reduceCtorEq]
      exact z_iret dX7_doCancel_20 (by rw [e9]) (by rw [e9]; exact hp)
  · refine z_iconst (-1) dX7_doCancel_8 (by decide) ?_
    have e9 : sDoCan v x = (-1, v) := by simp only [sDoCan, c5, and_self, and_true, true_and, and_false, false_and, reduceIte, Bool.false_eq_true, reduceCtorEq]
    exact z_iret dX7_doCancel_9 (by rw [e9]) (by rw [e9]; exact hp)
set_option maxRecDepth 4000 in
theorem c_X7_doOffer {l : Launch} {G : zG} {A : Nat → Nat} {m0 mm : zM} {v : Nat → Int32} {S : Nat → Nat → Int32} (hp : zMP G A m0 v S mm) (x p : Int32) (hK : zK v) : zSem l G (yX7_doOffer, cX7_doOffer, 4, (some .int)) 4 [.ref (A 0), .int x, .int p] mm (some (.int (sDoOfr v x p).1)) (fun m' => zMP G A m0 (sDoOfr v x p).2 S m') := by
  have hJ := hK.2.1
  have hJ2 := hK.2.1.2
  have hD2 := hK.1.2
  refine z_met [some (.ref (A 0)), some (.int x), some (.int p), none] rfl (zc1 (by rfl)) (Nat.le_of_ble_eq_true rfl) rfl ?_
  refine z_aload_n 0 rfl rfl dX7_doOffer_0 ?_
  refine z_iload_n 1 rfl rfl dX7_doOffer_1 ?_
  refine zM_p1 zm_X7_isRight (c_X7_isRight hp _) hp rfl rfl zl_X7_102 (by decide) (Nat.le_of_ble_eq_true rfl) dX7_doOffer_2 ?_
  refine z_if_neB 10 dX7_doOffer_5 rfl (fun c5 => ?_) (fun c5 => ?_)
  · obtain ⟨r, d, g, hr, rfl, hd, e0, hg, e1⟩ := zRt hK c5
    refine z_aload_n 0 rfl rfl dX7_doOffer_10 ?_
    refine z_iload_n 1 rfl rfl dX7_doOffer_11 ?_
    refine zM_p1 zm_X7_isFree (c_X7_isFree hp _ (by omega)) hp rfl rfl zl_X7_105 (by decide) (Nat.le_of_ble_eq_true rfl) dX7_doOffer_12 ?_
    refine z_if_neB 21 dX7_doOffer_15 rfl (fun c15 => ?_) (fun c15 => ?_)
    · refine z_iload_n 2 rfl rfl dX7_doOffer_21 ?_
      refine z_iconst (nI 1) dX7_doOffer_22 rfl ?_
      refine z_iconst (nI 2) dX7_doOffer_23 rfl ?_
      refine z_aload_n 0 rfl rfl dX7_doOffer_24 ?_
      refine z_aload_n 0 rfl rfl dX7_doOffer_25 ?_
      refine z_iload_n 1 rfl rfl dX7_doOffer_26 ?_
      refine z_iconst (nI 0) dX7_doOffer_27 rfl ?_
      refine zM_p2 zm_X7_of (c_X7_of hp _ _ (by omega) (by omega)) hp rfl rfl zl_X7_53 (by decide) (Nat.le_of_ble_eq_true rfl) dX7_doOffer_28 ?_
      rw [e0]
      refine z_iconst (nI 3) dX7_doOffer_31 rfl ?_
      refine zM_p2 zm_X7_ofDate (c_X7_ofDate hp _ _ (by omega) (by omega)) hp rfl rfl zl_X7_46 (by decide) (Nat.le_of_ble_eq_true rfl) dX7_doOffer_32 ?_
      refine z_imul dX7_doOffer_35 ?_
      refine z_pS3 zm_X7_in (c_X7_in _ _ _) rfl zl_X7_35 (by decide) (Nat.le_of_ble_eq_true rfl) dX7_doOffer_36 ?_
      refine z_if_neB 45 dX7_doOffer_39 rfl (fun c39 => ?_) (fun c39 => ?_)
      · refine z_aload_n 0 rfl rfl dX7_doOffer_45 ?_
        refine z_iload_n 1 rfl rfl dX7_doOffer_46 ?_
        refine z_iconst (nI 4) dX7_doOffer_47 rfl ?_
        refine zM_p2 zm_X7_of (c_X7_of hp _ _ (by omega) (by omega)) hp rfl rfl zl_X7_53 (by decide) (Nat.le_of_ble_eq_true rfl) dX7_doOffer_48 ?_
        refine z_istore_n 3 rfl (Nat.le_of_ble_eq_true rfl) rfl dX7_doOffer_51 ?_
        refine z_iload_n 3 rfl rfl dX7_doOffer_52 ?_
        refine z_iload_n 2 rfl rfl dX7_doOffer_53 ?_
        refine z_icmp_ne 60 dX7_doOffer_54 rfl (fun c54 => ?_) (fun c54 => ?_)
        · refine z_aload_n 0 rfl rfl dX7_doOffer_60 ?_
          refine zM_ref 0 1 hp (by decide) rfl (by decide) rfl rfl zf_X7_7 dX7_doOffer_61 ?_
          refine z_iload_n 1 rfl rfl dX7_doOffer_64 ?_
          refine z_iconst (nI 3) dX7_doOffer_65 rfl ?_
          refine z_pS2 zm_X7_rightAt (c_X7_rightAt _ _) rfl zl_X7_43 (by decide) (Nat.le_of_ble_eq_true rfl) dX7_doOffer_66 ?_
          refine z_iconst (nI 1) dX7_doOffer_69 rfl ?_
          refine zM_vst hp (by omega) dX7_doOffer_70 (fun mm hp => ?_)
          refine z_aload_n 0 rfl rfl dX7_doOffer_71 ?_
          refine zM_ref 0 1 hp (by decide) rfl (by decide) rfl rfl zf_X7_7 dX7_doOffer_72 ?_
          refine z_iload_n 1 rfl rfl dX7_doOffer_75 ?_
          refine z_iconst (nI 4) dX7_doOffer_76 rfl ?_
          refine z_pS2 zm_X7_rightAt (c_X7_rightAt _ _) rfl zl_X7_43 (by decide) (Nat.le_of_ble_eq_true rfl) dX7_doOffer_77 ?_
          refine z_iload_n 2 rfl rfl dX7_doOffer_80 ?_
          refine zM_vst hp (by omega) dX7_doOffer_81 (fun mm hp => ?_)
          refine z_aload_n 0 rfl rfl dX7_doOffer_82 ?_
          refine z_iconst (nI 2) dX7_doOffer_83 rfl ?_
          refine z_iload_n 1 rfl rfl dX7_doOffer_84 ?_
          refine z_iload_n 2 rfl rfl dX7_doOffer_85 ?_
          refine zM_v3 zm_X7_log (c_X7_log hp _ _ _) hp rfl rfl zl_X7_74 (by decide) (Nat.le_of_ble_eq_true rfl) dX7_doOffer_86 (fun mm hp => ?_)
          refine z_iload_n 3 rfl rfl dX7_doOffer_89 ?_
          refine z_if_ge 97 dX7_doOffer_90 rfl (fun c90 => ?_) (fun c90 => ?_)
          · refine z_iload_n 3 rfl rfl dX7_doOffer_97 ?_
            have e9 : sDoOfr v (nI r) p = (if 0 ≤ v (147 + 7 * r + 4) then v (147 + 7 * r + 4) else nI 0, sLog (upd (upd v (147 + 7 * r + 3) (nI 1)) (147 + 7 * r + 4) p) (nI 2) (nI r) p) := by simp only [sDoOfr, c5, zn_nI (show r < 2 ^ 31 by omega), e0, e1, zn_nI (show d < 2 ^ 31 by omega), zn_nI (show g < 2 ^ 31 by omega), of_decide_eq_true c15, c39, and_self, and_true, true_and, and_false, false_and, reduceIte, Bool.false_eq_true, reduceCtorEq]; rw [if_neg c54]
            first | rw [if_pos c90] at e9 | rw [if_neg c90] at e9
            exact z_iret dX7_doOffer_98 (by rw [e9]) (by rw [e9]; exact hp)
          · refine z_iconst (nI 0) dX7_doOffer_93 rfl ?_
            refine z_goto 98 dX7_doOffer_94 rfl ?_
            have e9 : sDoOfr v (nI r) p = (if 0 ≤ v (147 + 7 * r + 4) then v (147 + 7 * r + 4) else nI 0, sLog (upd (upd v (147 + 7 * r + 3) (nI 1)) (147 + 7 * r + 4) p) (nI 2) (nI r) p) := by simp only [sDoOfr, c5, zn_nI (show r < 2 ^ 31 by omega), e0, e1, zn_nI (show d < 2 ^ 31 by omega), zn_nI (show g < 2 ^ 31 by omega), of_decide_eq_true c15, c39, and_self, and_true, true_and, and_false, false_and, reduceIte, Bool.false_eq_true, reduceCtorEq]; rw [if_neg c54]
            first | rw [if_pos c90] at e9 | rw [if_neg c90] at e9
            exact z_iret dX7_doOffer_98 (by rw [e9]) (by rw [e9]; exact hp)
        · refine z_bipush (-5) dX7_doOffer_57 (by decide) ?_
          have e9 : sDoOfr v (nI r) p = (-5, v) := by simp only [sDoOfr, c5, zn_nI (show r < 2 ^ 31 by omega), e0, e1, zn_nI (show d < 2 ^ 31 by omega), zn_nI (show g < 2 ^ 31 by omega), of_decide_eq_true c15, c39, and_self, and_true, true_and, and_false, false_and, reduceIte, Bool.false_eq_true, reduceCtorEq]; rw [if_pos c54]
          exact z_iret dX7_doOffer_59 (by rw [e9]) (by rw [e9]; exact hp)
      · refine z_bipush (-2) dX7_doOffer_42 (by decide) ?_
        have e9 : sDoOfr v (nI r) p = (-2, v) := by simp only [sDoOfr, c5, zn_nI (show r < 2 ^ 31 by omega), e0, e1, zn_nI (show d < 2 ^ 31 by omega), zn_nI (show g < 2 ^ 31 by omega), of_decide_eq_true c15, c39, and_self, and_true, true_and, and_false, false_and, reduceIte, Bool.false_eq_true, reduceCtorEq]
        exact z_iret dX7_doOffer_44 (by rw [e9]) (by rw [e9]; exact hp)
    · refine z_bipush (-4) dX7_doOffer_18 (by decide) ?_
      have e9 : sDoOfr v (nI r) p = (-4, v) := by simp only [sDoOfr, c5, zn_nI (show r < 2 ^ 31 by omega), of_decide_eq_false c15, and_self, and_true, true_and, and_false, false_and, reduceIte, Bool.false_eq_true, reduceCtorEq]
      exact z_iret dX7_doOffer_20 (by rw [e9]) (by rw [e9]; exact hp)
  · refine z_iconst (-1) dX7_doOffer_8 (by decide) ?_
    have e9 : sDoOfr v x p = (-1, v) := by simp only [sDoOfr, c5, and_self, and_true, true_and, and_false, false_and, reduceIte, Bool.false_eq_true, reduceCtorEq]
    exact z_iret dX7_doOffer_9 (by rw [e9]) (by rw [e9]; exact hp)
set_option maxRecDepth 4000 in
theorem c_X7_doExercise {l : Launch} {G : zG} {A : Nat → Nat} {m0 mm : zM} {v : Nat → Int32} {S : Nat → Nat → Int32} (hp : zMP G A m0 v S mm) (x : Int32) (hK : zK v) : zSem l G (yX7_doExercise, cX7_doExercise, 2, (some .int)) 5 [.ref (A 0), .int x] mm (some (.int (sDoEx v x).1)) (fun m' => zMP G A m0 (sDoEx v x).2 S m') := by
  have hJ := hK.2.1
  have hJ2 := hK.2.1.2
  have hD2 := hK.1.2
  refine z_met [some (.ref (A 0)), some (.int x)] rfl (zc1 (by rfl)) (Nat.le_of_ble_eq_true rfl) rfl ?_
  refine z_aload_n 0 rfl rfl dX7_doExercise_0 ?_
  refine z_iload_n 1 rfl rfl dX7_doExercise_1 ?_
  refine zM_p1 zm_X7_isRight (c_X7_isRight hp _) hp rfl rfl zl_X7_102 (by decide) (Nat.le_of_ble_eq_true rfl) dX7_doExercise_2 ?_
  refine z_if_neB 10 dX7_doExercise_5 rfl (fun c5 => ?_) (fun c5 => ?_)
  · obtain ⟨r, d, g, hr, rfl, hd, e0, hg, e1⟩ := zRt hK c5
    refine z_aload_n 0 rfl rfl dX7_doExercise_10 ?_
    refine z_iload_n 1 rfl rfl dX7_doExercise_11 ?_
    refine zM_p1 zm_X7_canExercise (c_X7_canExercise hp _ d (by omega) (by omega) e0 hJ) hp rfl rfl zl_X7_115 (by decide) (Nat.le_of_ble_eq_true rfl) dX7_doExercise_12 ?_
    refine z_if_neB 21 dX7_doExercise_15 rfl (fun c15 => ?_) (fun c15 => ?_)
    · refine z_aload_n 0 rfl rfl dX7_doExercise_21 ?_
      refine z_aload_n 0 rfl rfl dX7_doExercise_22 ?_
      refine z_iload_n 1 rfl rfl dX7_doExercise_23 ?_
      refine z_iconst (nI 1) dX7_doExercise_24 rfl ?_
      refine zM_p2 zm_X7_of (c_X7_of hp _ _ (by omega) (by omega)) hp rfl rfl zl_X7_53 (by decide) (Nat.le_of_ble_eq_true rfl) dX7_doExercise_25 ?_
      rw [e1]
      refine z_aload_n 0 rfl rfl dX7_doExercise_28 ?_
      refine zM_ref 0 1 hp (by decide) rfl (by decide) rfl rfl zf_X7_7 dX7_doExercise_29 ?_
      refine z_bipush (nI 6) dX7_doExercise_32 rfl ?_
      refine zM_vld hp (by omega) dX7_doExercise_34 ?_
      refine zM_v2 zm_X7_pays (c_X7_pays hp _ _ (by omega)) hp rfl rfl zl_X7_70 (by decide) (Nat.le_of_ble_eq_true rfl) dX7_doExercise_35 (fun mm hp => ?_)
      refine z_aload_n 0 rfl rfl dX7_doExercise_38 ?_
      refine z_iload_n 1 rfl rfl dX7_doExercise_39 ?_
      refine z_iconst (nI 2) dX7_doExercise_40 rfl ?_
      refine zM_v2 zm_X7_becomes (c_X7_becomes hp _ _ (by omega)) hp rfl rfl zl_X7_99 (by decide) (Nat.le_of_ble_eq_true rfl) dX7_doExercise_41 (fun mm hp => ?_)
      refine z_aload_n 0 rfl rfl dX7_doExercise_44 ?_
      refine z_iconst (nI 3) dX7_doExercise_45 rfl ?_
      refine z_iload_n 1 rfl rfl dX7_doExercise_46 ?_
      refine z_aload_n 0 rfl rfl dX7_doExercise_47 ?_
      refine zM_ref 0 1 hp (by decide) rfl (by decide) rfl rfl zf_X7_7 dX7_doExercise_48 ?_
      refine z_bipush (nI 6) dX7_doExercise_51 rfl ?_
      refine zM_vld hp (by omega) dX7_doExercise_53 ?_
      refine zM_v3 zm_X7_log (c_X7_log hp _ _ _) hp rfl rfl zl_X7_74 (by decide) (Nat.le_of_ble_eq_true rfl) dX7_doExercise_54 (fun mm hp => ?_)
      have hp : zMP G A m0 (sEx1 v r g) S mm := hp
      have hK1 : zK (sEx1 v r g) := ((hK.pays hg).bec).log
      have hJ := hK1.2.1
      refine z_aload_n 0 rfl rfl dX7_doExercise_57 ?_
      refine z_aload_n 0 rfl rfl dX7_doExercise_58 ?_
      refine z_iload_n 1 rfl rfl dX7_doExercise_59 ?_
      refine z_iconst (nI 0) dX7_doExercise_60 rfl ?_
      refine zM_p2 zm_X7_of (c_X7_of hp _ _ (by omega) (by omega)) hp rfl rfl zl_X7_53 (by decide) (Nat.le_of_ble_eq_true rfl) dX7_doExercise_61 ?_
      rw [show sEx1 v r g (147 + 7 * r + 0) = nI d by unfold sEx1; rw [sLog_at (by omega) (by omega), sBec_at (by omega) (by omega), sPays_at (by omega) (by omega)]; exact e0]
      refine z_iconst (nI 2) dX7_doExercise_64 rfl ?_
      refine z_iconst (nI 2) dX7_doExercise_65 rfl ?_
      refine zM_p3 zm_X7_rightsOf (c_X7_rightsOf hp _ _ _ hJ) hp rfl rfl zl_X7_56 (by decide) (Nat.le_of_ble_eq_true rfl) dX7_doExercise_66 ?_
      have e9 : sDoEx v (nI r) = (nI (sOf (sEx1 v r g) d (nI 2) (nI 2)), sEx1 v r g) := by simp only [sDoEx, c5, zn_nI (show r < 2 ^ 31 by omega), e0, e1, zn_nI (show d < 2 ^ 31 by omega), zn_nI (show g < 2 ^ 31 by omega), c15, and_self, and_true, true_and, and_false, false_and, reduceIte, Bool.false_eq_true, reduceCtorEq]
      exact z_iret dX7_doExercise_69 (by rw [e9]) (by rw [e9]; exact hp)
    · refine z_bipush (-4) dX7_doExercise_18 (by decide) ?_
      have e9 : sDoEx v (nI r) = (-4, v) := by simp only [sDoEx, c5, zn_nI (show r < 2 ^ 31 by omega), e0, e1, zn_nI (show d < 2 ^ 31 by omega), zn_nI (show g < 2 ^ 31 by omega), c15, and_self, and_true, true_and, and_false, false_and, reduceIte, Bool.false_eq_true, reduceCtorEq]
      exact z_iret dX7_doExercise_20 (by rw [e9]) (by rw [e9]; exact hp)
  · refine z_iconst (-1) dX7_doExercise_8 (by decide) ?_
    have e9 : sDoEx v x = (-1, v) := by simp only [sDoEx, c5, and_self, and_true, true_and, and_false, false_and, reduceIte, Bool.false_eq_true, reduceCtorEq]
    exact z_iret dX7_doExercise_9 (by rw [e9]) (by rw [e9]; exact hp)
