theorem upd_cm {v : Nat → Int32} {i j : Nat} {x y : Int32} (h : i ≠ j) : upd (upd v i x) j y = upd (upd v j y) i x := by
  funext k
  by_cases e : k = i
  · subst e; rw [upd_eq, upd_ne h, upd_eq]
  · by_cases e2 : k = j
    · subst e2; rw [upd_eq, upd_ne e, upd_eq]
    · rw [upd_ne e2, upd_ne e, upd_ne e, upd_ne e2]
/-- the class puts the new right's numbers in another order -/
theorem kNew (v : Nat → Int32) (r d h : Nat) (c : Int32) : upd (upd (upd (upd (upd (upd (upd (upd v 2 (v 2 + nI 1)) (147 + 7 * r + 0) (nI d)) (147 + 7 * r + 1) (nI h)) (147 + 7 * r + 2) c) (147 + 7 * r + 5) (v 0)) (147 + 7 * r + 6) (nI 0)) (147 + 7 * r + 3) (nI 0)) (147 + 7 * r + 4) (-5) = sNew2 v r d h c := by
  have e2 : sNew v r d h c 2 = v 2 := by unfold sNew; rw [upd_ne (by omega), upd_ne (by omega), upd_ne (by omega), upd_ne (by omega), upd_ne (by omega), upd_ne (by omega), upd_ne (by omega)]
  unfold sNew2
  rw [e2]
  unfold sNew
  rw [show upd (upd (upd (upd (upd v (147 + 7 * r + 0) (nI d)) (147 + 7 * r + 1) (nI h)) (147 + 7 * r + 2) c) (147 + 7 * r + 3) (nI 0)) (147 + 7 * r + 4) (-5) 0 = v 0 by rw [upd_ne (by omega), upd_ne (by omega), upd_ne (by omega), upd_ne (by omega), upd_ne (by omega)]]
  funext j
  simp only [upd]
  by_cases q : 147 + 7 * r ≤ j ∧ j < 147 + 7 * r + 7
  · rcases (by omega : j = 147 + 7 * r + 0 ∨ j = 147 + 7 * r + 1 ∨ j = 147 + 7 * r + 2 ∨ j = 147 + 7 * r + 3 ∨ j = 147 + 7 * r + 4 ∨ j = 147 + 7 * r + 5 ∨ j = 147 + 7 * r + 6) with e | e | e | e | e | e | e
    · rw [if_neg (by omega), if_neg (by omega), if_neg (by omega), if_neg (by omega), if_neg (by omega), if_neg (by omega), if_pos e, if_neg (by omega), if_neg (by omega), if_neg (by omega), if_neg (by omega), if_neg (by omega), if_neg (by omega), if_neg (by omega), if_pos e]
    · rw [if_neg (by omega), if_neg (by omega), if_neg (by omega), if_neg (by omega), if_neg (by omega), if_pos e, if_neg (by omega), if_neg (by omega), if_neg (by omega), if_neg (by omega), if_neg (by omega), if_neg (by omega), if_pos e]
    · rw [if_neg (by omega), if_neg (by omega), if_neg (by omega), if_neg (by omega), if_pos e, if_neg (by omega), if_neg (by omega), if_neg (by omega), if_neg (by omega), if_neg (by omega), if_pos e]
    · rw [if_neg (by omega), if_pos e, if_neg (by omega), if_neg (by omega), if_neg (by omega), if_neg (by omega), if_pos e]
    · rw [if_pos e, if_neg (by omega), if_neg (by omega), if_neg (by omega), if_pos e]
    · rw [if_neg (by omega), if_neg (by omega), if_neg (by omega), if_pos e, if_neg (by omega), if_neg (by omega), if_pos e]
    · rw [if_neg (by omega), if_neg (by omega), if_pos e, if_neg (by omega), if_pos e]
  · by_cases q2 : j = 2
    · subst q2
      rw [if_neg (by omega), if_neg (by omega), if_neg (by omega), if_neg (by omega), if_neg (by omega), if_neg (by omega), if_neg (by omega), if_pos rfl, if_pos rfl]
    · rw [if_neg (by omega), if_neg (by omega), if_neg (by omega), if_neg (by omega), if_neg (by omega), if_neg (by omega), if_neg (by omega), if_neg q2, if_neg q2, if_neg (by omega), if_neg (by omega), if_neg (by omega), if_neg (by omega), if_neg (by omega), if_neg (by omega), if_neg (by omega)]
set_option maxRecDepth 4000 in
theorem c_X5_sell {l : Launch} {G : zG} {B : Nat → Nat} {m0 mm : zM} {v : Nat → Int32} (hp : zCV G B m0 v mm) (h d : Nat) (hH : zH v) (hh : h < 10) (hd : d < nD v) : zSem l G (yX5_sell, cX5_sell, 5, (some .int)) 3 [.ref (B 0), .int (nI h), .ref (B (10 + d))] mm (some (.int (if 0 < sCan v d then nI (nR v) else -3))) (fun m' => zCV G B m0 (if 0 < sCan v d then sSells v h d else v) m') := by
  have hd10 := hH.1.1.2
  have hJ := hH.1.2.1
  have hJ2 := hJ.2
  obtain ⟨e8, he8, ee8⟩ := hH.2.2.2.2.2.2
  refine z_met [some (.ref (B 0)), some (.int (nI h)), some (.ref (B (10 + d))), none, none] rfl (zc1 (by rfl)) (Nat.le_of_ble_eq_true rfl) rfl ?_
  refine z_aload_n 0 rfl rfl dX5_sell_0 ?_
  refine z_aload_n 2 rfl rfl dX5_sell_1 ?_
  refine z_pV1 (ci := 5) zm_X5_sellable (c_X5_sellable hp _ hH (by omega)) rfl zl_X5_235 rfl rfl (by decide) (hp.at (j := 0) (Or.inl (by decide))).1 (hp.at (j := 0) (Or.inl (by decide))).2 (by decide) (Nat.le_of_ble_eq_true rfl) dX5_sell_2 ?_
  refine z_iconst (nI 1) dX5_sell_5 rfl ?_
  refine z_icmp_lt 21 dX5_sell_6 rfl (fun c6 => ?_) (fun c6 => ?_)
  · have e0 : ¬ 0 < sCan v d := fun q => absurd (pos_one.mp q) (i_not_le.mpr c6)
    rw [if_neg e0, if_neg e0]
    refine z_bipush (-3) dX5_sell_21 (by decide) ?_
    exact z_iret dX5_sell_23 rfl hp
  · have e0 : 0 < sCan v d := pos_one.mpr (i_not_lt.mp c6)
    rw [if_pos e0, if_pos e0]
    have hR := (sCan_pos hJ e0).1
    refine z_aload_n 0 rfl rfl dX5_sell_9 ?_
    refine zC_S6 hp rfl zf_X5_76 dX5_sell_10 ?_
    refine z_aload_n 0 rfl rfl dX5_sell_13 ?_
    refine zC_S7 hp rfl zf_X5_43 dX5_sell_14 ?_
    refine zC_a6l hp dX5_sell_17 ?_
    rw [hJ.1]
    refine z_icmp_lt 24 dX5_sell_18 rfl (fun c18 => ?_) (fun c18 => ?_)
    · refine z_aload_n 0 rfl rfl dX5_sell_24 ?_
      refine z_aload_n 2 rfl rfl dX5_sell_25 ?_
      refine z_pV1 (ci := 5) zm_X5_priceNow (c_X5_priceNow hp _ hH (by omega)) rfl zl_X5_238 rfl rfl (by decide) (hp.at (j := 0) (Or.inl (by decide))).1 (hp.at (j := 0) (Or.inl (by decide))).2 (by decide) (Nat.le_of_ble_eq_true rfl) dX5_sell_26 ?_
      refine z_istore_n 3 rfl (Nat.le_of_ble_eq_true rfl) rfl dX5_sell_29 ?_
      refine z_aload_n 0 rfl rfl dX5_sell_30 ?_
      refine zC_S7 hp rfl zf_X5_43 dX5_sell_31 ?_
      refine z_aload_n 0 rfl rfl dX5_sell_34 ?_
      refine zC_S6 hp rfl zf_X5_76 dX5_sell_35 ?_
      rw [hJ.1]
      refine zC_a6 hp (by omega) dX5_sell_38 ?_
      refine z_astore 4 (Nat.le_of_ble_eq_true rfl) rfl dX5_sell_39 ?_
      refine z_aload_n 0 rfl rfl dX5_sell_41 ?_
      refine z_dup dX5_sell_42 rfl ?_
      refine zC_S6 hp rfl zf_X5_76 dX5_sell_43 ?_
      refine z_iconst (nI 1) dX5_sell_46 rfl ?_
      refine z_iadd dX5_sell_47 ?_
      refine zC_Sp6 hp rfl zf_X5_76 dX5_sell_48 (fun mm hp => ?_)
      refine z_aload 4 rfl dX5_sell_51 ?_
      refine z_aload_n 2 rfl rfl dX5_sell_53 ?_
      refine zC_D0 hp (by omega) rfl zf_X5_107 dX5_sell_54 ?_
      refine zC_Rp1 hp (by omega) rfl zf_X5_172 dX5_sell_57 (fun mm hp => ?_)
      refine z_aload 4 rfl dX5_sell_60 ?_
      refine z_iload_n 1 rfl rfl dX5_sell_62 ?_
      refine zC_Rp2 hp (by omega) rfl zf_X5_143 dX5_sell_63 (fun mm hp => ?_)
      refine z_aload 4 rfl dX5_sell_66 ?_
      refine z_iload_n 3 rfl rfl dX5_sell_68 ?_
      refine zC_Rp3 hp (by omega) rfl zf_X5_217 dX5_sell_69 (fun mm hp => ?_)
      refine z_aload 4 rfl dX5_sell_72 ?_
      refine z_aload_n 0 rfl rfl dX5_sell_74 ?_
      refine zC_S0 hp rfl zf_X5_61 dX5_sell_75 ?_
      rw [show upd (upd (upd (upd v 2 (v 2 + nI 1)) (147 + 7 * nR v + 0) (nI d)) (147 + 7 * nR v + 1) (nI h)) (147 + 7 * nR v + 2) (sPrice v d (sLeft v d)) 0 = v 0 by rw [upd_ne (by omega), upd_ne (by omega), upd_ne (by omega), upd_ne (by omega)]]
      refine zC_Rp6 hp (by omega) rfl zf_X5_241 dX5_sell_78 (fun mm hp => ?_)
      refine z_aload 4 rfl dX5_sell_81 ?_
      refine z_iconst (nI 0) dX5_sell_83 rfl ?_
      refine zC_Rp7 hp (by omega) rfl zf_X5_153 dX5_sell_84 (fun mm hp => ?_)
      refine z_aload 4 rfl dX5_sell_87 ?_
      refine z_iconst (nI 0) dX5_sell_89 rfl ?_
      refine z_iconst (nI 0) dX5_sell_90 rfl ?_
      refine z_vV2 (ci := 4) zm_X4_turnTo (c_X4_turnTo hp _ _ _ (-5) (by omega) (fun q => absurd q (by decide)) (fun _ => rfl)) rfl zl_X5_156 rfl rfl (by decide) (hp.at (j := 30 + _) (Or.inr (by omega))).1 ((hp.at (j := 30 + _) (Or.inr (by omega))).2.trans (zBsh_r (by omega))) (by decide) (Nat.le_of_ble_eq_true rfl) dX5_sell_91 (fun mm hp => ?_)
      rw [kNew] at hp
      refine z_aload_n 0 rfl rfl dX5_sell_94 ?_
      refine z_iload_n 1 rfl rfl dX5_sell_95 ?_
      refine z_iload_n 3 rfl rfl dX5_sell_96 ?_
      refine z_ineg dX5_sell_97 ?_
      refine z_vV2 (ci := 5) zm_X5_give (c_X5_give hp _ _ (by omega)) rfl zl_X5_149 rfl rfl (by decide) (hp.at (j := 0) (Or.inl (by decide))).1 (hp.at (j := 0) (Or.inl (by decide))).2 (by decide) (Nat.le_of_ble_eq_true rfl) dX5_sell_98 (fun mm hp => ?_)
      rw [Int32.neg_neg] at hp
      have e8b : sPays (sNew2 v (nR v) d h (sPrice v d (sLeft v d))) h (sPrice v d (sLeft v d)) 8 = nI e8 := by rw [sPays_at (by omega) (by omega), sNew2_at (by omega) (by omega)]; exact ee8
      refine z_aload_n 0 rfl rfl dX5_sell_101 ?_
      refine z_iconst (nI 0) dX5_sell_102 rfl ?_
      refine z_aload 4 rfl dX5_sell_103 ?_
      refine z_iload_n 3 rfl rfl dX5_sell_105 ?_
      refine z_vV3 (ci := 5) zm_X5_log (c_X5_log hp _ _ _ _ (by omega) he8 e8b) rfl zl_X5_159 rfl rfl (by decide) (hp.at (j := 0) (Or.inl (by decide))).1 (hp.at (j := 0) (Or.inl (by decide))).2 (by decide) (Nat.le_of_ble_eq_true rfl) dX5_sell_106 (fun mm hp => ?_)
      refine z_aload 4 rfl dX5_sell_109 ?_
      refine zC_R0 hp (by omega) rfl zf_X5_163 dX5_sell_111 ?_
      exact z_iret dX5_sell_114 rfl hp
    · exact absurd (nI_lt hR (by omega)) c18
/-- the sale and the list do not touch each other -/
theorem sSells_drop {v : Nat → Int32} {h d n : Nat} (hn : 0 < n) (hn6 : n ≤ 6) (hd : d < 10) (hh : h < 10) (hR : nR v < 60) : sSells (sDrop v d 0 n) h d = sDrop (sSells v h d) d 0 n := by
  have hX : ∀ j, j < 27 + 12 * d + 5 ∨ 27 + 12 * d + 12 ≤ j → sDrop v d 0 n j = v j := fun j hj => sDrop_at (by omega) (by omega) hn
  have eR : nR (sDrop v d 0 n) = nR v := nR_of (hX 2 (by omega))
  have eO : sOut (sDrop v d 0 n) d = sOut v d := by
    unfold sOut sOf
    rw [eR]
    exact sCnt_of (fun r hr => ⟨hX _ (by omega), hX _ (by omega)⟩)
  have eL : sLeft (sDrop v d 0 n) d = sLeft v d := by unfold sLeft; rw [hX _ (by omega), hX _ (by omega)]
  have eP : sPrice (sDrop v d 0 n) d (sLeft (sDrop v d 0 n) d) = sPrice v d (sLeft v d) := by
    unfold sPrice
    rw [eL, eO, hX _ (by omega), hX _ (by omega), hX _ (by omega)]
  generalize hc : sPrice v d (sLeft v d) = c
  have main : ∀ j, j < 27 + 12 * d + 5 ∨ 27 + 12 * d + 12 ≤ j → sSells (sDrop v d 0 n) h d j = sSells v h d j := fun j hj => by
    have e1 : ∀ j, j < 27 + 12 * d + 5 ∨ 27 + 12 * d + 12 ≤ j → sNew2 (sDrop v d 0 n) (nR v) d h c j = sNew2 v (nR v) d h c j := fun j hj => by
      rw [← kNew, ← kNew]
      simp only [upd]
      rw [hX j hj, hX 2 (by omega), hX 0 (by omega)]
    have e2 : ∀ j, j < 27 + 12 * d + 5 ∨ 27 + 12 * d + 12 ≤ j → sPays (sNew2 (sDrop v d 0 n) (nR v) d h c) h c j = sPays (sNew2 v (nR v) d h c) h c j := fun j hj => by
      unfold sPays
      simp only [upd]
      rw [e1 j hj, e1 7 (by omega), e1 (17 + h) (by omega)]
    have e3 : ∀ j, j < 27 + 12 * d + 5 ∨ 27 + 12 * d + 12 ≤ j → sLog0 (sPays (sNew2 (sDrop v d 0 n) (nR v) d h c) h c) (nI 0) (nI (nR v)) c j = sLog0 (sPays (sNew2 v (nR v) d h c) h c) (nI 0) (nI (nR v)) c j := fun j hj => by
      unfold sLog0
      simp only [upd, sShf]
      rw [e2 j hj, e2 0 (by omega)]
      by_cases q : 606 - 36 < j ∧ j < 607
      · rw [e2 (j - 4) (by omega)]
      · rw [if_neg q, if_neg q]
    unfold sSells
    rw [eR, eP, hc]
    unfold sLog
    simp only [upd]
    rw [e3 j hj, e3 8 (by omega)]
  have inl : ∀ j, 27 + 12 * d + 5 ≤ j → j < 27 + 12 * d + 12 → ∀ w : Nat → Int32, nR w < 60 → sSells w h d j = w j := fun j a b w hw => sSells_at (by omega) (by omega) (by omega) (by omega) (by omega)
  funext j
  by_cases q : 27 + 12 * d + 5 ≤ j ∧ j < 27 + 12 * d + 12
  · rw [inl j q.1 q.2 _ (by omega)]
    by_cases q5 : j = 27 + 12 * d + 5
    · subst q5
      unfold sDrop
      rw [upd_eq, upd_eq, sDr, sDr, if_neg (by omega), if_neg (by omega), inl _ (by omega) (by omega) _ hR]
    · unfold sDrop
      rw [upd_ne q5, upd_ne q5]
      unfold sDr
      by_cases z : 27 + 12 * d + 6 + 0 ≤ j ∧ j < 27 + 12 * d + 6 + 0 + (n - 1 - 0)
      · rw [if_pos z, if_pos z, inl _ (by omega) (by omega) _ hR]
      · rw [if_neg z, if_neg z, inl _ (by omega) (by omega) _ hR]
  · rw [main j (by omega), sDrop_at (by omega) (by omega) hn]
set_option maxRecDepth 4000 in
theorem l_X5_letListBuy {l : Launch} {G : zG} {B : Nat → Nat} {m0 : zM} (d : Nat) : ∀ (n i : Nat) (v : Nat → Int32) (mm : zM), zCV G B m0 v mm → zH v → d < nD v → v (27 + 12 * d + 5) = nI n → i + n ≤ 6 → zV l G (yX5_letListBuy, cX5_letListBuy, 3, none) 4 none (fun m' => zCV G B m0 (sLB d n v) m') 2 [some (.ref (B 0)), some (.ref (B (10 + d))), some (.int (nI i))] [] mm := by
  intro n
  induction n with
  | zero =>
    intro i v mm hp hH hd h5 hn
    have hd10 := hH.1.1.2
    refine z_iload_n 2 rfl rfl dX5_letListBuy_2 ?_
    refine z_bipush (nI 6) dX5_letListBuy_3 rfl ?_
    refine z_icmp_ge 40 dX5_letListBuy_5 rfl (fun c5 => ?_) (fun c5 => ?_)
    · skip
      exact z_vret dX5_letListBuy_40 rfl hp
    · refine z_aload_n 1 rfl rfl dX5_letListBuy_8 ?_
      refine zC_D7 hp (by omega) rfl zf_X5_104 dX5_letListBuy_9 ?_
      rw [h5]
      refine z_if_le 40 dX5_letListBuy_12 rfl (fun c12 => ?_) (fun c12 => ?_)
      · exact z_vret dX5_letListBuy_40 rfl hp
      · exact absurd (by decide) c12
  | succ n ih =>
    intro i v mm hp hH hd h5 hin
    have hd10 := hH.1.1.2
    have h60 := hH.1.2.1.2
    have hn : n + 1 ≤ 6 := by omega
    refine z_iload_n 2 rfl rfl dX5_letListBuy_2 ?_
    refine z_bipush (nI 6) dX5_letListBuy_3 rfl ?_
    refine z_icmp_ge 40 dX5_letListBuy_5 rfl (fun c5 => ?_) (fun c5 => ?_)
    · exact absurd ((nI_leI (by omega) (by omega)).mp c5) (by omega)
    · refine z_aload_n 1 rfl rfl dX5_letListBuy_8 ?_
      refine zC_D7 hp (by omega) rfl zf_X5_104 dX5_letListBuy_9 ?_
      rw [h5]
      refine z_if_le 40 dX5_letListBuy_12 rfl (fun c12 => ?_) (fun c12 => ?_)
      · exact absurd c12 (nI_nle (by omega) (by omega))
      · refine z_aload_n 0 rfl rfl dX5_letListBuy_15 ?_
        refine z_aload_n 1 rfl rfl dX5_letListBuy_16 ?_
        refine z_iconst (nI 0) dX5_letListBuy_17 rfl ?_
        refine z_pV1 (ci := 0) zm_X0_waitingAt (c_X0_waitingAt hp d (n + 1) _ (by omega) h5 hn) rfl zl_X5_232 rfl rfl (by decide) (hp.at (j := 10 + _) (Or.inr (by omega))).1 ((hp.at (j := 10 + _) (Or.inr (by omega))).2.trans (zBsh_d (by omega))) (by decide) (Nat.le_of_ble_eq_true rfl) dX5_letListBuy_18 ?_
        obtain ⟨n9, q1, q2, q3⟩ := hH.1.2.2.1 d (by omega)
        have en : n9 = n + 1 := (nI_eq (by omega) (by omega)).mp (q2.symm.trans h5)
        subst en
        obtain ⟨h, hh, e6⟩ := q3 0 (by omega)
        rw [if_pos (show (0 : Int32) ≤ nI 0 ∧ nI 0 < v (27 + 12 * d + 5) from ⟨by decide, by rw [h5]; exact nI_lt (by omega) (by omega)⟩), show zn (nI 0) = 0 from rfl, e6]
        refine z_aload_n 1 rfl rfl dX5_letListBuy_21 ?_
        refine z_uV2 (ci := 5) zm_X5_sell (c_X5_sell hp _ _ hH hh (by omega)) rfl zl_X5_135 rfl rfl (by decide) (hp.at (j := 0) (Or.inl (by decide))).1 (hp.at (j := 0) (Or.inl (by decide))).2 (by decide) (Nat.le_of_ble_eq_true rfl) dX5_letListBuy_22 (fun mm hp => ?_)
        refine z_if_ge 29 dX5_letListBuy_25 rfl (fun c25 => ?_) (fun c25 => ?_)
        · have hc : 0 < sCan v d := by
            by_cases q : 0 < sCan v d
            · exact q
            · rw [if_neg q] at c25; exact absurd c25 (by decide)
          rw [if_pos hc] at hp
          obtain ⟨hR, hop⟩ := sCan_pos hH.1.2.1 hc
          have hH1 := hH.sells (h := h) hR hd hh hop
          have h5b : sSells v h d (27 + 12 * d + 5) = nI (n + 1) := by rw [sSells_at (by omega) (by omega) (by omega) (by omega) (by omega)]; exact h5
          refine z_aload_n 1 rfl rfl dX5_letListBuy_29 ?_
          refine z_iconst (nI 0) dX5_letListBuy_30 rfl ?_
          refine z_vV1 (ci := 0) zm_X0_removeFromList (c_X0_removeFromList hp _ _ (n + 1) (by omega) (by omega) (by omega) h5b) rfl zl_X5_200 rfl rfl (by decide) (hp.at (j := 10 + _) (Or.inr (by omega))).1 ((hp.at (j := 10 + _) (Or.inr (by omega))).2.trans (zBsh_d (by omega))) (by decide) (Nat.le_of_ble_eq_true rfl) dX5_letListBuy_31 (fun mm hp => ?_)
          rw [← sSells_drop (by omega) (by omega) (by omega) hh hR] at hp
          have hK1 := hH.drop (p := 0) (by omega) (by omega) (by omega) h5
          have e1 : nD (sDrop v d 0 (n + 1)) = nD v := nD_of (sDrop_at (by omega) (by omega) (by omega))
          have eR : nR (sDrop v d 0 (n + 1)) = nR v := nR_of (sDrop_at (by omega) (by omega) (by omega))
          have eop : sOpen (sDrop v d 0 (n + 1)) d = true := by unfold sOpen sLeft; rw [sDrop_at (by omega) (by omega) (by omega), sDrop_at (by omega) (by omega) (by omega)]; exact hop
          have hH2 := hK1.sells (d := d) (h := h) (by omega) (by omega) hh eop
          have h5c : sSells (sDrop v d 0 (n + 1)) h d (27 + 12 * d + 5) = nI n := by rw [sSells_at (by omega) (by omega) (by omega) (by omega) (by omega)]; exact sDrop_5 (by omega) h5
          have e1b : nD (sSells (sDrop v d 0 (n + 1)) h d) = nD v := by rw [← e1]; exact nD_of (sSells_at (by omega) (by omega) (by omega) (by omega) (by omega))
          have e9 : sLB d (n + 1) v = sLB d n (sSells (sDrop v d 0 (n + 1)) h d) := by rw [sLB, if_pos hc, show v (27 + 12 * d + 6) = nI h from e6, nI_clamp (by omega)]
          rw [e9]
          refine z_iincN (n := 1) 2 rfl rfl dX5_letListBuy_34 ?_
          refine z_goto 2 dX5_letListBuy_37 rfl ?_
          exact ih _ _ _ hp hH2 (by omega) h5c (by omega)
        · have hc : ¬ 0 < sCan v d := fun q => by rw [if_pos q] at c25; exact c25 (nI_pos' (by omega))
          rw [if_neg hc] at hp
          exact z_vret dX5_letListBuy_28 rfl (by rw [sLB, if_neg hc]; exact hp)
theorem c_X5_letListBuy {l : Launch} {G : zG} {B : Nat → Nat} {m0 mm : zM} {v : Nat → Int32} (hp : zCV G B m0 v mm) (d n : Nat) (hH : zH v) (hd : d < nD v) (h5 : v (27 + 12 * d + 5) = nI n) (hn : n ≤ 6) : zSem l G (yX5_letListBuy, cX5_letListBuy, 3, none) 4 [.ref (B 0), .ref (B (10 + d))] mm none (fun m' => zCV G B m0 (sLB d n v) m') := by
  refine z_met [some (.ref (B 0)), some (.ref (B (10 + d))), none] rfl (zc1 (by rfl)) (Nat.le_of_ble_eq_true rfl) rfl ?_
  refine z_iconst (nI 0) dX5_letListBuy_0 rfl ?_
  refine z_istore_n 2 rfl (Nat.le_of_ble_eq_true rfl) rfl dX5_letListBuy_1 ?_
  exact l_X5_letListBuy d n 0 v mm hp hH hd h5 (by omega)
