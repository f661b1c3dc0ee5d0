set_option maxRecDepth 4000 in
theorem c_X5_dateRow {l : Launch} {G : zG} {B : Nat → Nat} {m0 mm : zM} {v : Nat → Int32} (hp : zCV G B m0 v mm) (d : Nat) (hJ : zJ1 v) (hd : d < nD v) : zSem l G (yX5_dateRow, cX5_dateRow, 2, (some (.object "RightsDesk$DateRow"))) 1 [.ref (B 0), .int (nI d)] mm (some (.ref (B (10 + d)))) (fun m' => m' = mm) := by
  have hJ2 := hJ.2
  refine z_met [some (.ref (B 0)), some (.int (nI d))] rfl (zc1 (by rfl)) (Nat.le_of_ble_eq_true rfl) rfl ?_
  refine z_iload_n 1 rfl rfl dX5_dateRow_0 ?_
  refine z_if_lt 30 dX5_dateRow_1 rfl (fun c1 => ?_) (fun c1 => ?_)
  · exact absurd c1 (nI_pos (by omega))
  · refine z_iload_n 1 rfl rfl dX5_dateRow_4 ?_
    refine z_aload_n 0 rfl rfl dX5_dateRow_5 ?_
    refine zC_S4 hp rfl zf_X5_69 dX5_dateRow_6 ?_
    rw [hJ.1]
    refine z_icmp_ge 30 dX5_dateRow_9 rfl (fun c9 => ?_) (fun c9 => ?_)
    · exact absurd ((nI_leI (by omega) (by omega)).mp c9) (by omega)
    · refine z_iload_n 1 rfl rfl dX5_dateRow_12 ?_
      refine z_aload_n 0 rfl rfl dX5_dateRow_13 ?_
      refine zC_S5 hp rfl zf_X5_37 dX5_dateRow_14 ?_
      refine zC_a5l hp dX5_dateRow_17 ?_
      refine z_icmp_ge 30 dX5_dateRow_18 rfl (fun c18 => ?_) (fun c18 => ?_)
      · exact absurd ((nI_leI (by omega) (by omega)).mp c18) (by omega)
      · refine z_aload_n 0 rfl rfl dX5_dateRow_21 ?_
        refine zC_S5 hp rfl zf_X5_37 dX5_dateRow_22 ?_
        refine z_iload_n 1 rfl rfl dX5_dateRow_25 ?_
        refine zC_a5 hp (by omega) dX5_dateRow_26 ?_
        refine z_goto 31 dX5_dateRow_27 rfl ?_
        exact z_aret dX5_dateRow_31 (Or.inr ⟨_, rfl⟩) rfl rfl
set_option maxRecDepth 4000 in
theorem c_X5_dateRowN {l : Launch} {G : zG} {B : Nat → Nat} {m0 mm : zM} {v : Nat → Int32} (hp : zCV G B m0 v mm) (x : Int32) (hJ : zJ1 v) (hx : zIn x (nI 0) (v 1 - nI 1) = false) : zSem l G (yX5_dateRow, cX5_dateRow, 2, (some (.object "RightsDesk$DateRow"))) 1 [.ref (B 0), .int x] mm (some .null) (fun m' => m' = mm) := by
  have hJ2 := hJ.2
  refine z_met [some (.ref (B 0)), some (.int x)] rfl (zc1 (by rfl)) (Nat.le_of_ble_eq_true rfl) rfl ?_
  refine z_iload_n 1 rfl rfl dX5_dateRow_0 ?_
  refine z_if_lt 30 dX5_dateRow_1 rfl (fun c1 => ?_) (fun c1 => ?_)
  · refine z_null dX5_dateRow_30 ?_
    exact z_aret dX5_dateRow_31 (Or.inl rfl) rfl rfl
  · obtain ⟨k, hk31, rfl⟩ := nI_of c1
    refine z_iload_n 1 rfl rfl dX5_dateRow_4 ?_
    refine z_aload_n 0 rfl rfl dX5_dateRow_5 ?_
    refine zC_S4 hp rfl zf_X5_69 dX5_dateRow_6 ?_
    rw [hJ.1]
    refine z_icmp_ge 30 dX5_dateRow_9 rfl (fun c9 => ?_) (fun c9 => ?_)
    · refine z_null dX5_dateRow_30 ?_
      exact z_aret dX5_dateRow_31 (Or.inl rfl) rfl rfl
    · exact absurd hx (by
        have hk : k < nD v := Nat.lt_of_not_le (fun q => c9 ((nI_leI (by omega) (by omega)).mpr q))
        rw [hJ.1, show nI (nD v) - nI 1 = nI (nD v - 1) by rw [show nI (nD v) = nI (nD v - 1 + 1) by congr 1; omega]; exact nI_pred _, zIn_le (by omega) (by omega)]
        decide)
set_option maxRecDepth 4000 in
theorem c_X5_rightRow {l : Launch} {G : zG} {B : Nat → Nat} {m0 mm : zM} {v : Nat → Int32} (hp : zCV G B m0 v mm) (d : Nat) (hJ : zJ2 v) (hd : d < nR v) : zSem l G (yX5_rightRow, cX5_rightRow, 2, (some (.object "RightsDesk$RightRow"))) 1 [.ref (B 0), .int (nI d)] mm (some (.ref (B (30 + d)))) (fun m' => m' = mm) := by
  have hJ2 := hJ.2
  refine z_met [some (.ref (B 0)), some (.int (nI d))] rfl (zc1 (by rfl)) (Nat.le_of_ble_eq_true rfl) rfl ?_
  refine z_iload_n 1 rfl rfl dX5_rightRow_0 ?_
  refine z_if_lt 30 dX5_rightRow_1 rfl (fun c1 => ?_) (fun c1 => ?_)
  · exact absurd c1 (nI_pos (by omega))
  · refine z_iload_n 1 rfl rfl dX5_rightRow_4 ?_
    refine z_aload_n 0 rfl rfl dX5_rightRow_5 ?_
    refine zC_S6 hp rfl zf_X5_76 dX5_rightRow_6 ?_
    rw [hJ.1]
    refine z_icmp_ge 30 dX5_rightRow_9 rfl (fun c9 => ?_) (fun c9 => ?_)
    · exact absurd ((nI_leI (by omega) (by omega)).mp c9) (by omega)
    · refine z_iload_n 1 rfl rfl dX5_rightRow_12 ?_
      refine z_aload_n 0 rfl rfl dX5_rightRow_13 ?_
      refine zC_S7 hp rfl zf_X5_43 dX5_rightRow_14 ?_
      refine zC_a6l hp dX5_rightRow_17 ?_
      refine z_icmp_ge 30 dX5_rightRow_18 rfl (fun c18 => ?_) (fun c18 => ?_)
      · exact absurd ((nI_leI (by omega) (by omega)).mp c18) (by omega)
      · refine z_aload_n 0 rfl rfl dX5_rightRow_21 ?_
        refine zC_S7 hp rfl zf_X5_43 dX5_rightRow_22 ?_
        refine z_iload_n 1 rfl rfl dX5_rightRow_25 ?_
        refine zC_a6 hp (by omega) dX5_rightRow_26 ?_
        refine z_goto 31 dX5_rightRow_27 rfl ?_
        exact z_aret dX5_rightRow_31 (Or.inr ⟨_, rfl⟩) rfl rfl
set_option maxRecDepth 4000 in
theorem c_X5_rightRowN {l : Launch} {G : zG} {B : Nat → Nat} {m0 mm : zM} {v : Nat → Int32} (hp : zCV G B m0 v mm) (x : Int32) (hJ : zJ2 v) (hx : zIn x (nI 0) (v 2 - nI 1) = false) : zSem l G (yX5_rightRow, cX5_rightRow, 2, (some (.object "RightsDesk$RightRow"))) 1 [.ref (B 0), .int x] mm (some .null) (fun m' => m' = mm) := by
  have hJ2 := hJ.2
  refine z_met [some (.ref (B 0)), some (.int x)] rfl (zc1 (by rfl)) (Nat.le_of_ble_eq_true rfl) rfl ?_
  refine z_iload_n 1 rfl rfl dX5_rightRow_0 ?_
  refine z_if_lt 30 dX5_rightRow_1 rfl (fun c1 => ?_) (fun c1 => ?_)
  · refine z_null dX5_rightRow_30 ?_
    exact z_aret dX5_rightRow_31 (Or.inl rfl) rfl rfl
  · obtain ⟨k, hk31, rfl⟩ := nI_of c1
    refine z_iload_n 1 rfl rfl dX5_rightRow_4 ?_
    refine z_aload_n 0 rfl rfl dX5_rightRow_5 ?_
    refine zC_S6 hp rfl zf_X5_76 dX5_rightRow_6 ?_
    rw [hJ.1]
    refine z_icmp_ge 30 dX5_rightRow_9 rfl (fun c9 => ?_) (fun c9 => ?_)
    · refine z_null dX5_rightRow_30 ?_
      exact z_aret dX5_rightRow_31 (Or.inl rfl) rfl rfl
    · exact absurd hx (by
        have hk : k < nR v := Nat.lt_of_not_le (fun q => c9 ((nI_leI (by omega) (by omega)).mpr q))
        rw [hJ.1, show nI (nR v) - nI 1 = nI (nR v - 1) by rw [show nI (nR v) = nI (nR v - 1 + 1) by congr 1; omega]; exact nI_pred _, zIn_le (by omega) (by omega)]
        decide)
theorem kCan {v : Nat → Int32} {d : Nat} {m : Int32} (ho : sOpen v d = true) (hm : m = sMost v d) : (if nI 0 < (if nI 60 - v 2 < m then nI 60 - v 2 else m) then (if nI 60 - v 2 < m then nI 60 - v 2 else m) else nI 0) = sCan v d := by
  subst hm
  have e : (if nI 60 - v 2 < sMost v d then nI 60 - v 2 else sMost v d) = sSell0 v d := by
    unfold sSell0
    by_cases q : nI 60 - v 2 < sMost v d
    · rw [if_pos q, if_neg (fun z => absurd (Int32.lt_trans q z) (Int32.lt_irrefl))]
    · by_cases q2 : sMost v d < nI 60 - v 2
      · rw [if_neg q, if_pos q2]
      · rw [if_neg q, if_neg q2]; exact Int32.le_antisymm (i_not_lt.mp q) (i_not_lt.mp q2)
  rw [e]
  unfold sCan
  by_cases q : (0 : Int32) < sSell0 v d
  · rw [if_pos (show nI 0 < sSell0 v d from q), if_pos ⟨q, ho⟩]
  · rw [if_neg (show ¬ nI 0 < sSell0 v d from q), if_neg (fun z => q z.1)]
set_option maxRecDepth 4000 in
theorem c_X5_sellable {l : Launch} {G : zG} {B : Nat → Nat} {m0 mm : zM} {v : Nat → Int32} (hp : zCV G B m0 v mm) (d : Nat) (hH : zH v) (hd : d < nD v) : zSem l G (yX5_sellable, cX5_sellable, 3, (some .int)) 2 [.ref (B 0), .ref (B (10 + d))] mm (some (.int (sCan v d))) (fun m' => m' = mm) := by
  have hd10 := hH.1.1.2
  have hJ := hH.1.2.1
  have hJ2 := hJ.2
  refine z_met [some (.ref (B 0)), some (.ref (B (10 + d))), none] rfl (zc1 (by rfl)) (Nat.le_of_ble_eq_true rfl) rfl ?_
  refine z_aload_n 0 rfl rfl dX5_sellable_0 ?_
  refine z_aload_n 1 rfl rfl dX5_sellable_1 ?_
  refine z_pV1 (ci := 5) zm_X5_isOpen (c_X5_isOpen hp _ hH (by omega)) rfl zl_X5_131 rfl rfl (by decide) (hp.at (j := 0) (Or.inl (by decide))).1 (hp.at (j := 0) (Or.inl (by decide))).2 (by decide) (Nat.le_of_ble_eq_true rfl) dX5_sellable_2 ?_
  refine z_if_neB 10 dX5_sellable_5 rfl (fun c5 => ?_) (fun c5 => ?_)
  · refine z_aload_n 1 rfl rfl dX5_sellable_10 ?_
    refine zC_D2 hp (by omega) rfl zf_X5_92 dX5_sellable_11 ?_
    refine z_istore_n 2 rfl (Nat.le_of_ble_eq_true rfl) rfl dX5_sellable_14 ?_
    refine z_aload_n 0 rfl rfl dX5_sellable_15 ?_
    refine z_aload_n 1 rfl rfl dX5_sellable_16 ?_
    refine z_pV1 (ci := 5) zm_X5_daysLeft (c_X5_daysLeft hp _ (by omega)) rfl zl_X5_207 rfl rfl (by decide) (hp.at (j := 0) (Or.inl (by decide))).1 (hp.at (j := 0) (Or.inl (by decide))).2 (by decide) (Nat.le_of_ble_eq_true rfl) dX5_sellable_17 ?_
    refine z_aload_n 0 rfl rfl dX5_sellable_20 ?_
    refine zC_S1 hp rfl zf_X5_18 dX5_sellable_21 ?_
    refine z_iconst (nI 0) dX5_sellable_24 rfl ?_
    refine zC_a1 hp (by omega) dX5_sellable_25 ?_
    refine z_icmp_le 36 dX5_sellable_26 rfl (fun c26 => ?_) (fun c26 => ?_)
    · have em : v (27 + 12 * d + 1) - nI (sOut v d) = sMost v d := by rw [sMost, if_neg (i_not_lt.mpr c26), show nI 0 = 0 from rfl, Int32.add_zero]
      refine z_iconst (nI 0) dX5_sellable_36 rfl ?_
      refine z_iload_n 2 rfl rfl dX5_sellable_37 ?_
      refine z_aload_n 0 rfl rfl dX5_sellable_38 ?_
      refine z_aload_n 1 rfl rfl dX5_sellable_39 ?_
      refine z_pV1 (ci := 5) zm_X5_rightsOut (c_X5_rightsOut hp _ _ (Or.inl ⟨rfl, by omega⟩) hH) rfl zl_X5_220 rfl rfl (by decide) (hp.at (j := 0) (Or.inl (by decide))).1 (hp.at (j := 0) (Or.inl (by decide))).2 (by decide) (Nat.le_of_ble_eq_true rfl) dX5_sellable_40 ?_
      refine z_isub dX5_sellable_43 ?_
      refine z_bipush (nI 60) dX5_sellable_44 rfl ?_
      refine z_aload_n 0 rfl rfl dX5_sellable_46 ?_
      refine zC_S6 hp rfl zf_X5_76 dX5_sellable_47 ?_
      refine z_isub dX5_sellable_50 ?_
      refine z_min rfl zl_X5_244 (by decide) (Nat.le_of_ble_eq_true rfl) dX5_sellable_51 ?_
      refine z_max rfl zl_X5_250 (by decide) (Nat.le_of_ble_eq_true rfl) dX5_sellable_54 ?_
      exact z_iret dX5_sellable_57 (by rw [kCan c5 em]) rfl
    · have em : v (27 + 12 * d + 1) + v (27 + 12 * d + 2) - nI (sOut v d) = sMost v d := by rw [sMost, if_pos (i_not_le.mp c26)]
      refine z_iload_n 2 rfl rfl dX5_sellable_29 ?_
      refine z_aload_n 1 rfl rfl dX5_sellable_30 ?_
      refine zC_D3 hp (by omega) rfl zf_X5_95 dX5_sellable_31 ?_
      refine z_iadd dX5_sellable_34 ?_
      refine z_istore_n 2 rfl (Nat.le_of_ble_eq_true rfl) rfl dX5_sellable_35 ?_
      refine z_iconst (nI 0) dX5_sellable_36 rfl ?_
      refine z_iload_n 2 rfl rfl dX5_sellable_37 ?_
      refine z_aload_n 0 rfl rfl dX5_sellable_38 ?_
      refine z_aload_n 1 rfl rfl dX5_sellable_39 ?_
      refine z_pV1 (ci := 5) zm_X5_rightsOut (c_X5_rightsOut hp _ _ (Or.inl ⟨rfl, by omega⟩) hH) rfl zl_X5_220 rfl rfl (by decide) (hp.at (j := 0) (Or.inl (by decide))).1 (hp.at (j := 0) (Or.inl (by decide))).2 (by decide) (Nat.le_of_ble_eq_true rfl) dX5_sellable_40 ?_
      refine z_isub dX5_sellable_43 ?_
      refine z_bipush (nI 60) dX5_sellable_44 rfl ?_
      refine z_aload_n 0 rfl rfl dX5_sellable_46 ?_
      refine zC_S6 hp rfl zf_X5_76 dX5_sellable_47 ?_
      refine z_isub dX5_sellable_50 ?_
      refine z_min rfl zl_X5_244 (by decide) (Nat.le_of_ble_eq_true rfl) dX5_sellable_51 ?_
      refine z_max rfl zl_X5_250 (by decide) (Nat.le_of_ble_eq_true rfl) dX5_sellable_54 ?_
      exact z_iret dX5_sellable_57 (by rw [kCan c5 em]) rfl
  · have e9 : sCan v d = nI 0 := if_neg (fun q => by rw [c5] at q; exact absurd q.2 (by decide))
    refine z_iconst (nI 0) dX5_sellable_8 rfl ?_
    exact z_iret dX5_sellable_9 (by rw [e9]) rfl
set_option maxRecDepth 4000 in
theorem c_X5_priceNow {l : Launch} {G : zG} {B : Nat → Nat} {m0 mm : zM} {v : Nat → Int32} (hp : zCV G B m0 v mm) (d : Nat) (hH : zH v) (hd : d < nD v) : zSem l G (yX5_priceNow, cX5_priceNow, 2, (some .int)) 2 [.ref (B 0), .ref (B (10 + d))] mm (some (.int (sPrice v d (sLeft v d)))) (fun m' => m' = mm) := by
  have hd10 := hH.1.1.2
  have hJ := hH.1.2.1
  have hJ2 := hJ.2
  refine z_met [some (.ref (B 0)), some (.ref (B (10 + d)))] rfl (zc1 (by rfl)) (Nat.le_of_ble_eq_true rfl) rfl ?_
  refine z_aload_n 1 rfl rfl dX5_priceNow_0 ?_
  refine z_aload_n 0 rfl rfl dX5_priceNow_1 ?_
  refine z_aload_n 1 rfl rfl dX5_priceNow_2 ?_
  refine z_pV1 (ci := 5) zm_X5_rightsOut (c_X5_rightsOut hp _ _ (Or.inl ⟨rfl, by omega⟩) hH) rfl zl_X5_220 rfl rfl (by decide) (hp.at (j := 0) (Or.inl (by decide))).1 (hp.at (j := 0) (Or.inl (by decide))).2 (by decide) (Nat.le_of_ble_eq_true rfl) dX5_priceNow_3 ?_
  refine z_aload_n 0 rfl rfl dX5_priceNow_6 ?_
  refine z_aload_n 1 rfl rfl dX5_priceNow_7 ?_
  refine z_pV1 (ci := 5) zm_X5_daysLeft (c_X5_daysLeft hp _ (by omega)) rfl zl_X5_207 rfl rfl (by decide) (hp.at (j := 0) (Or.inl (by decide))).1 (hp.at (j := 0) (Or.inl (by decide))).2 (by decide) (Nat.le_of_ble_eq_true rfl) dX5_priceNow_8 ?_
  refine z_pV2 (ci := 0) zm_X0_priceFor (c_X0_priceFor hp _ _ _ (by omega) (hH.2.2.2.1 d hd)) rfl zl_X5_253 rfl rfl (by decide) (hp.at (j := 10 + _) (Or.inr (by omega))).1 ((hp.at (j := 10 + _) (Or.inr (by omega))).2.trans (zBsh_d (by omega))) (by decide) (Nat.le_of_ble_eq_true rfl) dX5_priceNow_11 ?_
  exact z_iret dX5_priceNow_14 (by rw [kPr_s]) rfl
set_option maxRecDepth 4000 in
theorem l_X5_stageOf {l : Launch} {G : zG} {B : Nat → Nat} {m0 mm : zM} {v : Nat → Int32} (hp : zCV G B m0 v mm) (d : Nat) (hH : zH v) (hd : d < nD v) (ho : sOpen v d = true) : ∀ i, i ≤ 3 → ∀ (hj : ∀ j, j < i → ¬ v (9 + 2 * j) ≤ sLeft v d), zV l G (yX5_stageOf, cX5_stageOf, 3, (some .int)) 2 (some (.int (nI (sStage v d)))) (fun m' => m' = mm) 2 [some (.ref (B 0)), some (.ref (B (10 + d))), some (.int (nI i))] [] mm := by
  refine z_loop (3) (fun i hi ih hj => ?_)
  have hd10 := hH.1.1.2
  refine z_iload_n 2 rfl rfl dX5_stageOf_2 ?_
  refine z_aload_n 0 rfl rfl dX5_stageOf_3 ?_
  refine zC_S2 hp rfl zf_X5_26 dX5_stageOf_4 ?_
  refine zC_a2l hp dX5_stageOf_7 ?_
  refine z_icmp_ge 41 dX5_stageOf_8 rfl (fun c8 => ?_) (fun c8 => ?_)
  · exact absurd ((nI_leI (by omega) (by omega)).mp c8) (by omega)
  · refine z_aload_n 0 rfl rfl dX5_stageOf_11 ?_
    refine z_aload_n 1 rfl rfl dX5_stageOf_12 ?_
    refine z_pV1 (ci := 5) zm_X5_isOpen (c_X5_isOpen hp _ hH (by omega)) rfl zl_X5_131 rfl rfl (by decide) (hp.at (j := 0) (Or.inl (by decide))).1 (hp.at (j := 0) (Or.inl (by decide))).2 (by decide) (Nat.le_of_ble_eq_true rfl) dX5_stageOf_13 ?_
    refine z_if_eqB 41 dX5_stageOf_16 rfl (fun c16 => ?_) (fun c16 => ?_)
    · exact absurd ho (by rw [c16]; decide)
    · refine z_aload_n 0 rfl rfl dX5_stageOf_19 ?_
      refine zC_S2 hp rfl zf_X5_26 dX5_stageOf_20 ?_
      refine z_iload_n 2 rfl rfl dX5_stageOf_23 ?_
      refine zC_a2 hp (by omega) dX5_stageOf_24 ?_
      refine z_aload_n 0 rfl rfl dX5_stageOf_25 ?_
      refine z_aload_n 1 rfl rfl dX5_stageOf_26 ?_
      refine z_pV1 (ci := 5) zm_X5_daysLeft (c_X5_daysLeft hp _ (by omega)) rfl zl_X5_207 rfl rfl (by decide) (hp.at (j := 0) (Or.inl (by decide))).1 (hp.at (j := 0) (Or.inl (by decide))).2 (by decide) (Nat.le_of_ble_eq_true rfl) dX5_stageOf_27 ?_
      refine z_icmp_gt 35 dX5_stageOf_30 rfl (fun c30 => ?_) (fun c30 => ?_)
      · have hl : i < 3 := by
          rcases Nat.lt_or_ge i 3 with q | q
          · exact q
          · have : i = 3 := by omega
            subst this
            exact absurd c30 (i_not_lt.mpr (by rw [show v (9 + 2 * 3) = 0 from hH.2.2.1.1]; exact Int32.le_of_lt (of_decide_eq_true ho)))
        refine z_iincN (n := 1) 2 rfl rfl dX5_stageOf_35 ?_
        refine z_goto 2 dX5_stageOf_38 rfl ?_
        exact ih hl (fun j hj1 => by by_cases e : j = i; subst e; exact i_not_le.mpr c30; exact hj j (by omega))
      · have c30b := i_not_lt.mp c30
        refine z_iload_n 2 rfl rfl dX5_stageOf_33 ?_
        exact z_iret dX5_stageOf_34 (by
            have h0 := hj 0; have h1 := hj 1; have h2 := hj 2
            rcases (by omega : i = 0 ∨ i = 1 ∨ i = 2 ∨ i = 3) with rfl | rfl | rfl | rfl
            · rw [sStage, if_pos c30b]
            · rw [sStage, if_neg (h0 (by omega)), if_pos c30b]
            · rw [sStage, if_neg (h0 (by omega)), if_neg (h1 (by omega)), if_pos c30b]
            · rw [sStage, if_neg (h0 (by omega)), if_neg (h1 (by omega)), if_neg (h2 (by omega))]) rfl
set_option maxRecDepth 4000 in
theorem c_X5_stageOf {l : Launch} {G : zG} {B : Nat → Nat} {m0 mm : zM} {v : Nat → Int32} (hp : zCV G B m0 v mm) (d : Nat) (hH : zH v) (hd : d < nD v) (ho : sOpen v d = true) : zSem l G (yX5_stageOf, cX5_stageOf, 3, (some .int)) 2 [.ref (B 0), .ref (B (10 + d))] mm (some (.int (nI (sStage v d)))) (fun m' => m' = mm) := by
  refine z_met [some (.ref (B 0)), some (.ref (B (10 + d))), none] rfl (zc1 (by rfl)) (Nat.le_of_ble_eq_true rfl) rfl ?_
  refine z_iconst (nI 0) dX5_stageOf_0 rfl ?_
  refine z_istore_n 2 rfl (Nat.le_of_ble_eq_true rfl) rfl dX5_stageOf_1 ?_
  exact l_X5_stageOf hp d hH hd ho 0 (by omega) (fun j h => absurd h (by omega))
set_option maxRecDepth 4000 in
theorem c_X5_stageOfN {l : Launch} {G : zG} {B : Nat → Nat} {m0 mm : zM} {v : Nat → Int32} (hp : zCV G B m0 v mm) (d : Nat) (hH : zH v) (hd : d < nD v) (ho : sOpen v d = false) : zSem l G (yX5_stageOf, cX5_stageOf, 3, (some .int)) 2 [.ref (B 0), .ref (B (10 + d))] mm (some (.int (-5))) (fun m' => m' = mm) := by
  have hd10 := hH.1.1.2
  refine z_met [some (.ref (B 0)), some (.ref (B (10 + d))), none] rfl (zc1 (by rfl)) (Nat.le_of_ble_eq_true rfl) rfl ?_
  refine z_iconst (nI 0) dX5_stageOf_0 rfl ?_
  refine z_istore_n 2 rfl (Nat.le_of_ble_eq_true rfl) rfl dX5_stageOf_1 ?_
  refine z_iload_n 2 rfl rfl dX5_stageOf_2 ?_
  refine z_aload_n 0 rfl rfl dX5_stageOf_3 ?_
  refine zC_S2 hp rfl zf_X5_26 dX5_stageOf_4 ?_
  refine zC_a2l hp dX5_stageOf_7 ?_
  refine z_icmp_ge 41 dX5_stageOf_8 rfl (fun c8 => ?_) (fun c8 => ?_)
  · exact absurd ((nI_leI (by omega) (by omega)).mp c8) (by omega)
  · refine z_aload_n 0 rfl rfl dX5_stageOf_11 ?_
    refine z_aload_n 1 rfl rfl dX5_stageOf_12 ?_
    refine z_pV1 (ci := 5) zm_X5_isOpen (c_X5_isOpen hp _ hH (by omega)) rfl zl_X5_131 rfl rfl (by decide) (hp.at (j := 0) (Or.inl (by decide))).1 (hp.at (j := 0) (Or.inl (by decide))).2 (by decide) (Nat.le_of_ble_eq_true rfl) dX5_stageOf_13 ?_
    refine z_if_eqB 41 dX5_stageOf_16 rfl (fun c16 => ?_) (fun c16 => ?_)
    · refine z_bipush (-5) dX5_stageOf_41 (by decide) ?_
      exact z_iret dX5_stageOf_43 rfl rfl
    · exact absurd ho (by rw [c16]; decide)
theorem sStage_3 (v : Nat → Int32) (d : Nat) : sStage v d ≤ 3 := by unfold sStage; split; omega; split; omega; split; omega; omega
set_option maxRecDepth 4000 in
theorem c_X5_refund {l : Launch} {G : zG} {B : Nat → Nat} {m0 mm : zM} {v : Nat → Int32} (hp : zCV G B m0 v mm) (r d : Nat) (hH : zH v) (hr : r < nR v) (hd : d < nD v) (e0 : v (147 + 7 * r + 0) = nI d) (ho : v (147 + 7 * r + 3) < nI 2 → sOpen v d = true) : zSem l G (yX5_refund, cX5_refund, 4, (some .int)) 3 [.ref (B 0), .ref (B (30 + r))] mm (some (.int (if v (147 + 7 * r + 3) < nI 2 then sRef v r d else -5))) (fun m' => m' = mm) := by
  have hd10 := hH.1.1.2
  have hJ := hH.1.2.1
  have hJ2 := hJ.2
  obtain ⟨⟨s, hs, e3⟩, -⟩ := hH.2.2.2.2.1 r hr
  have hs3 := sStage_3 v d
  refine z_met [some (.ref (B 0)), some (.ref (B (30 + r))), none, none] rfl (zc1 (by rfl)) (Nat.le_of_ble_eq_true rfl) rfl ?_
  refine z_aload_n 0 rfl rfl dX5_refund_0 ?_
  refine z_aload_n 1 rfl rfl dX5_refund_1 ?_
  refine zC_R1 hp (by omega) rfl zf_X5_172 dX5_refund_2 ?_
  rw [e0]
  refine z_pV1 (ci := 5) zm_X5_dateRow (c_X5_dateRow hp _ hH.1.1 (by omega)) rfl zl_X5_124 rfl rfl (by decide) (hp.at (j := 0) (Or.inl (by decide))).1 (hp.at (j := 0) (Or.inl (by decide))).2 (by decide) (Nat.le_of_ble_eq_true rfl) dX5_refund_5 ?_
  refine z_astore_n 2 rfl (Nat.le_of_ble_eq_true rfl) rfl dX5_refund_8 ?_
  refine z_aload_n 2 rfl rfl dX5_refund_9 ?_
  refine z_ifnull dX5_refund_10 ?_
  refine z_aload_n 1 rfl rfl dX5_refund_13 ?_
  refine z_pV0 (ci := 4) zm_X4_isHeldOrOffered (c_X4_isHeldOrOffered hp _ (by omega) ⟨s, hs, e3⟩) rfl zl_X5_178 rfl rfl (by decide) (hp.at (j := 30 + _) (Or.inr (by omega))).1 ((hp.at (j := 30 + _) (Or.inr (by omega))).2.trans (zBsh_r (by omega))) (by decide) (Nat.le_of_ble_eq_true rfl) dX5_refund_14 ?_
  refine z_if_neB 23 dX5_refund_17 rfl (fun c17 => ?_) (fun c17 => ?_)
  · have ho1 := ho (of_decide_eq_true c17)
    refine z_aload_n 0 rfl rfl dX5_refund_23 ?_
    refine z_aload_n 2 rfl rfl dX5_refund_24 ?_
    refine z_pV1 (ci := 5) zm_X5_stageOf (c_X5_stageOf hp _ hH (by omega) (by assumption)) rfl zl_X5_266 rfl rfl (by decide) (hp.at (j := 0) (Or.inl (by decide))).1 (hp.at (j := 0) (Or.inl (by decide))).2 (by decide) (Nat.le_of_ble_eq_true rfl) dX5_refund_25 ?_
    refine z_istore_n 3 rfl (Nat.le_of_ble_eq_true rfl) rfl dX5_refund_28 ?_
    refine z_aload_n 0 rfl rfl dX5_refund_29 ?_
    refine z_iload_n 3 rfl rfl dX5_refund_30 ?_
    refine z_pV1 (ci := 5) zm_X5_isStage (c_X5_isStage hp _) rfl zl_X5_110 rfl rfl (by decide) (hp.at (j := 0) (Or.inl (by decide))).1 (hp.at (j := 0) (Or.inl (by decide))).2 (by decide) (Nat.le_of_ble_eq_true rfl) dX5_refund_31 ?_
    refine z_if_eqB 59 dX5_refund_34 rfl (fun c34 => ?_) (fun c34 => ?_)
    · exact absurd c34 (by rw [zIn_le (by omega) (by omega)]; decide)
    · refine z_aload_n 1 rfl rfl dX5_refund_37 ?_
      refine zC_R3 hp (by omega) rfl zf_X5_217 dX5_refund_38 ?_
      refine z_aload_n 1 rfl rfl dX5_refund_41 ?_
      refine zC_R3 hp (by omega) rfl zf_X5_217 dX5_refund_42 ?_
      refine z_aload_n 0 rfl rfl dX5_refund_45 ?_
      refine zC_S3 hp rfl zf_X5_32 dX5_refund_46 ?_
      refine z_iload_n 3 rfl rfl dX5_refund_49 ?_
      refine zC_a3 hp (by omega) dX5_refund_50 ?_
      refine z_imul dX5_refund_51 ?_
      refine z_bipush (nI 100) dX5_refund_52 rfl ?_
      refine z_idiv dX5_refund_54 (by decide) ?_
      refine z_isub dX5_refund_55 ?_
      refine z_goto 61 dX5_refund_56 rfl ?_
      exact z_iret dX5_refund_61 (by rw [if_pos (of_decide_eq_true c17)]; rfl) rfl
  · rw [if_neg (of_decide_eq_false c17)]
    refine z_bipush (-5) dX5_refund_20 (by decide) ?_
    exact z_iret dX5_refund_22 rfl rfl
theorem pos_one {x : Int32} : (0 < x) ↔ (nI 1 ≤ x) := by
  rw [Int32.lt_iff_toInt_lt, Int32.le_iff_toInt_le, show (0 : Int32).toInt = 0 from rfl, show (nI 1).toInt = 1 from rfl]
  omega
theorem kEx {v : Nat → Int32} {r d : Nat} : sEx v r d = (decide (v (147 + 7 * r + 3) = 0) && (sOpen v d && (decide (sLeft v d ≤ v 5) && decide (nI (sOf v d (nI 2) (nI 2)) < v (27 + 12 * d + 1))))) := by
  unfold sEx zIn sOpen
  rw [show decide (nI 1 ≤ sLeft v d) = decide (0 < sLeft v d) from decide_eq_decide.mpr pos_one.symm, Bool.and_assoc]
set_option maxRecDepth 4000 in
theorem c_X5_canBeExercised {l : Launch} {G : zG} {B : Nat → Nat} {m0 mm : zM} {v : Nat → Int32} (hp : zCV G B m0 v mm) (r d : Nat) (hH : zH v) (hr : r < nR v) (hd : d < nD v) : zSem l G (yX5_canBeExercised, cX5_canBeExercised, 3, (some .boolean)) 2 [.ref (B 0), .ref (B (30 + r)), .ref (B (10 + d))] mm (some (.int (zB (sEx v r d)))) (fun m' => m' = mm) := by
  have hd10 := hH.1.1.2
  have hJ := hH.1.2.1
  have hJ2 := hJ.2
  refine z_met [some (.ref (B 0)), some (.ref (B (30 + r))), some (.ref (B (10 + d)))] rfl (zc1 (by rfl)) (Nat.le_of_ble_eq_true rfl) rfl ?_
  refine z_aload_n 1 rfl rfl dX5_canBeExercised_0 ?_
  refine zC_R4 hp (by omega) rfl zf_X5_182 dX5_canBeExercised_1 ?_
  refine z_if_ne 46 dX5_canBeExercised_4 rfl (fun c4 => ?_) (fun c4 => ?_)
  · have e9 : sEx v r d = false := by rw [kEx, decide_eq_false c4]; rfl
    refine z_iconst (nI 0) dX5_canBeExercised_46 rfl ?_
    exact z_zret dX5_canBeExercised_47 (by first | rfl | exact zB_nar _) (by rw [e9]; rfl) rfl
  · refine z_aload_n 0 rfl rfl dX5_canBeExercised_7 ?_
    refine z_aload_n 2 rfl rfl dX5_canBeExercised_8 ?_
    refine z_pV1 (ci := 5) zm_X5_isOpen (c_X5_isOpen hp _ hH (by omega)) rfl zl_X5_131 rfl rfl (by decide) (hp.at (j := 0) (Or.inl (by decide))).1 (hp.at (j := 0) (Or.inl (by decide))).2 (by decide) (Nat.le_of_ble_eq_true rfl) dX5_canBeExercised_9 ?_
    refine z_if_eqB 46 dX5_canBeExercised_12 rfl (fun c12 => ?_) (fun c12 => ?_)
    · have e9 : sEx v r d = false := by rw [kEx, c12]; simp
      refine z_iconst (nI 0) dX5_canBeExercised_46 rfl ?_
      exact z_zret dX5_canBeExercised_47 (by first | rfl | exact zB_nar _) (by rw [e9]; rfl) rfl
    · refine z_aload_n 0 rfl rfl dX5_canBeExercised_15 ?_
      refine z_aload_n 2 rfl rfl dX5_canBeExercised_16 ?_
      refine z_pV1 (ci := 5) zm_X5_daysLeft (c_X5_daysLeft hp _ (by omega)) rfl zl_X5_207 rfl rfl (by decide) (hp.at (j := 0) (Or.inl (by decide))).1 (hp.at (j := 0) (Or.inl (by decide))).2 (by decide) (Nat.le_of_ble_eq_true rfl) dX5_canBeExercised_17 ?_
      refine z_aload_n 0 rfl rfl dX5_canBeExercised_20 ?_
      refine zC_S1 hp rfl zf_X5_18 dX5_canBeExercised_21 ?_
      refine z_iconst (nI 2) dX5_canBeExercised_24 rfl ?_
      refine zC_a1 hp (by omega) dX5_canBeExercised_25 ?_
      refine z_icmp_gt 46 dX5_canBeExercised_26 rfl (fun c26 => ?_) (fun c26 => ?_)
      · have e9 : sEx v r d = false := by rw [kEx, decide_eq_false (i_not_le.mpr c26)]; simp
        refine z_iconst (nI 0) dX5_canBeExercised_46 rfl ?_
        exact z_zret dX5_canBeExercised_47 (by first | rfl | exact zB_nar _) (by rw [e9]; rfl) rfl
      · refine z_aload_n 0 rfl rfl dX5_canBeExercised_29 ?_
        refine z_aload_n 2 rfl rfl dX5_canBeExercised_30 ?_
        refine z_iconst (nI 2) dX5_canBeExercised_31 rfl ?_
        refine z_pV2 (ci := 5) zm_X5_rightsIn (c_X5_rightsIn hp _ _ _ (Or.inl ⟨rfl, by omega⟩) hJ) rfl zl_X5_189 rfl rfl (by decide) (hp.at (j := 0) (Or.inl (by decide))).1 (hp.at (j := 0) (Or.inl (by decide))).2 (by decide) (Nat.le_of_ble_eq_true rfl) dX5_canBeExercised_32 ?_
        refine z_aload_n 2 rfl rfl dX5_canBeExercised_35 ?_
        refine zC_D2 hp (by omega) rfl zf_X5_92 dX5_canBeExercised_36 ?_
        refine z_icmp_ge 46 dX5_canBeExercised_39 rfl (fun c39 => ?_) (fun c39 => ?_)
        · have e9 : sEx v r d = false := by rw [kEx, decide_eq_false (i_not_lt.mpr c39)]; simp
          refine z_iconst (nI 0) dX5_canBeExercised_46 rfl ?_
          exact z_zret dX5_canBeExercised_47 (by first | rfl | exact zB_nar _) (by rw [e9]; rfl) rfl
        · have e9 : sEx v r d = true := by rw [kEx, decide_eq_true c4, c12, decide_eq_true (i_not_lt.mp c26), decide_eq_true (i_not_le.mp c39)]; rfl
          refine z_iconst (nI 1) dX5_canBeExercised_42 rfl ?_
          refine z_goto 47 dX5_canBeExercised_43 rfl ?_
          exact z_zret dX5_canBeExercised_47 (by first | rfl | exact zB_nar _) (by rw [e9]; rfl) rfl
set_option maxRecDepth 4000 in
theorem c_X5_give {l : Launch} {G : zG} {B : Nat → Nat} {m0 mm : zM} {v : Nat → Int32} (hp : zCV G B m0 v mm) (h : Nat) (c : Int32) (hh : h < 10) : zSem l G (yX5_give, cX5_give, 3, none) 2 [.ref (B 0), .int (nI h), .int c] mm none (fun m' => zCV G B m0 (sPays v h (-c)) m') := by
  refine z_met [some (.ref (B 0)), some (.int (nI h)), some (.int c)] rfl (zc1 (by rfl)) (Nat.le_of_ble_eq_true rfl) rfl ?_
  refine z_iload_n 1 rfl rfl dX5_give_0 ?_
  refine z_pN1 zm_X6_isHolder (c_X6_isHolder _) rfl zl_X5_128 (by decide) (Nat.le_of_ble_eq_true rfl) dX5_give_1 ?_
  refine z_if_eqB 27 dX5_give_4 rfl (fun c4 => ?_) (fun c4 => ?_)
  · exact absurd c4 (by rw [zIn_le (by omega) (by decide)]; decide)
  · refine z_aload_n 0 rfl rfl dX5_give_7 ?_
    refine zC_S8 hp rfl zf_X5_47 dX5_give_8 ?_
    refine z_iload_n 1 rfl rfl dX5_give_11 ?_
    refine z_dup2 dX5_give_12 rfl rfl ?_
    refine zC_a4 hp (by omega) dX5_give_13 ?_
    refine z_iload_n 2 rfl rfl dX5_give_14 ?_
    refine z_iadd dX5_give_15 ?_
    refine zC_a4s hp (by omega) dX5_give_16 (fun mm hp => ?_)
    refine z_aload_n 0 rfl rfl dX5_give_17 ?_
    refine z_dup dX5_give_18 rfl ?_
    refine zC_S9 hp rfl zf_X5_82 dX5_give_19 ?_
    refine z_iload_n 2 rfl rfl dX5_give_22 ?_
    refine z_isub dX5_give_23 ?_
    refine zC_Sp9 hp rfl zf_X5_82 dX5_give_24 (fun mm hp => ?_)
    exact z_vret dX5_give_27 rfl (by
        unfold sPays
        rw [Int32.sub_eq_add_neg, Int32.neg_neg, ← Int32.sub_eq_add_neg]
        exact hp)
