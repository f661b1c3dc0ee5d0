set_option maxRecDepth 4000 in
theorem c_X6_date {l : Launch} {G : zG} {Bs : Nat → Nat → Nat} {O : Nat → Nat} {m0 mm : zM} {π : Nat → Nat} {vs : Nat → Nat → Int32} {hk cn : Int32} {T g : Nat → Int32} (hp : zDk G Bs O m0 π vs hk cn T g mm) (x w : Int32) (hH : zH (vs 0)) : zSem l G (yX6_date, cX6_date, 4, (some .int)) 6 [.ref (O 0), .int x, .int w] mm (some (.int (sDate (vs 0) x w))) (fun m' => m' = mm) := by
  have hq := hp.1 0 (by decide)
  refine z_met [some (.ref (O 0)), some (.int x), some (.int w), none] rfl (zc1 (by rfl)) (Nat.le_of_ble_eq_true rfl) rfl ?_
  refine z_aload_n 0 rfl rfl dX6_date_0 ?_
  refine zK6_0 hp rfl zf_X6_10 dX6_date_1 ?_
  refine z_iload_n 1 rfl rfl dX6_date_4 ?_
  by_cases cx : zIn x (nI 0) (vs 0 1 - nI 1) = true
  · obtain ⟨d, hd, rfl⟩ := zDt hH.1 cx
    have hd10 := hH.1.1.2
    have znd := zn_nI (show d < 2 ^ 31 by omega)
    have e9 : sDate (vs 0) (nI d) w = if zIn w (nI 0) (nI 13) = true then sDateW (vs 0) d (zn w) else -2 := by unfold sDate; rw [if_pos cx, znd]
    refine z_pV1 (ci := 5) zm_X5_dateRow (c_X5_dateRow hq d hH.1.1 hd) rfl zl_X6_118 rfl rfl (by decide) ((hp.1 _ (by decide)).at (j := 0) (Or.inl (by decide))).1 ((hp.1 _ (by decide)).at (j := 0) (Or.inl (by decide))).2 (by decide) (Nat.le_of_ble_eq_true rfl) dX6_date_5 ?_
    refine z_astore_n 3 rfl (Nat.le_of_ble_eq_true rfl) rfl dX6_date_8 ?_
    refine z_aload_n 3 rfl rfl dX6_date_9 ?_
    refine z_ifnonnull 17 dX6_date_10 rfl ?_
    refine z_aload_n 0 rfl rfl dX6_date_17 ?_
    refine zK6_0 hp rfl zf_X6_10 dX6_date_18 ?_
    refine z_aload_n 3 rfl rfl dX6_date_21 ?_
    refine z_iload_n 2 rfl rfl dX6_date_22 ?_
    refine z_pV2 (ci := 5) zm_X5_tellOfDate (c_X5_tellOfDate hq d w hH hd) rfl zl_X6_122 rfl rfl (by decide) ((hp.1 _ (by decide)).at (j := 0) (Or.inl (by decide))).1 ((hp.1 _ (by decide)).at (j := 0) (Or.inl (by decide))).2 (by decide) (Nat.le_of_ble_eq_true rfl) dX6_date_23 ?_
    exact z_iret dX6_date_26 (by rw [e9]) rfl
  · have cyf : zIn x (nI 0) (vs 0 1 - nI 1) = false := by simpa using cx
    have e9 : sDate (vs 0) x w = -1 := by unfold sDate; rw [if_neg cx]
    refine z_pV1 (ci := 5) zm_X5_dateRow (c_X5_dateRowN hq _ hH.1.1 cyf) rfl zl_X6_118 rfl rfl (by decide) ((hp.1 _ (by decide)).at (j := 0) (Or.inl (by decide))).1 ((hp.1 _ (by decide)).at (j := 0) (Or.inl (by decide))).2 (by decide) (Nat.le_of_ble_eq_true rfl) dX6_date_5 ?_
    refine z_astore_nN 3 rfl (Nat.le_of_ble_eq_true rfl) rfl dX6_date_8 ?_
    refine z_aload_nN 3 rfl rfl dX6_date_9 ?_
    refine z_ifnonnullN dX6_date_10 ?_
    refine z_iconst (-1) dX6_date_13 (by decide) ?_
    refine z_goto 26 dX6_date_14 rfl ?_
    exact z_iret dX6_date_26 (by rw [e9]) rfl
set_option maxRecDepth 4000 in
theorem c_X6_holder {l : Launch} {G : zG} {Bs : Nat → Nat → Nat} {O : Nat → Nat} {m0 mm : zM} {π : Nat → Nat} {vs : Nat → Nat → Int32} {hk cn : Int32} {T g : Nat → Int32} (hp : zDk G Bs O m0 π vs hk cn T g mm) (x w : Int32) (hH : zH (vs 0)) : zSem l G (yX6_holder, cX6_holder, 3, (some .int)) 6 [.ref (O 0), .int x, .int w] mm (some (.int (sHold (vs 0) x w))) (fun m' => m' = mm) := by
  have hq := hp.1 0 (by decide)
  refine z_met [some (.ref (O 0)), some (.int x), some (.int w)] rfl (zc1 (by rfl)) (Nat.le_of_ble_eq_true rfl) rfl ?_
  refine z_iload_n 1 rfl rfl dX6_holder_0 ?_
  refine z_pS1 zm_X6_isHolder (c_X6_isHolder _) rfl zl_X6_139 (by decide) (Nat.le_of_ble_eq_true rfl) dX6_holder_1 ?_
  refine z_if_eqB 19 dX6_holder_4 rfl (fun c4 => ?_) (fun c4 => ?_)
  · have e9 : sHold (vs 0) x w = -1 := by unfold sHold; rw [c4]; rfl
    refine z_iconst (-1) dX6_holder_19 (by decide) ?_
    exact z_iret dX6_holder_20 (by rw [e9]) rfl
  · obtain ⟨h, hh, rfl⟩ := zIn_nI (by decide) c4
    have e9 : sHold (vs 0) (nI h) w = if zIn w (nI 0) (nI 3) = true then sHoldW (vs 0) h (zn w) else -2 := by unfold sHold; rw [if_pos c4, zn_nI (by omega)]
    refine z_aload_n 0 rfl rfl dX6_holder_7 ?_
    refine zK6_0 hp rfl zf_X6_10 dX6_holder_8 ?_
    refine z_iload_n 1 rfl rfl dX6_holder_11 ?_
    refine z_iload_n 2 rfl rfl dX6_holder_12 ?_
    refine z_pV2 (ci := 5) zm_X5_tellOfHolder (c_X5_tellOfHolder hq h w hH (by omega)) rfl zl_X6_143 rfl rfl (by decide) ((hp.1 _ (by decide)).at (j := 0) (Or.inl (by decide))).1 ((hp.1 _ (by decide)).at (j := 0) (Or.inl (by decide))).2 (by decide) (Nat.le_of_ble_eq_true rfl) dX6_holder_13 ?_
    refine z_goto 20 dX6_holder_16 rfl ?_
    exact z_iret dX6_holder_20 (by rw [e9]) rfl
set_option maxRecDepth 4000 in
theorem c_X6_stage {l : Launch} {G : zG} {Bs : Nat → Nat → Nat} {O : Nat → Nat} {m0 mm : zM} {π : Nat → Nat} {vs : Nat → Nat → Int32} {hk cn : Int32} {T g : Nat → Int32} (hp : zDk G Bs O m0 π vs hk cn T g mm) (x w : Int32) : zSem l G (yX6_stage, cX6_stage, 3, (some .int)) 6 [.ref (O 0), .int x, .int w] mm (some (.int (sStg (vs 0) x w))) (fun m' => m' = mm) := by
  have hq := hp.1 0 (by decide)
  refine z_met [some (.ref (O 0)), some (.int x), some (.int w)] rfl (zc1 (by rfl)) (Nat.le_of_ble_eq_true rfl) rfl ?_
  refine z_aload_n 0 rfl rfl dX6_stage_0 ?_
  refine zK6_0 hp rfl zf_X6_10 dX6_stage_1 ?_
  refine z_iload_n 1 rfl rfl dX6_stage_4 ?_
  refine z_iload_n 2 rfl rfl dX6_stage_5 ?_
  refine z_pV2 (ci := 5) zm_X5_tellOfStage (c_X5_tellOfStage hq x w) rfl zl_X6_146 rfl rfl (by decide) ((hp.1 _ (by decide)).at (j := 0) (Or.inl (by decide))).1 ((hp.1 _ (by decide)).at (j := 0) (Or.inl (by decide))).2 (by decide) (Nat.le_of_ble_eq_true rfl) dX6_stage_6 ?_
  exact z_iret dX6_stage_9 rfl rfl
