set_option maxRecDepth 4000 in
theorem c_X6_waiting {l : Launch} {G : zG} {Bs : Nat → Nat → Nat} {O : Nat → Nat} {m0 mm : zM} {π : Nat → Nat} {vs : Nat → Nat → Int32} {hk cn : Int32} {T g : Nat → Int32} (hp : zDk G Bs O m0 π vs hk cn T g mm) (x w : Int32) (hH : zH (vs 0)) : zSem l G (yX6_waiting, cX6_waiting, 4, (some .int)) 6 [.ref (O 0), .int x, .int w] mm (some (.int (sWait (vs 0) x w))) (fun m' => m' = mm) := by
  have hq := hp.1 0 (by decide)
  refine z_met [some (.ref (O 0)), some (.int x), some (.int w), none] rfl (zc1 (by rfl)) (Nat.le_of_ble_eq_true rfl) rfl ?_
  refine z_aload_n 0 rfl rfl dX6_waiting_0 ?_
  refine zK6_0 hp rfl zf_X6_10 dX6_waiting_1 ?_
  refine z_iload_n 1 rfl rfl dX6_waiting_4 ?_
  by_cases cx : zIn x (nI 0) (vs 0 1 - nI 1) = true
  · obtain ⟨d, hd, rfl⟩ := zDt hH.1 cx
    have hd10 := hH.1.1.2
    have znd := zn_nI (show d < 2 ^ 31 by omega)
    obtain ⟨n, hn, h5, -⟩ := hH.1.2.2.1 d (by omega)
    refine z_pV1 (ci := 5) zm_X5_dateRow (c_X5_dateRow hq d hH.1.1 hd) rfl zl_X6_118 rfl rfl (by decide) ((hp.1 _ (by decide)).at (j := 0) (Or.inl (by decide))).1 ((hp.1 _ (by decide)).at (j := 0) (Or.inl (by decide))).2 (by decide) (Nat.le_of_ble_eq_true rfl) dX6_waiting_5 ?_
    refine z_astore_n 3 rfl (Nat.le_of_ble_eq_true rfl) rfl dX6_waiting_8 ?_
    refine z_aload_n 3 rfl rfl dX6_waiting_9 ?_
    refine z_ifnonnull 15 dX6_waiting_10 rfl ?_
    refine z_iload_n 2 rfl rfl dX6_waiting_15 ?_
    refine z_if_ge 22 dX6_waiting_16 rfl (fun c16 => ?_) (fun c16 => ?_)
    · have e9 : sWait (vs 0) (nI d) w = (if 0 ≤ w ∧ w < vs 0 (27 + 12 * d + 5) then vs 0 (27 + 12 * d + (6 + zn w)) else -5) := by
        unfold sWait
        rw [if_pos cx, znd, if_pos c16]
        by_cases q : w < vs 0 (27 + 12 * d + 5)
        · rw [if_pos q, if_pos ⟨c16, q⟩]
        · rw [if_neg q, if_neg (fun z => q z.2)]
      refine z_aload_n 3 rfl rfl dX6_waiting_22 ?_
      refine z_iload_n 2 rfl rfl dX6_waiting_23 ?_
      refine z_pV1 (ci := 0) zm_X0_waitingAt (c_X0_waitingAt hq d n w (by omega) h5 hn) rfl zl_X6_126 rfl rfl (by decide) ((hp.1 0 (by decide)).at (j := 10 + _) (Or.inr (by omega))).1 (((hp.1 0 (by decide)).at (j := 10 + _) (Or.inr (by omega))).2.trans (zBsh_d (by omega))) (by decide) (Nat.le_of_ble_eq_true rfl) dX6_waiting_24 ?_
      exact z_iret dX6_waiting_27 (by rw [e9]) rfl
    · have e9 : sWait (vs 0) (nI d) w = -2 := by unfold sWait; rw [if_pos cx, if_neg c16]
      refine z_bipush (-2) dX6_waiting_19 (by decide) ?_
      exact z_iret dX6_waiting_21 (by rw [e9]) rfl
  · have cyf : zIn x (nI 0) (vs 0 1 - nI 1) = false := by simpa using cx
    have e9 : sWait (vs 0) x w = -1 := by unfold sWait; rw [if_neg cx]
    refine z_pV1 (ci := 5) zm_X5_dateRow (c_X5_dateRowN hq _ hH.1.1 cyf) rfl zl_X6_118 rfl rfl (by decide) ((hp.1 _ (by decide)).at (j := 0) (Or.inl (by decide))).1 ((hp.1 _ (by decide)).at (j := 0) (Or.inl (by decide))).2 (by decide) (Nat.le_of_ble_eq_true rfl) dX6_waiting_5 ?_
    refine z_astore_nN 3 rfl (Nat.le_of_ble_eq_true rfl) rfl dX6_waiting_8 ?_
    refine z_aload_nN 3 rfl rfl dX6_waiting_9 ?_
    refine z_ifnonnullN dX6_waiting_10 ?_
    refine z_iconst (-1) dX6_waiting_13 (by decide) ?_
    exact z_iret dX6_waiting_14 (by rw [e9]) rfl
set_option maxRecDepth 4000 in
theorem c_X6_right {l : Launch} {G : zG} {Bs : Nat → Nat → Nat} {O : Nat → Nat} {m0 mm : zM} {π : Nat → Nat} {vs : Nat → Nat → Int32} {hk cn : Int32} {T g : Nat → Int32} (hp : zDk G Bs O m0 π vs hk cn T g mm) (x w : Int32) (hH : zH (vs 0)) (hO : zOp (vs 0)) : zSem l G (yX6_right, cX6_right, 4, (some .int)) 6 [.ref (O 0), .int x, .int w] mm (some (.int (sRight (vs 0) x w))) (fun m' => m' = mm) := by
  have hq := hp.1 0 (by decide)
  refine z_met [some (.ref (O 0)), some (.int x), some (.int w), none] rfl (zc1 (by rfl)) (Nat.le_of_ble_eq_true rfl) rfl ?_
  refine z_aload_n 0 rfl rfl dX6_right_0 ?_
  refine zK6_0 hp rfl zf_X6_10 dX6_right_1 ?_
  refine z_iload_n 1 rfl rfl dX6_right_4 ?_
  by_cases cx : zIn x (nI 0) (vs 0 2 - nI 1) = true
  · obtain ⟨r, d, g1, hr, rfl, hd, e0, hg, e1⟩ := zRt hH.1 cx
    have h60 := hH.1.2.1.2
    have hd10 := hH.1.1.2
    have znr := zn_nI (show r < 2 ^ 31 by omega)
    have znd := zn_nI (show d < 2 ^ 31 by omega)
    have e9 : sRight (vs 0) (nI r) w = (if zIn w (nI 0) (nI 8) = true then sRightW (vs 0) r d (zn w) else -2) := by unfold sRight sRightW; rw [if_pos cx, znr, e0, znd]
    refine z_pV1 (ci := 5) zm_X5_rightRow (c_X5_rightRow hq r hH.1.2.1 hr) rfl zl_X6_131 rfl rfl (by decide) ((hp.1 _ (by decide)).at (j := 0) (Or.inl (by decide))).1 ((hp.1 _ (by decide)).at (j := 0) (Or.inl (by decide))).2 (by decide) (Nat.le_of_ble_eq_true rfl) dX6_right_5 ?_
    refine z_astore_n 3 rfl (Nat.le_of_ble_eq_true rfl) rfl dX6_right_8 ?_
    refine z_aload_n 3 rfl rfl dX6_right_9 ?_
    refine z_ifnonnull 17 dX6_right_10 rfl ?_
    refine z_aload_n 0 rfl rfl dX6_right_17 ?_
    refine zK6_0 hp rfl zf_X6_10 dX6_right_18 ?_
    refine z_aload_n 3 rfl rfl dX6_right_21 ?_
    refine z_iload_n 2 rfl rfl dX6_right_22 ?_
    refine z_pV2 (ci := 5) zm_X5_tellOfRight (c_X5_tellOfRight hq r d w hH hr hd e0 (fun z => hO.opn hH hr hd e0 z)) rfl zl_X6_135 rfl rfl (by decide) ((hp.1 _ (by decide)).at (j := 0) (Or.inl (by decide))).1 ((hp.1 _ (by decide)).at (j := 0) (Or.inl (by decide))).2 (by decide) (Nat.le_of_ble_eq_true rfl) dX6_right_23 ?_
    exact z_iret dX6_right_26 (by rw [e9] <;> rfl) rfl
  · have cyf : zIn x (nI 0) (vs 0 2 - nI 1) = false := by simpa using cx
    have e9 : sRight (vs 0) x w = -1 := by unfold sRight; rw [if_neg cx]
    refine z_pV1 (ci := 5) zm_X5_rightRow (c_X5_rightRowN hq _ hH.1.2.1 cyf) rfl zl_X6_131 rfl rfl (by decide) ((hp.1 _ (by decide)).at (j := 0) (Or.inl (by decide))).1 ((hp.1 _ (by decide)).at (j := 0) (Or.inl (by decide))).2 (by decide) (Nat.le_of_ble_eq_true rfl) dX6_right_5 ?_
    refine z_astore_nN 3 rfl (Nat.le_of_ble_eq_true rfl) rfl dX6_right_8 ?_
    refine z_aload_nN 3 rfl rfl dX6_right_9 ?_
    refine z_ifnonnullN dX6_right_10 ?_
    refine z_iconst (-1) dX6_right_13 (by decide) ?_
    refine z_goto 26 dX6_right_14 rfl ?_
    exact z_iret dX6_right_26 (by rw [e9] <;> rfl) rfl
