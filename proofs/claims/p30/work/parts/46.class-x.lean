theorem i_lt1 {x : Int32} : x < nI 1 ↔ x ≤ 0 := by
  rw [Int32.lt_iff_toInt_lt, Int32.le_iff_toInt_le]
  have z1 : (nI 1).toInt = 1 := rfl
  have z0 : (0 : Int32).toInt = 0 := rfl
  omega
set_option maxRecDepth 4000 in
theorem c_X6_priceIn {l : Launch} {G : zG} {Bs : Nat → Nat → Nat} {O : Nat → Nat} {m0 mm : zM} {π : Nat → Nat} {vs : Nat → Nat → Int32} {hk cn : Int32} {T g : Nat → Int32} (hp : zDk G Bs O m0 π vs hk cn T g mm) (x w : Int32) (hH : zH (vs 0)) : zSem l G (yX6_priceIn, cX6_priceIn, 5, (some .int)) 6 [.ref (O 0), .int x, .int w] mm (some (.int (sPin (vs 0) x w))) (fun m' => m' = mm) := by
  have hq := hp.1 0 (by decide)
  refine z_met [some (.ref (O 0)), some (.int x), some (.int w), none, none] rfl (zc1 (by rfl)) (Nat.le_of_ble_eq_true rfl) rfl ?_
  refine z_aload_n 0 rfl rfl dX6_priceIn_0 ?_
  refine zK6_0 hp rfl zf_X6_10 dX6_priceIn_1 ?_
  refine z_iload_n 1 rfl rfl dX6_priceIn_4 ?_
  by_cases cx : zIn x (nI 0) (vs 0 1 - nI 1) = true
  · obtain ⟨d, hd, rfl⟩ := zDt hH.1 cx
    have hd10 := hH.1.1.2
    have znd := zn_nI (show d < 2 ^ 31 by omega)
    refine z_pV1 (ci := 5) zm_X5_dateRow (c_X5_dateRow hq d hH.1.1 hd) rfl zl_X6_118 rfl rfl (by decide) ((hp.1 _ (by decide)).at (j := 0) (Or.inl (by decide))).1 ((hp.1 _ (by decide)).at (j := 0) (Or.inl (by decide))).2 (by decide) (Nat.le_of_ble_eq_true rfl) dX6_priceIn_5 ?_
    refine z_astore_n 3 rfl (Nat.le_of_ble_eq_true rfl) rfl dX6_priceIn_8 ?_
    refine z_aload_n 3 rfl rfl dX6_priceIn_9 ?_
    refine z_ifnonnull 15 dX6_priceIn_10 rfl ?_
    refine z_iload_n 2 rfl rfl dX6_priceIn_15 ?_
    refine z_if_lt 25 dX6_priceIn_16 rfl (fun c16 => ?_) (fun c16 => ?_)
    · have e9 : sPin (vs 0) (nI d) w = -2 := by unfold sPin; rw [if_pos cx, zIn_f1 (show w < nI 0 from c16)]; rfl
      refine z_bipush (-2) dX6_priceIn_25 (by decide) ?_
      exact z_iret dX6_priceIn_27 (by rw [e9]) rfl
    · refine z_iload_n 2 rfl rfl dX6_priceIn_19 ?_
      refine z_bipush (nI 60) dX6_priceIn_20 rfl ?_
      refine z_icmp_le 28 dX6_priceIn_22 rfl (fun c22 => ?_) (fun c22 => ?_)
      · have e8 : sPin (vs 0) (nI d) w = if sLeft (vs 0) d - w ≤ 0 then -5 else sPrice (vs 0) d (sLeft (vs 0) d - w) := by unfold sPin; rw [if_pos cx, if_pos (show zIn w (nI 0) (nI 60) = true from zIn_t (lo := nI 0) (i_not_lt.mp c16) c22), znd]
        refine z_aload_n 0 rfl rfl dX6_priceIn_28 ?_
        refine zK6_0 hp rfl zf_X6_10 dX6_priceIn_29 ?_
        refine z_aload_n 3 rfl rfl dX6_priceIn_32 ?_
        refine z_pV1 (ci := 5) zm_X5_daysLeft (c_X5_daysLeft hq d (by omega)) rfl zl_X6_149 rfl rfl (by decide) ((hp.1 _ (by decide)).at (j := 0) (Or.inl (by decide))).1 ((hp.1 _ (by decide)).at (j := 0) (Or.inl (by decide))).2 (by decide) (Nat.le_of_ble_eq_true rfl) dX6_priceIn_33 ?_
        refine z_iload_n 2 rfl rfl dX6_priceIn_36 ?_
        refine z_isub dX6_priceIn_37 ?_
        refine z_istore 4 (Nat.le_of_ble_eq_true rfl) rfl dX6_priceIn_38 ?_
        refine z_iload 4 rfl dX6_priceIn_40 ?_
        refine z_iconst (nI 1) dX6_priceIn_42 rfl ?_
        refine z_icmp_ge 51 dX6_priceIn_43 rfl (fun c43 => ?_) (fun c43 => ?_)
        · have e9 := e8
          rw [if_neg (fun z => absurd (i_lt1.mpr z) (i_not_lt.mpr c43)), ← kPr_s] at e9
          refine z_aload_n 3 rfl rfl dX6_priceIn_51 ?_
          refine z_aload_n 0 rfl rfl dX6_priceIn_52 ?_
          refine zK6_0 hp rfl zf_X6_10 dX6_priceIn_53 ?_
          refine z_aload_n 3 rfl rfl dX6_priceIn_56 ?_
          refine z_pV1 (ci := 5) zm_X5_rightsOut (c_X5_rightsOut hq _ d (Or.inl ⟨rfl, by omega⟩) hH) rfl zl_X6_153 rfl rfl (by decide) ((hp.1 _ (by decide)).at (j := 0) (Or.inl (by decide))).1 ((hp.1 _ (by decide)).at (j := 0) (Or.inl (by decide))).2 (by decide) (Nat.le_of_ble_eq_true rfl) dX6_priceIn_57 ?_
          refine z_iload 4 rfl dX6_priceIn_60 ?_
          refine z_pV2 (ci := 0) zm_X0_priceFor (c_X0_priceFor hq d _ _ (by omega) (hH.2.2.2.1 d hd)) rfl zl_X6_156 rfl rfl (by decide) ((hp.1 0 (by decide)).at (j := 10 + _) (Or.inr (by omega))).1 (((hp.1 0 (by decide)).at (j := 10 + _) (Or.inr (by omega))).2.trans (zBsh_d (by omega))) (by decide) (Nat.le_of_ble_eq_true rfl) dX6_priceIn_62 ?_
          exact z_iret dX6_priceIn_65 (by rw [e9]) rfl
        · have e9 := e8
          rw [if_pos (i_lt1.mp (i_not_le.mp c43))] at e9
          refine z_bipush (-5) dX6_priceIn_46 (by decide) ?_
          refine z_goto 65 dX6_priceIn_48 rfl ?_
          exact z_iret dX6_priceIn_65 (by rw [e9]) rfl
      · have e9 : sPin (vs 0) (nI d) w = -2 := by unfold sPin; rw [if_pos cx, zIn_f2 (i_not_le.mp c22)]; rfl
        refine z_bipush (-2) dX6_priceIn_25 (by decide) ?_
        exact z_iret dX6_priceIn_27 (by rw [e9]) rfl
  · have cyf : zIn x (nI 0) (vs 0 1 - nI 1) = false := by simpa using cx
    have e9 : sPin (vs 0) x w = -1 := by unfold sPin; rw [if_neg cx]
    refine z_pV1 (ci := 5) zm_X5_dateRow (c_X5_dateRowN hq _ hH.1.1 cyf) rfl zl_X6_118 rfl rfl (by decide) ((hp.1 _ (by decide)).at (j := 0) (Or.inl (by decide))).1 ((hp.1 _ (by decide)).at (j := 0) (Or.inl (by decide))).2 (by decide) (Nat.le_of_ble_eq_true rfl) dX6_priceIn_5 ?_
    refine z_astore_nN 3 rfl (Nat.le_of_ble_eq_true rfl) rfl dX6_priceIn_8 ?_
    refine z_aload_nN 3 rfl rfl dX6_priceIn_9 ?_
    refine z_ifnonnullN dX6_priceIn_10 ?_
    refine z_iconst (-1) dX6_priceIn_13 (by decide) ?_
    exact z_iret dX6_priceIn_14 (by rw [e9]) rfl
set_option maxRecDepth 4000 in
theorem c_X6_count {l : Launch} {G : zG} {Bs : Nat → Nat → Nat} {O : Nat → Nat} {m0 mm : zM} {π : Nat → Nat} {vs : Nat → Nat → Int32} {hk cn : Int32} {T g : Nat → Int32} (hp : zDk G Bs O m0 π vs hk cn T g mm) (w : Int32) (hH : zH (vs 0)) : zSem l G (yX6_count, cX6_count, 2, (some .int)) 6 [.ref (O 0), .int w] mm (some (.int (if w = nI 14 then cn else if w = nI 15 then g 1 else kCount (vs 0) w))) (fun m' => m' = mm) := by
  have hq := hp.1 0 (by decide)
  refine z_met [some (.ref (O 0)), some (.int w)] rfl (zc1 (by rfl)) (Nat.le_of_ble_eq_true rfl) rfl ?_
  refine z_iload_n 1 rfl rfl dX6_count_0 ?_
  refine z_bipush (nI 14) dX6_count_1 rfl ?_
  refine z_icmp_ne 14 dX6_count_3 rfl (fun c3 => ?_) (fun c3 => ?_)
  · refine z_iload_n 1 rfl rfl dX6_count_14 ?_
    refine z_bipush (nI 15) dX6_count_15 rfl ?_
    refine z_icmp_ne 28 dX6_count_17 rfl (fun c17 => ?_) (fun c17 => ?_)
    · have e9 : (if w = nI 14 then cn else if w = nI 15 then g 1 else kCount (vs 0) w) = kCount (vs 0) w := by rw [if_neg c3, if_neg c17]
      refine z_aload_n 0 rfl rfl dX6_count_28 ?_
      refine zK6_0 hp rfl zf_X6_10 dX6_count_29 ?_
      refine z_iload_n 1 rfl rfl dX6_count_32 ?_
      refine z_pV1 (ci := 5) zm_X5_tellCount (c_X5_tellCount hq w hH) rfl zl_X6_178 rfl rfl (by decide) ((hp.1 _ (by decide)).at (j := 0) (Or.inl (by decide))).1 ((hp.1 _ (by decide)).at (j := 0) (Or.inl (by decide))).2 (by decide) (Nat.le_of_ble_eq_true rfl) dX6_count_33 ?_
      exact z_iret dX6_count_36 (by rw [e9]) rfl
    · have e9 : (if w = nI 14 then cn else if w = nI 15 then g 1 else kCount (vs 0) w) = g 1 := by rw [if_neg c3, if_pos c17]
      refine z_aload_n 0 rfl rfl dX6_count_20 ?_
      refine zK6_4 hp rfl zf_X6_29 dX6_count_21 ?_
      refine zT_1 hp.2.2.2.2.2.1 rfl zf_X6_175 dX6_count_24 ?_
      exact z_iret dX6_count_27 (by rw [e9]) rfl
  · have e9 : (if w = nI 14 then cn else if w = nI 15 then g 1 else kCount (vs 0) w) = cn := if_pos c3
    refine z_aload_n 0 rfl rfl dX6_count_6 ?_
    refine zK6_3 hp rfl zf_X6_22 dX6_count_7 ?_
    refine zK2_1 hp rfl zf_X6_107 dX6_count_10 ?_
    exact z_iret dX6_count_13 (by rw [e9]) rfl
