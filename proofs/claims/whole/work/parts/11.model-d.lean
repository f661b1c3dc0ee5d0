set_option maxRecDepth 4000 in
theorem c_X7_pays {l : Launch} {G : zG} {A : Nat → Nat} {m0 mm : zM} {v : Nat → Int32} {S : Nat → Nat → Int32} (hp : zMP G A m0 v S mm) (h : Nat) (c : Int32) (hh : h < 10) : zSem l G (yX7_pays, cX7_pays, 3, none) 1 [.ref (A 0), .int (nI h), .int c] mm none (fun m' => zMP G A m0 (sPays v h c) S m') := by
  refine z_met [some (.ref (A 0)), some (.int (nI h)), some (.int c)] rfl (zc1 (by rfl)) (Nat.le_of_ble_eq_true rfl) rfl ?_
  refine z_aload_n 0 rfl rfl dX7_pays_0 ?_
  refine zM_ref 0 1 hp (by decide) rfl (by decide) rfl rfl zf_X7_7 dX7_pays_1 ?_
  refine z_bipush (nI 17) dX7_pays_4 rfl ?_
  refine z_iload_n 1 rfl rfl dX7_pays_6 ?_
  refine z_iaddN dX7_pays_7 ?_
  refine z_dup2 dX7_pays_8 rfl rfl ?_
  refine zM_vld hp (by omega) dX7_pays_9 ?_
  refine z_iload_n 2 rfl rfl dX7_pays_10 ?_
  refine z_isub dX7_pays_11 ?_
  refine zM_vst hp (by omega) dX7_pays_12 (fun mm hp => ?_)
  refine z_aload_n 0 rfl rfl dX7_pays_13 ?_
  refine zM_ref 0 1 hp (by decide) rfl (by decide) rfl rfl zf_X7_7 dX7_pays_14 ?_
  refine z_bipush (nI 7) dX7_pays_17 rfl ?_
  refine z_dup2 dX7_pays_19 rfl rfl ?_
  refine zM_vld hp (by omega) dX7_pays_20 ?_
  refine z_iload_n 2 rfl rfl dX7_pays_21 ?_
  refine z_iadd dX7_pays_22 ?_
  refine zM_vst hp (by omega) dX7_pays_23 (fun mm hp => ?_)
  exact z_vret dX7_pays_24 rfl hp
set_option maxRecDepth 4000 in
theorem c_X7_becomes {l : Launch} {G : zG} {A : Nat → Nat} {m0 mm : zM} {v : Nat → Int32} {S : Nat → Nat → Int32} (hp : zMP G A m0 v S mm) (r : Nat) (s : Int32) (hr : r < 60) : zSem l G (yX7_becomes, cX7_becomes, 3, none) 2 [.ref (A 0), .int (nI r), .int s] mm none (fun m' => zMP G A m0 (sBec v r s) S m') := by
  refine z_met [some (.ref (A 0)), some (.int (nI r)), some (.int s)] rfl (zc1 (by rfl)) (Nat.le_of_ble_eq_true rfl) rfl ?_
  refine z_aload_n 0 rfl rfl dX7_becomes_0 ?_
  refine zM_ref 0 1 hp (by decide) rfl (by decide) rfl rfl zf_X7_7 dX7_becomes_1 ?_
  refine z_iload_n 1 rfl rfl dX7_becomes_4 ?_
  refine z_iconst (nI 3) dX7_becomes_5 rfl ?_
  refine z_pS2 zm_X7_rightAt (c_X7_rightAt _ _) rfl zl_X7_43 (by decide) (Nat.le_of_ble_eq_true rfl) dX7_becomes_6 ?_
  refine z_iload_n 2 rfl rfl dX7_becomes_9 ?_
  refine zM_vst hp (by omega) dX7_becomes_10 (fun mm hp => ?_)
  refine z_aload_n 0 rfl rfl dX7_becomes_11 ?_
  refine zM_ref 0 1 hp (by decide) rfl (by decide) rfl rfl zf_X7_7 dX7_becomes_12 ?_
  refine z_iload_n 1 rfl rfl dX7_becomes_15 ?_
  refine z_iconst (nI 4) dX7_becomes_16 rfl ?_
  refine z_pS2 zm_X7_rightAt (c_X7_rightAt _ _) rfl zl_X7_43 (by decide) (Nat.le_of_ble_eq_true rfl) dX7_becomes_17 ?_
  refine z_bipush (-5) dX7_becomes_20 (by decide) ?_
  refine zM_vst hp (by omega) dX7_becomes_22 (fun mm hp => ?_)
  exact z_vret dX7_becomes_23 rfl hp
theorem sShf_step (v : Nat → Int32) {i : Nat} (hi : i < 36) : upd (sShf v i) (567 + (39 - i)) (sShf v i (567 + (39 - i) - 4)) = sShf v (i + 1) := by
  funext j
  simp only [upd, sShf]
  by_cases e : j = 567 + (39 - i)
  · rw [if_pos e, if_neg (by omega), if_pos (by omega), e]
  · rw [if_neg e]
    by_cases h : 606 - i < j ∧ j < 607
    · rw [if_pos h, if_pos (by omega)]
    · rw [if_neg h, if_neg (by omega)]
set_option maxRecDepth 4000 in
theorem l_X7_log {l : Launch} {G : zG} {A : Nat → Nat} {m0 : zM} {v : Nat → Int32} {S : Nat → Nat → Int32} (k r c : Int32) : ∀ i, i ≤ 36 → ∀ (mm : zM) (hp : zMP G A m0 (sShf v i) S mm), zV l G (yX7_log, cX7_log, 5, none) 1 none (fun m' => zMP G A m0 (sLog v k r c) S m') 4 [some (.ref (A 0)), some (.int k), some (.int r), some (.int c), some (.int (nI (39 - i)))] [] mm := by
  refine z_loop (36) (fun i hi ih mm hp => ?_)
  refine z_iload 4 rfl dX7_log_4 ?_
  refine z_iconst (nI 3) dX7_log_6 rfl ?_
  refine z_icmp_le 40 dX7_log_7 rfl (fun c7 => ?_) (fun c7 => ?_)
  · have e : i = 36 := by have := (nI_leI (by omega) (by omega)).mp c7; omega
    subst e
    refine z_aload_n 0 rfl rfl dX7_log_40 ?_
    refine zM_ref 0 1 hp (by decide) rfl (by decide) rfl rfl zf_X7_7 dX7_log_41 ?_
    refine z_sipush (nI 567) dX7_log_44 rfl ?_
    refine z_iload_n 1 rfl rfl dX7_log_47 ?_
    refine zM_vst hp (by omega) dX7_log_48 (fun mm hp => ?_)
    refine z_aload_n 0 rfl rfl dX7_log_49 ?_
    refine zM_ref 0 1 hp (by decide) rfl (by decide) rfl rfl zf_X7_7 dX7_log_50 ?_
    refine z_sipush (nI 568) dX7_log_53 rfl ?_
    refine z_iload_n 2 rfl rfl dX7_log_56 ?_
    refine zM_vst hp (by omega) dX7_log_57 (fun mm hp => ?_)
    refine z_aload_n 0 rfl rfl dX7_log_58 ?_
    refine zM_ref 0 1 hp (by decide) rfl (by decide) rfl rfl zf_X7_7 dX7_log_59 ?_
    refine z_sipush (nI 569) dX7_log_62 rfl ?_
    refine z_iload_n 3 rfl rfl dX7_log_65 ?_
    refine zM_vst hp (by omega) dX7_log_66 (fun mm hp => ?_)
    refine z_aload_n 0 rfl rfl dX7_log_67 ?_
    refine zM_ref 0 1 hp (by decide) rfl (by decide) rfl rfl zf_X7_7 dX7_log_68 ?_
    refine z_sipush (nI 570) dX7_log_71 rfl ?_
    refine z_aload_n 0 rfl rfl dX7_log_74 ?_
    refine zM_ref 0 1 hp (by decide) rfl (by decide) rfl rfl zf_X7_7 dX7_log_75 ?_
    refine z_iconst (nI 0) dX7_log_78 rfl ?_
    refine zM_vld hp (by omega) dX7_log_79 ?_
    refine zM_vst hp (by omega) dX7_log_80 (fun mm hp => ?_)
    refine z_aload_n 0 rfl rfl dX7_log_81 ?_
    refine zM_ref 0 1 hp (by decide) rfl (by decide) rfl rfl zf_X7_7 dX7_log_82 ?_
    refine z_bipush (nI 8) dX7_log_85 rfl ?_
    refine z_dup2 dX7_log_87 rfl rfl ?_
    refine zM_vld hp (by omega) dX7_log_88 ?_
    refine z_aload_n 0 rfl rfl dX7_log_89 ?_
    refine zM_ref 0 1 hp (by decide) rfl (by decide) rfl rfl zf_X7_7 dX7_log_90 ?_
    refine z_bipush (nI 8) dX7_log_93 rfl ?_
    refine zM_vld hp (by omega) dX7_log_95 ?_
    refine z_bipush (nI 10) dX7_log_96 rfl ?_
    refine z_icmp_ge 105 dX7_log_98 rfl (fun c98 => ?_) (fun c98 => ?_)
    · refine z_iconst (nI 0) dX7_log_105 rfl ?_
      refine z_iadd dX7_log_106 ?_
      refine zM_vst hp (by omega) dX7_log_107 (fun mm hp => ?_)
      exact z_vret dX7_log_108 rfl (by
          unfold sLog sLog0
          first | rw [if_pos (i_not_le.mp c98)] | rw [if_neg (i_not_lt.mpr c98)]
          exact hp)
    · refine z_iconst (nI 1) dX7_log_101 rfl ?_
      refine z_goto 106 dX7_log_102 rfl ?_
      refine z_iadd dX7_log_106 ?_
      refine zM_vst hp (by omega) dX7_log_107 (fun mm hp => ?_)
      exact z_vret dX7_log_108 rfl (by
          unfold sLog sLog0
          first | rw [if_pos (i_not_le.mp c98)] | rw [if_neg (i_not_lt.mpr c98)]
          exact hp)
  · have hl : i < 36 := Nat.lt_of_not_le (fun q => c7 ((nI_leI (by omega) (by omega)).mpr (by omega)))
    refine z_aload_n 0 rfl rfl dX7_log_10 ?_
    refine zM_ref 0 1 hp (by decide) rfl (by decide) rfl rfl zf_X7_7 dX7_log_11 ?_
    refine z_sipush (nI 567) dX7_log_14 rfl ?_
    refine z_iload 4 rfl dX7_log_17 ?_
    refine z_iaddN dX7_log_19 ?_
    refine z_aload_n 0 rfl rfl dX7_log_20 ?_
    refine zM_ref 0 1 hp (by decide) rfl (by decide) rfl rfl zf_X7_7 dX7_log_21 ?_
    refine z_sipush (nI 567) dX7_log_24 rfl ?_
    refine z_iload 4 rfl dX7_log_27 ?_
    refine z_iaddN dX7_log_29 ?_
    refine z_iconst (nI 4) dX7_log_30 rfl ?_
    refine z_isubN (by omega) dX7_log_31 ?_
    refine zM_vld hp (by omega) dX7_log_32 ?_
    refine zM_vst hp (by omega) dX7_log_33 (fun mm hp => ?_)
    rw [sShf_step v hl] at hp
    refine z_iincD 4 (by omega) rfl rfl dX7_log_34 ?_
    refine z_goto 4 dX7_log_37 rfl ?_
    exact ih hl _ hp
theorem sShf_0 (v : Nat → Int32) : sShf v 0 = v := by
  funext j
  simp only [sShf]
  rw [if_neg (by omega)]
set_option maxRecDepth 4000 in
theorem c_X7_log {l : Launch} {G : zG} {A : Nat → Nat} {m0 mm : zM} {v : Nat → Int32} {S : Nat → Nat → Int32} (hp : zMP G A m0 v S mm) (k r c : Int32) : zSem l G (yX7_log, cX7_log, 5, none) 1 [.ref (A 0), .int k, .int r, .int c] mm none (fun m' => zMP G A m0 (sLog v k r c) S m') := by
  refine z_met [some (.ref (A 0)), some (.int k), some (.int r), some (.int c), none] rfl (zc1 (by rfl)) (Nat.le_of_ble_eq_true rfl) rfl ?_
  refine z_bipush (nI 39) dX7_log_0 rfl ?_
  refine z_istore 4 (Nat.le_of_ble_eq_true rfl) rfl dX7_log_2 ?_
  exact l_X7_log k r c 0 (Nat.zero_le _) mm (by rw [sShf_0]; exact hp)
set_option maxRecDepth 4000 in
theorem c_X7_sells {l : Launch} {G : zG} {A : Nat → Nat} {m0 mm : zM} {v : Nat → Int32} {S : Nat → Nat → Int32} (hp : zMP G A m0 v S mm) (h d : Nat) (hh : h < 10) (hd : d < 10) (hR : nR v < 60) (hJ : zJ2 v) (hpl : ¬ v (27 + 12 * d + 1) = 0) : zSem l G (yX7_sells, cX7_sells, 5, (some .int)) 6 [.ref (A 0), .int (nI h), .int (nI d)] mm (some (.int (nI (nR v)))) (fun m' => zMP G A m0 (sSells v h d) S m') := by
  refine z_met [some (.ref (A 0)), some (.int (nI h)), some (.int (nI d)), none, none] rfl (zc1 (by rfl)) (Nat.le_of_ble_eq_true rfl) rfl ?_
  refine z_aload_n 0 rfl rfl dX7_sells_0 ?_
  refine zM_ref 0 1 hp (by decide) rfl (by decide) rfl rfl zf_X7_7 dX7_sells_1 ?_
  refine z_iconst (nI 2) dX7_sells_4 rfl ?_
  refine zM_vld hp (by omega) dX7_sells_5 ?_
  rw [hJ.1]
  refine z_istore_n 3 rfl (Nat.le_of_ble_eq_true rfl) rfl dX7_sells_6 ?_
  refine z_aload_n 0 rfl rfl dX7_sells_7 ?_
  refine z_iload_n 2 rfl rfl dX7_sells_8 ?_
  refine z_aload_n 0 rfl rfl dX7_sells_9 ?_
  refine z_iload_n 2 rfl rfl dX7_sells_10 ?_
  refine zM_p1 zm_X7_daysLeft (c_X7_daysLeft hp _ (by omega)) hp rfl rfl zl_X7_49 (by decide) (Nat.le_of_ble_eq_true rfl) dX7_sells_11 ?_
  refine zM_p2 zm_X7_price (c_X7_price hp _ _ (by omega) hJ (by assumption)) hp rfl rfl zl_X7_67 (by decide) (Nat.le_of_ble_eq_true rfl) dX7_sells_14 ?_
  refine z_istore 4 (Nat.le_of_ble_eq_true rfl) rfl dX7_sells_17 ?_
  refine z_aload_n 0 rfl rfl dX7_sells_19 ?_
  refine zM_ref 0 1 hp (by decide) rfl (by decide) rfl rfl zf_X7_7 dX7_sells_20 ?_
  refine z_iload_n 3 rfl rfl dX7_sells_23 ?_
  refine z_iconst (nI 0) dX7_sells_24 rfl ?_
  refine z_pS2 zm_X7_rightAt (c_X7_rightAt _ _) rfl zl_X7_43 (by decide) (Nat.le_of_ble_eq_true rfl) dX7_sells_25 ?_
  refine z_iload_n 2 rfl rfl dX7_sells_28 ?_
  refine zM_vst hp (by omega) dX7_sells_29 (fun mm hp => ?_)
  refine z_aload_n 0 rfl rfl dX7_sells_30 ?_
  refine zM_ref 0 1 hp (by decide) rfl (by decide) rfl rfl zf_X7_7 dX7_sells_31 ?_
  refine z_iload_n 3 rfl rfl dX7_sells_34 ?_
  refine z_iconst (nI 1) dX7_sells_35 rfl ?_
  refine z_pS2 zm_X7_rightAt (c_X7_rightAt _ _) rfl zl_X7_43 (by decide) (Nat.le_of_ble_eq_true rfl) dX7_sells_36 ?_
  refine z_iload_n 1 rfl rfl dX7_sells_39 ?_
  refine zM_vst hp (by omega) dX7_sells_40 (fun mm hp => ?_)
  refine z_aload_n 0 rfl rfl dX7_sells_41 ?_
  refine zM_ref 0 1 hp (by decide) rfl (by decide) rfl rfl zf_X7_7 dX7_sells_42 ?_
  refine z_iload_n 3 rfl rfl dX7_sells_45 ?_
  refine z_iconst (nI 2) dX7_sells_46 rfl ?_
  refine z_pS2 zm_X7_rightAt (c_X7_rightAt _ _) rfl zl_X7_43 (by decide) (Nat.le_of_ble_eq_true rfl) dX7_sells_47 ?_
  refine z_iload 4 rfl dX7_sells_50 ?_
  refine zM_vst hp (by omega) dX7_sells_52 (fun mm hp => ?_)
  refine z_aload_n 0 rfl rfl dX7_sells_53 ?_
  refine zM_ref 0 1 hp (by decide) rfl (by decide) rfl rfl zf_X7_7 dX7_sells_54 ?_
  refine z_iload_n 3 rfl rfl dX7_sells_57 ?_
  refine z_iconst (nI 3) dX7_sells_58 rfl ?_
  refine z_pS2 zm_X7_rightAt (c_X7_rightAt _ _) rfl zl_X7_43 (by decide) (Nat.le_of_ble_eq_true rfl) dX7_sells_59 ?_
  refine z_iconst (nI 0) dX7_sells_62 rfl ?_
  refine zM_vst hp (by omega) dX7_sells_63 (fun mm hp => ?_)
  refine z_aload_n 0 rfl rfl dX7_sells_64 ?_
  refine zM_ref 0 1 hp (by decide) rfl (by decide) rfl rfl zf_X7_7 dX7_sells_65 ?_
  refine z_iload_n 3 rfl rfl dX7_sells_68 ?_
  refine z_iconst (nI 4) dX7_sells_69 rfl ?_
  refine z_pS2 zm_X7_rightAt (c_X7_rightAt _ _) rfl zl_X7_43 (by decide) (Nat.le_of_ble_eq_true rfl) dX7_sells_70 ?_
  refine z_bipush (-5) dX7_sells_73 (by decide) ?_
  refine zM_vst hp (by omega) dX7_sells_75 (fun mm hp => ?_)
  refine z_aload_n 0 rfl rfl dX7_sells_76 ?_
  refine zM_ref 0 1 hp (by decide) rfl (by decide) rfl rfl zf_X7_7 dX7_sells_77 ?_
  refine z_iload_n 3 rfl rfl dX7_sells_80 ?_
  refine z_iconst (nI 5) dX7_sells_81 rfl ?_
  refine z_pS2 zm_X7_rightAt (c_X7_rightAt _ _) rfl zl_X7_43 (by decide) (Nat.le_of_ble_eq_true rfl) dX7_sells_82 ?_
  refine z_aload_n 0 rfl rfl dX7_sells_85 ?_
  refine zM_ref 0 1 hp (by decide) rfl (by decide) rfl rfl zf_X7_7 dX7_sells_86 ?_
  refine z_iconst (nI 0) dX7_sells_89 rfl ?_
  refine zM_vld hp (by omega) dX7_sells_90 ?_
  refine zM_vst hp (by omega) dX7_sells_91 (fun mm hp => ?_)
  refine z_aload_n 0 rfl rfl dX7_sells_92 ?_
  refine zM_ref 0 1 hp (by decide) rfl (by decide) rfl rfl zf_X7_7 dX7_sells_93 ?_
  refine z_iload_n 3 rfl rfl dX7_sells_96 ?_
  refine z_bipush (nI 6) dX7_sells_97 rfl ?_
  refine z_pS2 zm_X7_rightAt (c_X7_rightAt _ _) rfl zl_X7_43 (by decide) (Nat.le_of_ble_eq_true rfl) dX7_sells_99 ?_
  refine z_iconst (nI 0) dX7_sells_102 rfl ?_
  refine zM_vst hp (by omega) dX7_sells_103 (fun mm hp => ?_)
  refine z_aload_n 0 rfl rfl dX7_sells_104 ?_
  refine zM_ref 0 1 hp (by decide) rfl (by decide) rfl rfl zf_X7_7 dX7_sells_105 ?_
  refine z_iconst (nI 2) dX7_sells_108 rfl ?_
  refine z_dup2 dX7_sells_109 rfl rfl ?_
  refine zM_vld hp (by omega) dX7_sells_110 ?_
  refine z_iconst (nI 1) dX7_sells_111 rfl ?_
  refine z_iadd dX7_sells_112 ?_
  refine zM_vst hp (by omega) dX7_sells_113 (fun mm hp => ?_)
  have hp : zMP G A m0 (sNew2 v (nR v) d h (sPrice v d (sLeft v d))) S mm := hp
  refine z_aload_n 0 rfl rfl dX7_sells_114 ?_
  refine z_iload_n 1 rfl rfl dX7_sells_115 ?_
  refine z_iload 4 rfl dX7_sells_116 ?_
  refine zM_v2 zm_X7_pays (c_X7_pays hp _ _ (by omega)) hp rfl rfl zl_X7_70 (by decide) (Nat.le_of_ble_eq_true rfl) dX7_sells_118 (fun mm hp => ?_)
  refine z_aload_n 0 rfl rfl dX7_sells_121 ?_
  refine z_iconst (nI 0) dX7_sells_122 rfl ?_
  refine z_iload_n 3 rfl rfl dX7_sells_123 ?_
  refine z_iload 4 rfl dX7_sells_124 ?_
  refine zM_v3 zm_X7_log (c_X7_log hp _ _ _) hp rfl rfl zl_X7_74 (by decide) (Nat.le_of_ble_eq_true rfl) dX7_sells_126 (fun mm hp => ?_)
  refine z_iload_n 3 rfl rfl dX7_sells_129 ?_
  exact z_iret dX7_sells_130 rfl hp
theorem sDr_step (v : Nat → Int32) {d p i : Nat} : upd (sDr v d p i) (27 + 12 * d + (6 + (p + i))) (sDr v d p i (27 + 12 * d + (6 + (p + i) + 1))) = sDr v d p (i + 1) := by
  funext j
  simp only [upd, sDr]
  by_cases e : j = 27 + 12 * d + (6 + (p + i))
  · rw [if_pos e, if_neg (by omega), if_pos (by omega), e]; congr 1
  · rw [if_neg e]
    by_cases h : 27 + 12 * d + 6 + p ≤ j ∧ j < 27 + 12 * d + 6 + p + i
    · rw [if_pos h, if_pos (by omega)]
    · rw [if_neg h, if_neg (by omega)]
theorem sDr_0 (v : Nat → Int32) (d p : Nat) : sDr v d p 0 = v := by
  funext j
  simp only [sDr]
  rw [if_neg (by omega)]
set_option maxRecDepth 4000 in
theorem l_X7_dropFirst {l : Launch} {G : zG} {A : Nat → Nat} {m0 : zM} {v : Nat → Int32} {S : Nat → Nat → Int32} (d p n : Nat) (hd : d < 10) (hn : n ≤ 6) (hpn : p < n) (h5 : v (27 + 12 * d + 5) = nI n) : ∀ i, i ≤ (n - 1 - p) → ∀ (mm : zM) (hp : zMP G A m0 (sDr v d p i) S mm), zV l G (yX7_dropFirst, cX7_dropFirst, 4, none) 3 none (fun m' => zMP G A m0 (sDrop v d p n) S m') 2 [some (.ref (A 0)), some (.int (nI d)), some (.int (nI p)), some (.int (nI (p + i)))] [] mm := by
  refine z_loop ((n - 1 - p)) (fun i hi ih mm hp => ?_)
  refine z_iload_n 3 rfl rfl dX7_dropFirst_2 ?_
  refine z_aload_n 0 rfl rfl dX7_dropFirst_3 ?_
  refine z_iload_n 1 rfl rfl dX7_dropFirst_4 ?_
  refine z_iconst (nI 5) dX7_dropFirst_5 rfl ?_
  refine zM_p2 zm_X7_ofDate (c_X7_ofDate hp _ _ (by omega) (by omega)) hp rfl rfl zl_X7_46 (by decide) (Nat.le_of_ble_eq_true rfl) dX7_dropFirst_6 ?_
  rw [show sDr v d p i (27 + 12 * d + 5) = nI n by rw [sDr, if_neg (by omega), h5]]
  refine z_iconst (nI 1) dX7_dropFirst_9 rfl ?_
  refine z_isubN (by omega) dX7_dropFirst_10 ?_
  refine z_icmp_ge 44 dX7_dropFirst_11 rfl (fun c11 => ?_) (fun c11 => ?_)
  · have e : i = n - 1 - p := by have := (nI_leI (by omega) (by omega)).mp c11; omega
    subst e
    refine z_aload_n 0 rfl rfl dX7_dropFirst_44 ?_
    refine zM_ref 0 1 hp (by decide) rfl (by decide) rfl rfl zf_X7_7 dX7_dropFirst_45 ?_
    refine z_iload_n 1 rfl rfl dX7_dropFirst_48 ?_
    refine z_iconst (nI 5) dX7_dropFirst_49 rfl ?_
    refine z_pS2 zm_X7_dateAt (c_X7_dateAt _ _) rfl zl_X7_39 (by decide) (Nat.le_of_ble_eq_true rfl) dX7_dropFirst_50 ?_
    refine z_dup2 dX7_dropFirst_53 rfl rfl ?_
    refine zM_vld hp (by omega) dX7_dropFirst_54 ?_
    refine z_iconst (nI 1) dX7_dropFirst_55 rfl ?_
    refine z_isub dX7_dropFirst_56 ?_
    refine zM_vst hp (by omega) dX7_dropFirst_57 (fun mm hp => ?_)
    exact z_vret dX7_dropFirst_58 rfl hp
  · have hl : i < n - 1 - p := Nat.lt_of_not_le (fun q => c11 ((nI_leI (by omega) (by omega)).mpr (by omega)))
    refine z_aload_n 0 rfl rfl dX7_dropFirst_14 ?_
    refine zM_ref 0 1 hp (by decide) rfl (by decide) rfl rfl zf_X7_7 dX7_dropFirst_15 ?_
    refine z_iload_n 1 rfl rfl dX7_dropFirst_18 ?_
    refine z_bipush (nI 6) dX7_dropFirst_19 rfl ?_
    refine z_iload_n 3 rfl rfl dX7_dropFirst_21 ?_
    refine z_iaddN dX7_dropFirst_22 ?_
    refine z_pS2 zm_X7_dateAt (c_X7_dateAt _ _) rfl zl_X7_39 (by decide) (Nat.le_of_ble_eq_true rfl) dX7_dropFirst_23 ?_
    refine z_aload_n 0 rfl rfl dX7_dropFirst_26 ?_
    refine z_iload_n 1 rfl rfl dX7_dropFirst_27 ?_
    refine z_bipush (nI 6) dX7_dropFirst_28 rfl ?_
    refine z_iload_n 3 rfl rfl dX7_dropFirst_30 ?_
    refine z_iaddN dX7_dropFirst_31 ?_
    refine z_iconst (nI 1) dX7_dropFirst_32 rfl ?_
    refine z_iaddN dX7_dropFirst_33 ?_
    refine zM_p2 zm_X7_ofDate (c_X7_ofDate hp _ _ (by omega) (by omega)) hp rfl rfl zl_X7_46 (by decide) (Nat.le_of_ble_eq_true rfl) dX7_dropFirst_34 ?_
    refine zM_vst hp (by omega) dX7_dropFirst_37 (fun mm hp => ?_)
    rw [sDr_step] at hp
    refine z_iincN (n := 1) 3 rfl rfl dX7_dropFirst_38 ?_
    refine z_goto 2 dX7_dropFirst_41 rfl ?_
    exact ih hl _ hp
set_option maxRecDepth 4000 in
theorem c_X7_dropFirst {l : Launch} {G : zG} {A : Nat → Nat} {m0 mm : zM} {v : Nat → Int32} {S : Nat → Nat → Int32} (hp : zMP G A m0 v S mm) (d p n : Nat) (hd : d < 10) (hn : n ≤ 6) (hpn : p < n) (h5 : v (27 + 12 * d + 5) = nI n) : zSem l G (yX7_dropFirst, cX7_dropFirst, 4, none) 3 [.ref (A 0), .int (nI d), .int (nI p)] mm none (fun m' => zMP G A m0 (sDrop v d p n) S m') := by
  refine z_met [some (.ref (A 0)), some (.int (nI d)), some (.int (nI p)), none] rfl (zc1 (by rfl)) (Nat.le_of_ble_eq_true rfl) rfl ?_
  refine z_iload_n 2 rfl rfl dX7_dropFirst_0 ?_
  refine z_istore_n 3 rfl (Nat.le_of_ble_eq_true rfl) rfl dX7_dropFirst_1 ?_
  exact l_X7_dropFirst d p n hd hn hpn h5 0 (Nat.zero_le _) mm (by rw [sDr_0]; exact hp)
set_option maxRecDepth 4000 in
theorem l_X7_listBuys {l : Launch} {G : zG} {A : Nat → Nat} {m0 : zM} {S : Nat → Nat → Int32} (d : Nat) : ∀ (n : Nat) (v : Nat → Int32) (mm : zM) (x2 : Option Value), zMP G A m0 v S mm → zK v → d < nD v → v (27 + 12 * d + 5) = nI n → n ≤ 6 → zV l G (yX7_listBuys, cX7_listBuys, 3, none) 7 none (fun m' => zMP G A m0 (sLB d n v) S m') 0 [some (.ref (A 0)), some (.int (nI d)), x2] [] mm := by
  intro n
  induction n with
  | zero =>
    intro v mm x2 hp hK hd h5 hn
    have hd10 := hK.1.2
    refine z_aload_n 0 rfl rfl dX7_listBuys_0 ?_
    refine z_iload_n 1 rfl rfl dX7_listBuys_1 ?_
    refine z_iconst (nI 5) dX7_listBuys_2 rfl ?_
    refine zM_p2 zm_X7_ofDate (c_X7_ofDate hp _ _ (by omega) (by omega)) hp rfl rfl zl_X7_46 (by decide) (Nat.le_of_ble_eq_true rfl) dX7_listBuys_3 ?_
    rw [h5]
    refine z_if_le 41 dX7_listBuys_6 rfl (fun c6 => ?_) (fun c6 => ?_)
    · exact z_vret dX7_listBuys_41 rfl hp
    · exact absurd (by decide) c6
  | succ n ih =>
    intro v mm x2 hp hK hd h5 hn
    have hd10 := hK.1.2
    have hJ := hK.2.1
    have hpl := hK.2.2.2.1 d hd
    refine z_aload_n 0 rfl rfl dX7_listBuys_0 ?_
    refine z_iload_n 1 rfl rfl dX7_listBuys_1 ?_
    refine z_iconst (nI 5) dX7_listBuys_2 rfl ?_
    refine zM_p2 zm_X7_ofDate (c_X7_ofDate hp _ _ (by omega) (by omega)) hp rfl rfl zl_X7_46 (by decide) (Nat.le_of_ble_eq_true rfl) dX7_listBuys_3 ?_
    rw [h5]
    refine z_if_le 41 dX7_listBuys_6 rfl (fun c6 => ?_) (fun c6 => ?_)
    · exact absurd c6 (nI_nle (by omega) (by omega))
    · refine z_aload_n 0 rfl rfl dX7_listBuys_9 ?_
      refine z_iload_n 1 rfl rfl dX7_listBuys_10 ?_
      refine zM_p1 zm_X7_canSell (c_X7_canSell hp _ (by omega) hJ) hp rfl rfl zl_X7_78 (by decide) (Nat.le_of_ble_eq_true rfl) dX7_listBuys_11 ?_
      refine z_if_le 41 dX7_listBuys_14 rfl (fun c14 => ?_) (fun c14 => ?_)
      · have e : ¬ 0 < sCan v d := i_not_lt.mpr c14
        exact z_vret dX7_listBuys_41 rfl (by rw [sLB, if_neg e]; exact hp)
      · have hc := i_not_le.mp c14
        obtain ⟨hR, hop⟩ := sCan_pos hK.2.1 hc
        refine z_aload_n 0 rfl rfl dX7_listBuys_17 ?_
        refine z_iload_n 1 rfl rfl dX7_listBuys_18 ?_
        refine z_bipush (nI 6) dX7_listBuys_19 rfl ?_
        refine zM_p2 zm_X7_ofDate (c_X7_ofDate hp _ _ (by omega) (by omega)) hp rfl rfl zl_X7_46 (by decide) (Nat.le_of_ble_eq_true rfl) dX7_listBuys_21 ?_
        obtain ⟨n9, q1, q2, q3⟩ := hK.2.2.1 d (by omega)
        have en : n9 = n + 1 := (nI_eq (by omega) (by omega)).mp (q2.symm.trans h5)
        subst en
        obtain ⟨h, hh, e6⟩ := q3 0 (by omega)
        have e6 : v (27 + 12 * d + 6) = nI h := e6
        rw [e6]
        refine z_istore_n 2 rfl (Nat.le_of_ble_eq_true rfl) rfl dX7_listBuys_24 ?_
        refine z_aload_n 0 rfl rfl dX7_listBuys_25 ?_
        refine z_iload_n 1 rfl rfl dX7_listBuys_26 ?_
        refine z_iconst (nI 0) dX7_listBuys_27 rfl ?_
        refine zM_v2 zm_X7_dropFirst (c_X7_dropFirst hp _ _ (n + 1) (by omega) (by omega) (by omega) h5) hp rfl rfl zl_X7_81 (by decide) (Nat.le_of_ble_eq_true rfl) dX7_listBuys_28 (fun mm hp => ?_)
        have hK1 := hK.drop (p := 0) (by omega) (by omega) (by omega) h5
        have e2 : sDrop v d 0 (n + 1) 2 = v 2 := sDrop_at (by omega) (by omega) (by omega)
        have eR := nR_of e2
        have e1 : nD (sDrop v d 0 (n + 1)) = nD v := nD_of (sDrop_at (by omega) (by omega) (by omega))
        have hJ := hK1.2.1
        have hpl1 := hK1.2.2.2.1 d (by omega)
        refine z_aload_n 0 rfl rfl dX7_listBuys_31 ?_
        refine z_iload_n 2 rfl rfl dX7_listBuys_32 ?_
        refine z_iload_n 1 rfl rfl dX7_listBuys_33 ?_
        refine zM_u2 zm_X7_sells (c_X7_sells hp _ _ (by omega) (by omega) (by omega) hJ (by assumption)) hp rfl rfl zl_X7_84 (by decide) (Nat.le_of_ble_eq_true rfl) dX7_listBuys_34 (fun mm hp => ?_)
        have hK2 := hK1.sells (d := d) (h := h) (by omega) (by omega) (by omega)
        have h5b : sSells (sDrop v d 0 (n + 1)) h d (27 + 12 * d + 5) = nI n := by rw [sSells_at (by omega) (by omega) (by omega) (by omega) (by omega)]; exact sDrop_5 (by omega) h5
        have e1b : nD (sSells (sDrop v d 0 (n + 1)) h d) = nD v := by rw [← e1]; exact nD_of (sSells_at (by omega) (by omega) (by omega) (by omega) (by omega))
        have e9 : sLB d (n + 1) v = sLB d n (sSells (sDrop v d 0 (n + 1)) h d) := by rw [sLB, if_pos hc, e6, nI_clamp (by omega)]
        rw [e9]
        refine z_pop dX7_listBuys_37 rfl ?_
        refine z_goto 0 dX7_listBuys_38 rfl ?_
        exact ih _ _ _ hp hK2 (by omega) h5b (by omega)
theorem c_X7_listBuys {l : Launch} {G : zG} {A : Nat → Nat} {m0 mm : zM} {v : Nat → Int32} {S : Nat → Nat → Int32} (hp : zMP G A m0 v S mm) (d n : Nat) (hK : zK v) (hd : d < nD v) (h5 : v (27 + 12 * d + 5) = nI n) (hn : n ≤ 6) : zSem l G (yX7_listBuys, cX7_listBuys, 3, none) 7 [.ref (A 0), .int (nI d)] mm none (fun m' => zMP G A m0 (sLB d n v) S m') :=
  z_met [some (.ref (A 0)), some (.int (nI d)), none] rfl (zc1 (by rfl)) (Nat.le_of_ble_eq_true rfl) rfl (l_X7_listBuys d n v mm none hp hK hd h5 hn)
