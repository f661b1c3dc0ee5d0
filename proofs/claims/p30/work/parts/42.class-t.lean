theorem zUs_o {vs : Nat → Nat → Int32} {s q : Nat} {v : Nat → Int32} (h : q ≠ s) : zUs vs s v q = vs q := if_neg h
theorem zUs_s {vs : Nat → Nat → Int32} {s : Nat} {v : Nat → Int32} : zUs vs s v s = v := if_pos rfl
/-- behind an act: with a result that isn't negative the prepared State has come into the past -/
def kAct (G : zG) (Bs : Nat → Nat → Nat) (O : Nat → Nat) (m0 : zM) (π : Nat → Nat) (vs : Nat → Nat → Int32) (hk cn : Int32) (T g : Nat → Int32) (x : Int32) (v' : Nat → Int32) (mm : zM) : Prop :=
  if 0 ≤ x then zDk G Bs O m0 (kRot π) (zUs (zUs vs (π 4) (vs 0)) 0 v') hk (if nI 4 < cn + nI 1 then nI 4 else cn + nI 1) T g mm
  else zDk G Bs O m0 π (zUs (zUs vs (π 4) (vs 0)) 0 v') hk cn T g mm
set_option maxRecDepth 4000 in
theorem c_X6_addDate {l : Launch} {G : zG} {Bs : Nat → Nat → Nat} {O : Nat → Nat} {m0 mm : zM} {π : Nat → Nat} {vs : Nat → Nat → Int32} {hk cn : Int32} {T g : Nat → Int32} (hp : zDk G Bs O m0 π vs hk cn T g mm) (a b c e f : Int32) (hH : zH (vs 0)) (hO : zOp (vs 0)) : zSem l G (yX6_addDate, cX6_addDate, 6, (some .int)) 7 [.ref (O 0), .int a, .int b, .int c, .int e, .int f] mm (some (.int (sAdd (vs 0) a b c e f).1)) (fun m' => kAct G Bs O m0 π vs hk cn T g (sAdd (vs 0) a b c e f).1 ((sAdd (vs 0) a b c e f).2.1) m') := by
  refine z_met [some (.ref (O 0)), some (.int a), some (.int b), some (.int c), some (.int e), some (.int f)] rfl (zc1 (by rfl)) (Nat.le_of_ble_eq_true rfl) rfl ?_
  refine z_aload_n 0 rfl rfl dX6_addDate_0 ?_
  refine zK6_3 hp rfl zf_X6_22 dX6_addDate_1 ?_
  refine z_aload_n 0 rfl rfl dX6_addDate_4 ?_
  refine zK6_0 hp rfl zf_X6_10 dX6_addDate_5 ?_
  refine z_vV1 (ci := 2) zm_X2_prepare (c_X2_prepare hp) rfl zl_X6_33 rfl rfl (by decide) (hp.2.1.2.1 1 (by decide)).1 (hp.2.1.2.1 1 (by decide)).2 (by decide) (Nat.le_of_ble_eq_true rfl) dX6_addDate_8 (fun mm hp => ?_)
  have e0 : zUs vs (π 4) (vs 0) 0 = vs 0 := zUs_o (by have := (hp.2.2.2.2.1 4 (by decide)).1; omega)
  have hq := hp.1 0 (by decide)
  rw [e0] at hq
  refine z_aload_n 0 rfl rfl dX6_addDate_11 ?_
  refine zK6_3 hp rfl zf_X6_22 dX6_addDate_12 ?_
  refine z_aload_n 0 rfl rfl dX6_addDate_15 ?_
  refine zK6_0 hp rfl zf_X6_10 dX6_addDate_16 ?_
  refine z_iload_n 1 rfl rfl dX6_addDate_19 ?_
  refine z_iload_n 2 rfl rfl dX6_addDate_20 ?_
  refine z_iload_n 3 rfl rfl dX6_addDate_21 ?_
  refine z_iload 4 rfl dX6_addDate_22 ?_
  refine z_iload 5 rfl dX6_addDate_24 ?_
  refine z_uV5 (ci := 5) zm_X5_openDate (c_X5_openDate hq a b c e f hH) rfl zl_X6_37 rfl rfl (by decide) ((hp.1 _ (by decide)).at (j := 0) (Or.inl (by decide))).1 ((hp.1 _ (by decide)).at (j := 0) (Or.inl (by decide))).2 (by decide) (Nat.le_of_ble_eq_true rfl) dX6_addDate_26 (fun mm hp2 => ?_)
  have hp := hp.step (s := 0) (by decide) hp2
  by_cases hr : 0 ≤ (sAdd (vs 0) a b c e f).1
  · refine z_uV1 (ci := 2) zm_X2_settle (c_X2_settle hp _ hr) rfl zl_X6_41 rfl rfl (by decide) (hp.2.1.2.1 1 (by decide)).1 (hp.2.1.2.1 1 (by decide)).2 (by decide) (Nat.le_of_ble_eq_true rfl) dX6_addDate_29 (fun mm hp => ?_)
    exact z_iret dX6_addDate_32 rfl (by unfold kAct; first | (rw [if_pos hr]; exact hp) | (rw [if_neg hr]; exact hp))
  · refine z_pV1 (ci := 2) zm_X2_settle (c_X2_settleN hp _ (i_not_le.mp hr)) rfl zl_X6_41 rfl rfl (by decide) (hp.2.1.2.1 1 (by decide)).1 (hp.2.1.2.1 1 (by decide)).2 (by decide) (Nat.le_of_ble_eq_true rfl) dX6_addDate_29 ?_
    exact z_iret dX6_addDate_32 rfl (by unfold kAct; first | (rw [if_pos hr]; exact hp) | (rw [if_neg hr]; exact hp))
set_option maxRecDepth 4000 in
theorem c_X6_setStage {l : Launch} {G : zG} {Bs : Nat → Nat → Nat} {O : Nat → Nat} {m0 mm : zM} {π : Nat → Nat} {vs : Nat → Nat → Int32} {hk cn : Int32} {T g : Nat → Int32} (hp : zDk G Bs O m0 π vs hk cn T g mm) (a b c : Int32) (hH : zH (vs 0)) (hO : zOp (vs 0)) : zSem l G (yX6_setStage, cX6_setStage, 4, (some .int)) 7 [.ref (O 0), .int a, .int b, .int c] mm (some (.int (sSt (vs 0) a b c).1)) (fun m' => kAct G Bs O m0 π vs hk cn T g (sSt (vs 0) a b c).1 ((sSt (vs 0) a b c).2.1) m') := by
  refine z_met [some (.ref (O 0)), some (.int a), some (.int b), some (.int c)] rfl (zc1 (by rfl)) (Nat.le_of_ble_eq_true rfl) rfl ?_
  refine z_aload_n 0 rfl rfl dX6_setStage_0 ?_
  refine zK6_3 hp rfl zf_X6_22 dX6_setStage_1 ?_
  refine z_aload_n 0 rfl rfl dX6_setStage_4 ?_
  refine zK6_0 hp rfl zf_X6_10 dX6_setStage_5 ?_
  refine z_vV1 (ci := 2) zm_X2_prepare (c_X2_prepare hp) rfl zl_X6_33 rfl rfl (by decide) (hp.2.1.2.1 1 (by decide)).1 (hp.2.1.2.1 1 (by decide)).2 (by decide) (Nat.le_of_ble_eq_true rfl) dX6_setStage_8 (fun mm hp => ?_)
  have e0 : zUs vs (π 4) (vs 0) 0 = vs 0 := zUs_o (by have := (hp.2.2.2.2.1 4 (by decide)).1; omega)
  have hq := hp.1 0 (by decide)
  rw [e0] at hq
  refine z_aload_n 0 rfl rfl dX6_setStage_11 ?_
  refine zK6_3 hp rfl zf_X6_22 dX6_setStage_12 ?_
  refine z_aload_n 0 rfl rfl dX6_setStage_15 ?_
  refine zK6_0 hp rfl zf_X6_10 dX6_setStage_16 ?_
  refine z_iload_n 1 rfl rfl dX6_setStage_19 ?_
  refine z_iload_n 2 rfl rfl dX6_setStage_20 ?_
  refine z_iload_n 3 rfl rfl dX6_setStage_21 ?_
  refine z_uV3 (ci := 5) zm_X5_changeStage (c_X5_changeStage hq a b c hH) rfl zl_X6_45 rfl rfl (by decide) ((hp.1 _ (by decide)).at (j := 0) (Or.inl (by decide))).1 ((hp.1 _ (by decide)).at (j := 0) (Or.inl (by decide))).2 (by decide) (Nat.le_of_ble_eq_true rfl) dX6_setStage_22 (fun mm hp2 => ?_)
  have hp := hp.step (s := 0) (by decide) hp2
  by_cases hr : 0 ≤ (sSt (vs 0) a b c).1
  · refine z_uV1 (ci := 2) zm_X2_settle (c_X2_settle hp _ hr) rfl zl_X6_41 rfl rfl (by decide) (hp.2.1.2.1 1 (by decide)).1 (hp.2.1.2.1 1 (by decide)).2 (by decide) (Nat.le_of_ble_eq_true rfl) dX6_setStage_25 (fun mm hp => ?_)
    exact z_iret dX6_setStage_28 rfl (by unfold kAct; first | (rw [if_pos hr]; exact hp) | (rw [if_neg hr]; exact hp))
  · refine z_pV1 (ci := 2) zm_X2_settle (c_X2_settleN hp _ (i_not_le.mp hr)) rfl zl_X6_41 rfl rfl (by decide) (hp.2.1.2.1 1 (by decide)).1 (hp.2.1.2.1 1 (by decide)).2 (by decide) (Nat.le_of_ble_eq_true rfl) dX6_setStage_25 ?_
    exact z_iret dX6_setStage_28 rfl (by unfold kAct; first | (rw [if_pos hr]; exact hp) | (rw [if_neg hr]; exact hp))
set_option maxRecDepth 4000 in
theorem c_X6_set {l : Launch} {G : zG} {Bs : Nat → Nat → Nat} {O : Nat → Nat} {m0 mm : zM} {π : Nat → Nat} {vs : Nat → Nat → Int32} {hk cn : Int32} {T g : Nat → Int32} (hp : zDk G Bs O m0 π vs hk cn T g mm) (a b : Int32) (hH : zH (vs 0)) (hO : zOp (vs 0)) : zSem l G (yX6_set, cX6_set, 3, (some .int)) 7 [.ref (O 0), .int a, .int b] mm (some (.int (sSet (vs 0) a b).1)) (fun m' => kAct G Bs O m0 π vs hk cn T g (sSet (vs 0) a b).1 ((sSet (vs 0) a b).2.1) m') := by
  refine z_met [some (.ref (O 0)), some (.int a), some (.int b)] rfl (zc1 (by rfl)) (Nat.le_of_ble_eq_true rfl) rfl ?_
  refine z_aload_n 0 rfl rfl dX6_set_0 ?_
  refine zK6_3 hp rfl zf_X6_22 dX6_set_1 ?_
  refine z_aload_n 0 rfl rfl dX6_set_4 ?_
  refine zK6_0 hp rfl zf_X6_10 dX6_set_5 ?_
  refine z_vV1 (ci := 2) zm_X2_prepare (c_X2_prepare hp) rfl zl_X6_33 rfl rfl (by decide) (hp.2.1.2.1 1 (by decide)).1 (hp.2.1.2.1 1 (by decide)).2 (by decide) (Nat.le_of_ble_eq_true rfl) dX6_set_8 (fun mm hp => ?_)
  have e0 : zUs vs (π 4) (vs 0) 0 = vs 0 := zUs_o (by have := (hp.2.2.2.2.1 4 (by decide)).1; omega)
  have hq := hp.1 0 (by decide)
  rw [e0] at hq
  refine z_aload_n 0 rfl rfl dX6_set_11 ?_
  refine zK6_3 hp rfl zf_X6_22 dX6_set_12 ?_
  refine z_aload_n 0 rfl rfl dX6_set_15 ?_
  refine zK6_0 hp rfl zf_X6_10 dX6_set_16 ?_
  refine z_iload_n 1 rfl rfl dX6_set_19 ?_
  refine z_iload_n 2 rfl rfl dX6_set_20 ?_
  refine z_uV2 (ci := 5) zm_X5_changeNumber (c_X5_changeNumber hq a b) rfl zl_X6_49 rfl rfl (by decide) ((hp.1 _ (by decide)).at (j := 0) (Or.inl (by decide))).1 ((hp.1 _ (by decide)).at (j := 0) (Or.inl (by decide))).2 (by decide) (Nat.le_of_ble_eq_true rfl) dX6_set_21 (fun mm hp2 => ?_)
  have hp := hp.step (s := 0) (by decide) hp2
  by_cases hr : 0 ≤ (sSet (vs 0) a b).1
  · refine z_uV1 (ci := 2) zm_X2_settle (c_X2_settle hp _ hr) rfl zl_X6_41 rfl rfl (by decide) (hp.2.1.2.1 1 (by decide)).1 (hp.2.1.2.1 1 (by decide)).2 (by decide) (Nat.le_of_ble_eq_true rfl) dX6_set_24 (fun mm hp => ?_)
    exact z_iret dX6_set_27 rfl (by unfold kAct; first | (rw [if_pos hr]; exact hp) | (rw [if_neg hr]; exact hp))
  · refine z_pV1 (ci := 2) zm_X2_settle (c_X2_settleN hp _ (i_not_le.mp hr)) rfl zl_X6_41 rfl rfl (by decide) (hp.2.1.2.1 1 (by decide)).1 (hp.2.1.2.1 1 (by decide)).2 (by decide) (Nat.le_of_ble_eq_true rfl) dX6_set_24 ?_
    exact z_iret dX6_set_27 rfl (by unfold kAct; first | (rw [if_pos hr]; exact hp) | (rw [if_neg hr]; exact hp))
set_option maxRecDepth 4000 in
theorem c_X6_buy {l : Launch} {G : zG} {Bs : Nat → Nat → Nat} {O : Nat → Nat} {m0 mm : zM} {π : Nat → Nat} {vs : Nat → Nat → Int32} {hk cn : Int32} {T g : Nat → Int32} (hp : zDk G Bs O m0 π vs hk cn T g mm) (a b : Int32) (hH : zH (vs 0)) (hO : zOp (vs 0)) : zSem l G (yX6_buy, cX6_buy, 3, (some .int)) 7 [.ref (O 0), .int a, .int b] mm (some (.int (sDoBuy (vs 0) a b).1)) (fun m' => kAct G Bs O m0 π vs hk cn T g (sDoBuy (vs 0) a b).1 ((sDoBuy (vs 0) a b).2) m') := by
  refine z_met [some (.ref (O 0)), some (.int a), some (.int b)] rfl (zc1 (by rfl)) (Nat.le_of_ble_eq_true rfl) rfl ?_
  refine z_aload_n 0 rfl rfl dX6_buy_0 ?_
  refine zK6_3 hp rfl zf_X6_22 dX6_buy_1 ?_
  refine z_aload_n 0 rfl rfl dX6_buy_4 ?_
  refine zK6_0 hp rfl zf_X6_10 dX6_buy_5 ?_
  refine z_vV1 (ci := 2) zm_X2_prepare (c_X2_prepare hp) rfl zl_X6_33 rfl rfl (by decide) (hp.2.1.2.1 1 (by decide)).1 (hp.2.1.2.1 1 (by decide)).2 (by decide) (Nat.le_of_ble_eq_true rfl) dX6_buy_8 (fun mm hp => ?_)
  have e0 : zUs vs (π 4) (vs 0) 0 = vs 0 := zUs_o (by have := (hp.2.2.2.2.1 4 (by decide)).1; omega)
  have hq := hp.1 0 (by decide)
  rw [e0] at hq
  refine z_aload_n 0 rfl rfl dX6_buy_11 ?_
  refine zK6_3 hp rfl zf_X6_22 dX6_buy_12 ?_
  refine z_aload_n 0 rfl rfl dX6_buy_15 ?_
  refine zK6_0 hp rfl zf_X6_10 dX6_buy_16 ?_
  refine z_iload_n 1 rfl rfl dX6_buy_19 ?_
  refine z_iload_n 2 rfl rfl dX6_buy_20 ?_
  refine z_uV2 (ci := 5) zm_X5_sellTo (c_X5_sellTo hq a b hH) rfl zl_X6_53 rfl rfl (by decide) ((hp.1 _ (by decide)).at (j := 0) (Or.inl (by decide))).1 ((hp.1 _ (by decide)).at (j := 0) (Or.inl (by decide))).2 (by decide) (Nat.le_of_ble_eq_true rfl) dX6_buy_21 (fun mm hp2 => ?_)
  have hp := hp.step (s := 0) (by decide) hp2
  by_cases hr : 0 ≤ (sDoBuy (vs 0) a b).1
  · refine z_uV1 (ci := 2) zm_X2_settle (c_X2_settle hp _ hr) rfl zl_X6_41 rfl rfl (by decide) (hp.2.1.2.1 1 (by decide)).1 (hp.2.1.2.1 1 (by decide)).2 (by decide) (Nat.le_of_ble_eq_true rfl) dX6_buy_24 (fun mm hp => ?_)
    exact z_iret dX6_buy_27 rfl (by unfold kAct; first | (rw [if_pos hr]; exact hp) | (rw [if_neg hr]; exact hp))
  · refine z_pV1 (ci := 2) zm_X2_settle (c_X2_settleN hp _ (i_not_le.mp hr)) rfl zl_X6_41 rfl rfl (by decide) (hp.2.1.2.1 1 (by decide)).1 (hp.2.1.2.1 1 (by decide)).2 (by decide) (Nat.le_of_ble_eq_true rfl) dX6_buy_24 ?_
    exact z_iret dX6_buy_27 rfl (by unfold kAct; first | (rw [if_pos hr]; exact hp) | (rw [if_neg hr]; exact hp))
set_option maxRecDepth 4000 in
theorem c_X6_buyOffered {l : Launch} {G : zG} {Bs : Nat → Nat → Nat} {O : Nat → Nat} {m0 mm : zM} {π : Nat → Nat} {vs : Nat → Nat → Int32} {hk cn : Int32} {T g : Nat → Int32} (hp : zDk G Bs O m0 π vs hk cn T g mm) (a b : Int32) (hH : zH (vs 0)) (hO : zOp (vs 0)) : zSem l G (yX6_buyOffered, cX6_buyOffered, 3, (some .int)) 7 [.ref (O 0), .int a, .int b] mm (some (.int (sDoOff (vs 0) a b).1)) (fun m' => kAct G Bs O m0 π vs hk cn T g (sDoOff (vs 0) a b).1 ((sDoOff (vs 0) a b).2) m') := by
  refine z_met [some (.ref (O 0)), some (.int a), some (.int b)] rfl (zc1 (by rfl)) (Nat.le_of_ble_eq_true rfl) rfl ?_
  refine z_aload_n 0 rfl rfl dX6_buyOffered_0 ?_
  refine zK6_3 hp rfl zf_X6_22 dX6_buyOffered_1 ?_
  refine z_aload_n 0 rfl rfl dX6_buyOffered_4 ?_
  refine zK6_0 hp rfl zf_X6_10 dX6_buyOffered_5 ?_
  refine z_vV1 (ci := 2) zm_X2_prepare (c_X2_prepare hp) rfl zl_X6_33 rfl rfl (by decide) (hp.2.1.2.1 1 (by decide)).1 (hp.2.1.2.1 1 (by decide)).2 (by decide) (Nat.le_of_ble_eq_true rfl) dX6_buyOffered_8 (fun mm hp => ?_)
  have e0 : zUs vs (π 4) (vs 0) 0 = vs 0 := zUs_o (by have := (hp.2.2.2.2.1 4 (by decide)).1; omega)
  have hq := hp.1 0 (by decide)
  rw [e0] at hq
  refine z_aload_n 0 rfl rfl dX6_buyOffered_11 ?_
  refine zK6_3 hp rfl zf_X6_22 dX6_buyOffered_12 ?_
  refine z_aload_n 0 rfl rfl dX6_buyOffered_15 ?_
  refine zK6_0 hp rfl zf_X6_10 dX6_buyOffered_16 ?_
  refine z_iload_n 1 rfl rfl dX6_buyOffered_19 ?_
  refine z_iload_n 2 rfl rfl dX6_buyOffered_20 ?_
  refine z_uV2 (ci := 5) zm_X5_resellTo (c_X5_resellTo hq a b hH) rfl zl_X6_56 rfl rfl (by decide) ((hp.1 _ (by decide)).at (j := 0) (Or.inl (by decide))).1 ((hp.1 _ (by decide)).at (j := 0) (Or.inl (by decide))).2 (by decide) (Nat.le_of_ble_eq_true rfl) dX6_buyOffered_21 (fun mm hp2 => ?_)
  have hp := hp.step (s := 0) (by decide) hp2
  by_cases hr : 0 ≤ (sDoOff (vs 0) a b).1
  · refine z_uV1 (ci := 2) zm_X2_settle (c_X2_settle hp _ hr) rfl zl_X6_41 rfl rfl (by decide) (hp.2.1.2.1 1 (by decide)).1 (hp.2.1.2.1 1 (by decide)).2 (by decide) (Nat.le_of_ble_eq_true rfl) dX6_buyOffered_24 (fun mm hp => ?_)
    exact z_iret dX6_buyOffered_27 rfl (by unfold kAct; first | (rw [if_pos hr]; exact hp) | (rw [if_neg hr]; exact hp))
  · refine z_pV1 (ci := 2) zm_X2_settle (c_X2_settleN hp _ (i_not_le.mp hr)) rfl zl_X6_41 rfl rfl (by decide) (hp.2.1.2.1 1 (by decide)).1 (hp.2.1.2.1 1 (by decide)).2 (by decide) (Nat.le_of_ble_eq_true rfl) dX6_buyOffered_24 ?_
    exact z_iret dX6_buyOffered_27 rfl (by unfold kAct; first | (rw [if_pos hr]; exact hp) | (rw [if_neg hr]; exact hp))
set_option maxRecDepth 4000 in
theorem c_X6_cancel {l : Launch} {G : zG} {Bs : Nat → Nat → Nat} {O : Nat → Nat} {m0 mm : zM} {π : Nat → Nat} {vs : Nat → Nat → Int32} {hk cn : Int32} {T g : Nat → Int32} (hp : zDk G Bs O m0 π vs hk cn T g mm) (a : Int32) (hH : zH (vs 0)) (hO : zOp (vs 0)) : zSem l G (yX6_cancel, cX6_cancel, 2, (some .int)) 7 [.ref (O 0), .int a] mm (some (.int (sDoCan (vs 0) a).1)) (fun m' => kAct G Bs O m0 π vs hk cn T g (sDoCan (vs 0) a).1 ((sDoCan (vs 0) a).2) m') := by
  refine z_met [some (.ref (O 0)), some (.int a)] rfl (zc1 (by rfl)) (Nat.le_of_ble_eq_true rfl) rfl ?_
  refine z_aload_n 0 rfl rfl dX6_cancel_0 ?_
  refine zK6_3 hp rfl zf_X6_22 dX6_cancel_1 ?_
  refine z_aload_n 0 rfl rfl dX6_cancel_4 ?_
  refine zK6_0 hp rfl zf_X6_10 dX6_cancel_5 ?_
  refine z_vV1 (ci := 2) zm_X2_prepare (c_X2_prepare hp) rfl zl_X6_33 rfl rfl (by decide) (hp.2.1.2.1 1 (by decide)).1 (hp.2.1.2.1 1 (by decide)).2 (by decide) (Nat.le_of_ble_eq_true rfl) dX6_cancel_8 (fun mm hp => ?_)
  have e0 : zUs vs (π 4) (vs 0) 0 = vs 0 := zUs_o (by have := (hp.2.2.2.2.1 4 (by decide)).1; omega)
  have hq := hp.1 0 (by decide)
  rw [e0] at hq
  refine z_aload_n 0 rfl rfl dX6_cancel_11 ?_
  refine zK6_3 hp rfl zf_X6_22 dX6_cancel_12 ?_
  refine z_aload_n 0 rfl rfl dX6_cancel_15 ?_
  refine zK6_0 hp rfl zf_X6_10 dX6_cancel_16 ?_
  refine z_iload_n 1 rfl rfl dX6_cancel_19 ?_
  refine z_uV1 (ci := 5) zm_X5_cancelRight (c_X5_cancelRight hq a hO hH) rfl zl_X6_59 rfl rfl (by decide) ((hp.1 _ (by decide)).at (j := 0) (Or.inl (by decide))).1 ((hp.1 _ (by decide)).at (j := 0) (Or.inl (by decide))).2 (by decide) (Nat.le_of_ble_eq_true rfl) dX6_cancel_20 (fun mm hp2 => ?_)
  have hp := hp.step (s := 0) (by decide) hp2
  by_cases hr : 0 ≤ (sDoCan (vs 0) a).1
  · refine z_uV1 (ci := 2) zm_X2_settle (c_X2_settle hp _ hr) rfl zl_X6_41 rfl rfl (by decide) (hp.2.1.2.1 1 (by decide)).1 (hp.2.1.2.1 1 (by decide)).2 (by decide) (Nat.le_of_ble_eq_true rfl) dX6_cancel_23 (fun mm hp => ?_)
    exact z_iret dX6_cancel_26 rfl (by unfold kAct; first | (rw [if_pos hr]; exact hp) | (rw [if_neg hr]; exact hp))
  · refine z_pV1 (ci := 2) zm_X2_settle (c_X2_settleN hp _ (i_not_le.mp hr)) rfl zl_X6_41 rfl rfl (by decide) (hp.2.1.2.1 1 (by decide)).1 (hp.2.1.2.1 1 (by decide)).2 (by decide) (Nat.le_of_ble_eq_true rfl) dX6_cancel_23 ?_
    exact z_iret dX6_cancel_26 rfl (by unfold kAct; first | (rw [if_pos hr]; exact hp) | (rw [if_neg hr]; exact hp))
set_option maxRecDepth 4000 in
theorem c_X6_offer {l : Launch} {G : zG} {Bs : Nat → Nat → Nat} {O : Nat → Nat} {m0 mm : zM} {π : Nat → Nat} {vs : Nat → Nat → Int32} {hk cn : Int32} {T g : Nat → Int32} (hp : zDk G Bs O m0 π vs hk cn T g mm) (a b : Int32) (hH : zH (vs 0)) (hO : zOp (vs 0)) : zSem l G (yX6_offer, cX6_offer, 3, (some .int)) 7 [.ref (O 0), .int a, .int b] mm (some (.int (sDoOfr (vs 0) a b).1)) (fun m' => kAct G Bs O m0 π vs hk cn T g (sDoOfr (vs 0) a b).1 ((sDoOfr (vs 0) a b).2) m') := by
  refine z_met [some (.ref (O 0)), some (.int a), some (.int b)] rfl (zc1 (by rfl)) (Nat.le_of_ble_eq_true rfl) rfl ?_
  refine z_aload_n 0 rfl rfl dX6_offer_0 ?_
  refine zK6_3 hp rfl zf_X6_22 dX6_offer_1 ?_
  refine z_aload_n 0 rfl rfl dX6_offer_4 ?_
  refine zK6_0 hp rfl zf_X6_10 dX6_offer_5 ?_
  refine z_vV1 (ci := 2) zm_X2_prepare (c_X2_prepare hp) rfl zl_X6_33 rfl rfl (by decide) (hp.2.1.2.1 1 (by decide)).1 (hp.2.1.2.1 1 (by decide)).2 (by decide) (Nat.le_of_ble_eq_true rfl) dX6_offer_8 (fun mm hp => ?_)
  have e0 : zUs vs (π 4) (vs 0) 0 = vs 0 := zUs_o (by have := (hp.2.2.2.2.1 4 (by decide)).1; omega)
  have hq := hp.1 0 (by decide)
  rw [e0] at hq
  refine z_aload_n 0 rfl rfl dX6_offer_11 ?_
  refine zK6_3 hp rfl zf_X6_22 dX6_offer_12 ?_
  refine z_aload_n 0 rfl rfl dX6_offer_15 ?_
  refine zK6_0 hp rfl zf_X6_10 dX6_offer_16 ?_
  refine z_iload_n 1 rfl rfl dX6_offer_19 ?_
  refine z_iload_n 2 rfl rfl dX6_offer_20 ?_
  refine z_uV2 (ci := 5) zm_X5_offerRight (c_X5_offerRight hq a b hH) rfl zl_X6_62 rfl rfl (by decide) ((hp.1 _ (by decide)).at (j := 0) (Or.inl (by decide))).1 ((hp.1 _ (by decide)).at (j := 0) (Or.inl (by decide))).2 (by decide) (Nat.le_of_ble_eq_true rfl) dX6_offer_21 (fun mm hp2 => ?_)
  have hp := hp.step (s := 0) (by decide) hp2
  by_cases hr : 0 ≤ (sDoOfr (vs 0) a b).1
  · refine z_uV1 (ci := 2) zm_X2_settle (c_X2_settle hp _ hr) rfl zl_X6_41 rfl rfl (by decide) (hp.2.1.2.1 1 (by decide)).1 (hp.2.1.2.1 1 (by decide)).2 (by decide) (Nat.le_of_ble_eq_true rfl) dX6_offer_24 (fun mm hp => ?_)
    exact z_iret dX6_offer_27 rfl (by unfold kAct; first | (rw [if_pos hr]; exact hp) | (rw [if_neg hr]; exact hp))
  · refine z_pV1 (ci := 2) zm_X2_settle (c_X2_settleN hp _ (i_not_le.mp hr)) rfl zl_X6_41 rfl rfl (by decide) (hp.2.1.2.1 1 (by decide)).1 (hp.2.1.2.1 1 (by decide)).2 (by decide) (Nat.le_of_ble_eq_true rfl) dX6_offer_24 ?_
    exact z_iret dX6_offer_27 rfl (by unfold kAct; first | (rw [if_pos hr]; exact hp) | (rw [if_neg hr]; exact hp))
set_option maxRecDepth 4000 in
theorem c_X6_takeBack {l : Launch} {G : zG} {Bs : Nat → Nat → Nat} {O : Nat → Nat} {m0 mm : zM} {π : Nat → Nat} {vs : Nat → Nat → Int32} {hk cn : Int32} {T g : Nat → Int32} (hp : zDk G Bs O m0 π vs hk cn T g mm) (a : Int32) (hH : zH (vs 0)) (hO : zOp (vs 0)) : zSem l G (yX6_takeBack, cX6_takeBack, 2, (some .int)) 7 [.ref (O 0), .int a] mm (some (.int (sTk (vs 0) a).1)) (fun m' => kAct G Bs O m0 π vs hk cn T g (sTk (vs 0) a).1 ((sTk (vs 0) a).2.1) m') := by
  refine z_met [some (.ref (O 0)), some (.int a)] rfl (zc1 (by rfl)) (Nat.le_of_ble_eq_true rfl) rfl ?_
  refine z_aload_n 0 rfl rfl dX6_takeBack_0 ?_
  refine zK6_3 hp rfl zf_X6_22 dX6_takeBack_1 ?_
  refine z_aload_n 0 rfl rfl dX6_takeBack_4 ?_
  refine zK6_0 hp rfl zf_X6_10 dX6_takeBack_5 ?_
  refine z_vV1 (ci := 2) zm_X2_prepare (c_X2_prepare hp) rfl zl_X6_33 rfl rfl (by decide) (hp.2.1.2.1 1 (by decide)).1 (hp.2.1.2.1 1 (by decide)).2 (by decide) (Nat.le_of_ble_eq_true rfl) dX6_takeBack_8 (fun mm hp => ?_)
  have e0 : zUs vs (π 4) (vs 0) 0 = vs 0 := zUs_o (by have := (hp.2.2.2.2.1 4 (by decide)).1; omega)
  have hq := hp.1 0 (by decide)
  rw [e0] at hq
  refine z_aload_n 0 rfl rfl dX6_takeBack_11 ?_
  refine zK6_3 hp rfl zf_X6_22 dX6_takeBack_12 ?_
  refine z_aload_n 0 rfl rfl dX6_takeBack_15 ?_
  refine zK6_0 hp rfl zf_X6_10 dX6_takeBack_16 ?_
  refine z_iload_n 1 rfl rfl dX6_takeBack_19 ?_
  refine z_uV1 (ci := 5) zm_X5_withdrawOffer (c_X5_withdrawOffer hq a hH) rfl zl_X6_65 rfl rfl (by decide) ((hp.1 _ (by decide)).at (j := 0) (Or.inl (by decide))).1 ((hp.1 _ (by decide)).at (j := 0) (Or.inl (by decide))).2 (by decide) (Nat.le_of_ble_eq_true rfl) dX6_takeBack_20 (fun mm hp2 => ?_)
  have hp := hp.step (s := 0) (by decide) hp2
  by_cases hr : 0 ≤ (sTk (vs 0) a).1
  · refine z_uV1 (ci := 2) zm_X2_settle (c_X2_settle hp _ hr) rfl zl_X6_41 rfl rfl (by decide) (hp.2.1.2.1 1 (by decide)).1 (hp.2.1.2.1 1 (by decide)).2 (by decide) (Nat.le_of_ble_eq_true rfl) dX6_takeBack_23 (fun mm hp => ?_)
    exact z_iret dX6_takeBack_26 rfl (by unfold kAct; first | (rw [if_pos hr]; exact hp) | (rw [if_neg hr]; exact hp))
  · refine z_pV1 (ci := 2) zm_X2_settle (c_X2_settleN hp _ (i_not_le.mp hr)) rfl zl_X6_41 rfl rfl (by decide) (hp.2.1.2.1 1 (by decide)).1 (hp.2.1.2.1 1 (by decide)).2 (by decide) (Nat.le_of_ble_eq_true rfl) dX6_takeBack_23 ?_
    exact z_iret dX6_takeBack_26 rfl (by unfold kAct; first | (rw [if_pos hr]; exact hp) | (rw [if_neg hr]; exact hp))
set_option maxRecDepth 4000 in
theorem c_X6_exercise {l : Launch} {G : zG} {Bs : Nat → Nat → Nat} {O : Nat → Nat} {m0 mm : zM} {π : Nat → Nat} {vs : Nat → Nat → Int32} {hk cn : Int32} {T g : Nat → Int32} (hp : zDk G Bs O m0 π vs hk cn T g mm) (a : Int32) (hH : zH (vs 0)) (hO : zOp (vs 0)) : zSem l G (yX6_exercise, cX6_exercise, 2, (some .int)) 7 [.ref (O 0), .int a] mm (some (.int (sDoEx (vs 0) a).1)) (fun m' => kAct G Bs O m0 π vs hk cn T g (sDoEx (vs 0) a).1 ((sDoEx (vs 0) a).2) m') := by
  refine z_met [some (.ref (O 0)), some (.int a)] rfl (zc1 (by rfl)) (Nat.le_of_ble_eq_true rfl) rfl ?_
  refine z_aload_n 0 rfl rfl dX6_exercise_0 ?_
  refine zK6_3 hp rfl zf_X6_22 dX6_exercise_1 ?_
  refine z_aload_n 0 rfl rfl dX6_exercise_4 ?_
  refine zK6_0 hp rfl zf_X6_10 dX6_exercise_5 ?_
  refine z_vV1 (ci := 2) zm_X2_prepare (c_X2_prepare hp) rfl zl_X6_33 rfl rfl (by decide) (hp.2.1.2.1 1 (by decide)).1 (hp.2.1.2.1 1 (by decide)).2 (by decide) (Nat.le_of_ble_eq_true rfl) dX6_exercise_8 (fun mm hp => ?_)
  have e0 : zUs vs (π 4) (vs 0) 0 = vs 0 := zUs_o (by have := (hp.2.2.2.2.1 4 (by decide)).1; omega)
  have hq := hp.1 0 (by decide)
  rw [e0] at hq
  refine z_aload_n 0 rfl rfl dX6_exercise_11 ?_
  refine zK6_3 hp rfl zf_X6_22 dX6_exercise_12 ?_
  refine z_aload_n 0 rfl rfl dX6_exercise_15 ?_
  refine zK6_0 hp rfl zf_X6_10 dX6_exercise_16 ?_
  refine z_iload_n 1 rfl rfl dX6_exercise_19 ?_
  refine z_uV1 (ci := 5) zm_X5_exerciseRight (c_X5_exerciseRight hq a hH) rfl zl_X6_68 rfl rfl (by decide) ((hp.1 _ (by decide)).at (j := 0) (Or.inl (by decide))).1 ((hp.1 _ (by decide)).at (j := 0) (Or.inl (by decide))).2 (by decide) (Nat.le_of_ble_eq_true rfl) dX6_exercise_20 (fun mm hp2 => ?_)
  have hp := hp.step (s := 0) (by decide) hp2
  by_cases hr : 0 ≤ (sDoEx (vs 0) a).1
  · refine z_uV1 (ci := 2) zm_X2_settle (c_X2_settle hp _ hr) rfl zl_X6_41 rfl rfl (by decide) (hp.2.1.2.1 1 (by decide)).1 (hp.2.1.2.1 1 (by decide)).2 (by decide) (Nat.le_of_ble_eq_true rfl) dX6_exercise_23 (fun mm hp => ?_)
    exact z_iret dX6_exercise_26 rfl (by unfold kAct; first | (rw [if_pos hr]; exact hp) | (rw [if_neg hr]; exact hp))
  · refine z_pV1 (ci := 2) zm_X2_settle (c_X2_settleN hp _ (i_not_le.mp hr)) rfl zl_X6_41 rfl rfl (by decide) (hp.2.1.2.1 1 (by decide)).1 (hp.2.1.2.1 1 (by decide)).2 (by decide) (Nat.le_of_ble_eq_true rfl) dX6_exercise_23 ?_
    exact z_iret dX6_exercise_26 rfl (by unfold kAct; first | (rw [if_pos hr]; exact hp) | (rw [if_neg hr]; exact hp))
set_option maxRecDepth 4000 in
theorem c_X6_await {l : Launch} {G : zG} {Bs : Nat → Nat → Nat} {O : Nat → Nat} {m0 mm : zM} {π : Nat → Nat} {vs : Nat → Nat → Int32} {hk cn : Int32} {T g : Nat → Int32} (hp : zDk G Bs O m0 π vs hk cn T g mm) (a b : Int32) (hH : zH (vs 0)) (hO : zOp (vs 0)) : zSem l G (yX6_await, cX6_await, 3, (some .int)) 7 [.ref (O 0), .int a, .int b] mm (some (.int (sAw (vs 0) a b).1)) (fun m' => kAct G Bs O m0 π vs hk cn T g (sAw (vs 0) a b).1 ((sAw (vs 0) a b).2.1) m') := by
  refine z_met [some (.ref (O 0)), some (.int a), some (.int b)] rfl (zc1 (by rfl)) (Nat.le_of_ble_eq_true rfl) rfl ?_
  refine z_aload_n 0 rfl rfl dX6_await_0 ?_
  refine zK6_3 hp rfl zf_X6_22 dX6_await_1 ?_
  refine z_aload_n 0 rfl rfl dX6_await_4 ?_
  refine zK6_0 hp rfl zf_X6_10 dX6_await_5 ?_
  refine z_vV1 (ci := 2) zm_X2_prepare (c_X2_prepare hp) rfl zl_X6_33 rfl rfl (by decide) (hp.2.1.2.1 1 (by decide)).1 (hp.2.1.2.1 1 (by decide)).2 (by decide) (Nat.le_of_ble_eq_true rfl) dX6_await_8 (fun mm hp => ?_)
  have e0 : zUs vs (π 4) (vs 0) 0 = vs 0 := zUs_o (by have := (hp.2.2.2.2.1 4 (by decide)).1; omega)
  have hq := hp.1 0 (by decide)
  rw [e0] at hq
  refine z_aload_n 0 rfl rfl dX6_await_11 ?_
  refine zK6_3 hp rfl zf_X6_22 dX6_await_12 ?_
  refine z_aload_n 0 rfl rfl dX6_await_15 ?_
  refine zK6_0 hp rfl zf_X6_10 dX6_await_16 ?_
  refine z_iload_n 1 rfl rfl dX6_await_19 ?_
  refine z_iload_n 2 rfl rfl dX6_await_20 ?_
  refine z_uV2 (ci := 5) zm_X5_joinList (c_X5_joinList hq a b hH) rfl zl_X6_71 rfl rfl (by decide) ((hp.1 _ (by decide)).at (j := 0) (Or.inl (by decide))).1 ((hp.1 _ (by decide)).at (j := 0) (Or.inl (by decide))).2 (by decide) (Nat.le_of_ble_eq_true rfl) dX6_await_21 (fun mm hp2 => ?_)
  have hp := hp.step (s := 0) (by decide) hp2
  by_cases hr : 0 ≤ (sAw (vs 0) a b).1
  · refine z_uV1 (ci := 2) zm_X2_settle (c_X2_settle hp _ hr) rfl zl_X6_41 rfl rfl (by decide) (hp.2.1.2.1 1 (by decide)).1 (hp.2.1.2.1 1 (by decide)).2 (by decide) (Nat.le_of_ble_eq_true rfl) dX6_await_24 (fun mm hp => ?_)
    exact z_iret dX6_await_27 rfl (by unfold kAct; first | (rw [if_pos hr]; exact hp) | (rw [if_neg hr]; exact hp))
  · refine z_pV1 (ci := 2) zm_X2_settle (c_X2_settleN hp _ (i_not_le.mp hr)) rfl zl_X6_41 rfl rfl (by decide) (hp.2.1.2.1 1 (by decide)).1 (hp.2.1.2.1 1 (by decide)).2 (by decide) (Nat.le_of_ble_eq_true rfl) dX6_await_24 ?_
    exact z_iret dX6_await_27 rfl (by unfold kAct; first | (rw [if_pos hr]; exact hp) | (rw [if_neg hr]; exact hp))
set_option maxRecDepth 4000 in
theorem c_X6_leave {l : Launch} {G : zG} {Bs : Nat → Nat → Nat} {O : Nat → Nat} {m0 mm : zM} {π : Nat → Nat} {vs : Nat → Nat → Int32} {hk cn : Int32} {T g : Nat → Int32} (hp : zDk G Bs O m0 π vs hk cn T g mm) (a b : Int32) (hH : zH (vs 0)) (hO : zOp (vs 0)) : zSem l G (yX6_leave, cX6_leave, 3, (some .int)) 7 [.ref (O 0), .int a, .int b] mm (some (.int (sLv (vs 0) a b).1)) (fun m' => kAct G Bs O m0 π vs hk cn T g (sLv (vs 0) a b).1 ((sLv (vs 0) a b).2.1) m') := by
  refine z_met [some (.ref (O 0)), some (.int a), some (.int b)] rfl (zc1 (by rfl)) (Nat.le_of_ble_eq_true rfl) rfl ?_
  refine z_aload_n 0 rfl rfl dX6_leave_0 ?_
  refine zK6_3 hp rfl zf_X6_22 dX6_leave_1 ?_
  refine z_aload_n 0 rfl rfl dX6_leave_4 ?_
  refine zK6_0 hp rfl zf_X6_10 dX6_leave_5 ?_
  refine z_vV1 (ci := 2) zm_X2_prepare (c_X2_prepare hp) rfl zl_X6_33 rfl rfl (by decide) (hp.2.1.2.1 1 (by decide)).1 (hp.2.1.2.1 1 (by decide)).2 (by decide) (Nat.le_of_ble_eq_true rfl) dX6_leave_8 (fun mm hp => ?_)
  have e0 : zUs vs (π 4) (vs 0) 0 = vs 0 := zUs_o (by have := (hp.2.2.2.2.1 4 (by decide)).1; omega)
  have hq := hp.1 0 (by decide)
  rw [e0] at hq
  refine z_aload_n 0 rfl rfl dX6_leave_11 ?_
  refine zK6_3 hp rfl zf_X6_22 dX6_leave_12 ?_
  refine z_aload_n 0 rfl rfl dX6_leave_15 ?_
  refine zK6_0 hp rfl zf_X6_10 dX6_leave_16 ?_
  refine z_iload_n 1 rfl rfl dX6_leave_19 ?_
  refine z_iload_n 2 rfl rfl dX6_leave_20 ?_
  refine z_uV2 (ci := 5) zm_X5_quitList (c_X5_quitList hq a b hH) rfl zl_X6_74 rfl rfl (by decide) ((hp.1 _ (by decide)).at (j := 0) (Or.inl (by decide))).1 ((hp.1 _ (by decide)).at (j := 0) (Or.inl (by decide))).2 (by decide) (Nat.le_of_ble_eq_true rfl) dX6_leave_21 (fun mm hp2 => ?_)
  have hp := hp.step (s := 0) (by decide) hp2
  by_cases hr : 0 ≤ (sLv (vs 0) a b).1
  · refine z_uV1 (ci := 2) zm_X2_settle (c_X2_settle hp _ hr) rfl zl_X6_41 rfl rfl (by decide) (hp.2.1.2.1 1 (by decide)).1 (hp.2.1.2.1 1 (by decide)).2 (by decide) (Nat.le_of_ble_eq_true rfl) dX6_leave_24 (fun mm hp => ?_)
    exact z_iret dX6_leave_27 rfl (by unfold kAct; first | (rw [if_pos hr]; exact hp) | (rw [if_neg hr]; exact hp))
  · refine z_pV1 (ci := 2) zm_X2_settle (c_X2_settleN hp _ (i_not_le.mp hr)) rfl zl_X6_41 rfl rfl (by decide) (hp.2.1.2.1 1 (by decide)).1 (hp.2.1.2.1 1 (by decide)).2 (by decide) (Nat.le_of_ble_eq_true rfl) dX6_leave_24 ?_
    exact z_iret dX6_leave_27 rfl (by unfold kAct; first | (rw [if_pos hr]; exact hp) | (rw [if_neg hr]; exact hp))
set_option maxRecDepth 4000 in
theorem c_X6_pass {l : Launch} {G : zG} {Bs : Nat → Nat → Nat} {O : Nat → Nat} {m0 mm : zM} {π : Nat → Nat} {vs : Nat → Nat → Int32} {hk cn : Int32} {T g : Nat → Int32} (hp : zDk G Bs O m0 π vs hk cn T g mm) (a : Int32) (hH : zH (vs 0)) (hO : zOp (vs 0)) : zSem l G (yX6_pass, cX6_pass, 2, (some .int)) 7 [.ref (O 0), .int a] mm (some (.int (sPass (vs 0) a).1)) (fun m' => kAct G Bs O m0 π vs hk cn T g (sPass (vs 0) a).1 ((sPass (vs 0) a).2.1) m') := by
  refine z_met [some (.ref (O 0)), some (.int a)] rfl (zc1 (by rfl)) (Nat.le_of_ble_eq_true rfl) rfl ?_
  refine z_aload_n 0 rfl rfl dX6_pass_0 ?_
  refine zK6_3 hp rfl zf_X6_22 dX6_pass_1 ?_
  refine z_aload_n 0 rfl rfl dX6_pass_4 ?_
  refine zK6_0 hp rfl zf_X6_10 dX6_pass_5 ?_
  refine z_vV1 (ci := 2) zm_X2_prepare (c_X2_prepare hp) rfl zl_X6_33 rfl rfl (by decide) (hp.2.1.2.1 1 (by decide)).1 (hp.2.1.2.1 1 (by decide)).2 (by decide) (Nat.le_of_ble_eq_true rfl) dX6_pass_8 (fun mm hp => ?_)
  have e0 : zUs vs (π 4) (vs 0) 0 = vs 0 := zUs_o (by have := (hp.2.2.2.2.1 4 (by decide)).1; omega)
  have hq := hp.1 0 (by decide)
  rw [e0] at hq
  refine z_aload_n 0 rfl rfl dX6_pass_11 ?_
  refine zK6_3 hp rfl zf_X6_22 dX6_pass_12 ?_
  refine z_aload_n 0 rfl rfl dX6_pass_15 ?_
  refine zK6_0 hp rfl zf_X6_10 dX6_pass_16 ?_
  refine z_iload_n 1 rfl rfl dX6_pass_19 ?_
  refine z_uV1 (ci := 5) zm_X5_passDays (c_X5_passDays hq a hH hO) rfl zl_X6_77 rfl rfl (by decide) ((hp.1 _ (by decide)).at (j := 0) (Or.inl (by decide))).1 ((hp.1 _ (by decide)).at (j := 0) (Or.inl (by decide))).2 (by decide) (Nat.le_of_ble_eq_true rfl) dX6_pass_20 (fun mm hp2 => ?_)
  have hp := hp.step (s := 0) (by decide) hp2
  by_cases hr : 0 ≤ (sPass (vs 0) a).1
  · refine z_uV1 (ci := 2) zm_X2_settle (c_X2_settle hp _ hr) rfl zl_X6_41 rfl rfl (by decide) (hp.2.1.2.1 1 (by decide)).1 (hp.2.1.2.1 1 (by decide)).2 (by decide) (Nat.le_of_ble_eq_true rfl) dX6_pass_23 (fun mm hp => ?_)
    exact z_iret dX6_pass_26 rfl (by unfold kAct; first | (rw [if_pos hr]; exact hp) | (rw [if_neg hr]; exact hp))
  · refine z_pV1 (ci := 2) zm_X2_settle (c_X2_settleN hp _ (i_not_le.mp hr)) rfl zl_X6_41 rfl rfl (by decide) (hp.2.1.2.1 1 (by decide)).1 (hp.2.1.2.1 1 (by decide)).2 (by decide) (Nat.le_of_ble_eq_true rfl) dX6_pass_23 ?_
    exact z_iret dX6_pass_26 rfl (by unfold kAct; first | (rw [if_pos hr]; exact hp) | (rw [if_neg hr]; exact hp))
