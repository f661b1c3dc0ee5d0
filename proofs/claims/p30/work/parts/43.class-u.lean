set_option maxRecDepth 4000 in
theorem c_X6_keep {l : Launch} {G : zG} {Bs : Nat → Nat → Nat} {O : Nat → Nat} {m0 mm : zM} {π : Nat → Nat} {vs : Nat → Nat → Int32} {hk cn : Int32} {T g : Nat → Int32} (hp : zDk G Bs O m0 π vs hk cn T g mm) : zSem l G (yX6_keep, cX6_keep, 1, (some .int)) 4 [.ref (O 0)] mm (some (.int (vs 0 0))) (fun m' => zDk G Bs O m0 π (zUs vs 1 (vs 0)) 1 cn T g m') := by
  refine z_met [some (.ref (O 0))] rfl (zc1 (by rfl)) (Nat.le_of_ble_eq_true rfl) rfl ?_
  refine z_aload_n 0 rfl rfl dX6_keep_0 ?_
  refine zK6_1 hp rfl zf_X6_16 dX6_keep_1 ?_
  refine z_aload_n 0 rfl rfl dX6_keep_4 ?_
  refine zK6_0 hp rfl zf_X6_10 dX6_keep_5 ?_
  refine z_vV1 (ci := 5) zm_X5_copyFrom (hp.copy (s := 1) (q := 0) (by decide) (by decide) (by decide)) rfl zl_X6_100 rfl rfl (by decide) ((hp.1 _ (by decide)).at (j := 0) (Or.inl (by decide))).1 ((hp.1 _ (by decide)).at (j := 0) (Or.inl (by decide))).2 (by decide) (Nat.le_of_ble_eq_true rfl) dX6_keep_8 (fun mm hp => ?_)
  refine z_aload_n 0 rfl rfl dX6_keep_11 ?_
  refine z_iconst (nI 1) dX6_keep_12 rfl ?_
  refine zK6_p2 hp rfl zf_X6_111 dX6_keep_13 (fun mm hp => ?_)
  refine z_aload_n 0 rfl rfl dX6_keep_16 ?_
  refine zK6_0 hp rfl zf_X6_10 dX6_keep_17 ?_
  refine zC_S0 (hp.1 0 (by decide)) rfl zf_X6_115 dX6_keep_20 ?_
  exact z_iret dX6_keep_23 (by rw [show zUs vs 1 (vs 0) 0 = vs 0 from zUs_o (by decide)]) hp
set_option maxRecDepth 4000 in
theorem c_X6_restore {l : Launch} {G : zG} {Bs : Nat → Nat → Nat} {O : Nat → Nat} {m0 mm : zM} {π : Nat → Nat} {vs : Nat → Nat → Int32} {hk cn : Int32} {T g : Nat → Int32} (hp : zDk G Bs O m0 π vs hk cn T g mm) (hx : ¬ hk = 0) (h1 : 0 ≤ vs 1 0) : zSem l G (yX6_restore, cX6_restore, 1, (some .int)) 7 [.ref (O 0)] mm (some (.int (vs 1 0))) (fun m' => kAct G Bs O m0 π vs hk cn T g (vs 1 0) (vs 1) m') := by
  refine z_met [some (.ref (O 0))] rfl (zc1 (by rfl)) (Nat.le_of_ble_eq_true rfl) rfl ?_
  refine z_aload_n 0 rfl rfl dX6_restore_0 ?_
  refine zK6_2 hp rfl zf_X6_111 dX6_restore_1 ?_
  refine z_if_ne 10 dX6_restore_4 rfl (fun c4 => ?_) (fun c4 => ?_)
  · refine z_aload_n 0 rfl rfl dX6_restore_10 ?_
    refine zK6_3 hp rfl zf_X6_22 dX6_restore_11 ?_
    refine z_aload_n 0 rfl rfl dX6_restore_14 ?_
    refine zK6_0 hp rfl zf_X6_10 dX6_restore_15 ?_
    refine z_vV1 (ci := 2) zm_X2_prepare (c_X2_prepare hp) rfl zl_X6_33 rfl rfl (by decide) (hp.2.1.2.1 1 (by decide)).1 (hp.2.1.2.1 1 (by decide)).2 (by decide) (Nat.le_of_ble_eq_true rfl) dX6_restore_18 (fun mm hp => ?_)
    have e1 : zUs vs (π 4) (vs 0) 1 = vs 1 := zUs_o (by have := (hp.2.2.2.2.1 4 (by decide)).1; omega)
    refine z_aload_n 0 rfl rfl dX6_restore_21 ?_
    refine zK6_0 hp rfl zf_X6_10 dX6_restore_22 ?_
    refine z_aload_n 0 rfl rfl dX6_restore_25 ?_
    refine zK6_1 hp rfl zf_X6_16 dX6_restore_26 ?_
    refine z_vV1 (ci := 5) zm_X5_copyFrom (hp.copy (s := 0) (q := 1) (by decide) (by decide) (by decide)) rfl zl_X6_100 rfl rfl (by decide) ((hp.1 _ (by decide)).at (j := 0) (Or.inl (by decide))).1 ((hp.1 _ (by decide)).at (j := 0) (Or.inl (by decide))).2 (by decide) (Nat.le_of_ble_eq_true rfl) dX6_restore_29 (fun mm hp => ?_)
    rw [e1] at hp
    refine z_aload_n 0 rfl rfl dX6_restore_32 ?_
    refine zK6_3 hp rfl zf_X6_22 dX6_restore_33 ?_
    refine z_aload_n 0 rfl rfl dX6_restore_36 ?_
    refine zK6_0 hp rfl zf_X6_10 dX6_restore_37 ?_
    refine zC_S0 (hp.1 0 (by decide)) rfl zf_X6_115 dX6_restore_40 ?_
    refine z_uV1 (ci := 2) zm_X2_settle (c_X2_settle hp _ (by rw [zUs_s]; exact h1)) rfl zl_X6_41 rfl rfl (by decide) (hp.2.1.2.1 1 (by decide)).1 (hp.2.1.2.1 1 (by decide)).2 (by decide) (Nat.le_of_ble_eq_true rfl) dX6_restore_43 (fun mm hp => ?_)
    exact z_iret dX6_restore_46 (by rw [zUs_s]) (by unfold kAct; rw [if_pos h1]; exact hp)
  · exact absurd c4 hx
set_option maxRecDepth 4000 in
theorem c_X6_undoN {l : Launch} {G : zG} {Bs : Nat → Nat → Nat} {O : Nat → Nat} {m0 mm : zM} {π : Nat → Nat} {vs : Nat → Nat → Int32} {hk cn : Int32} {T g : Nat → Int32} (hp : zDk G Bs O m0 π vs hk cn T g mm) (hx : cn = 0) : zSem l G (yX6_undo, cX6_undo, 2, (some .int)) 4 [.ref (O 0)] mm (some (.int (-5))) (fun m' => m' = mm) := by
  refine z_met [some (.ref (O 0)), none] rfl (zc1 (by rfl)) (Nat.le_of_ble_eq_true rfl) rfl ?_
  refine z_aload_n 0 rfl rfl dX6_undo_0 ?_
  refine zK6_3 hp rfl zf_X6_22 dX6_undo_1 ?_
  refine z_pV0 (ci := 2) zm_X2_takeLatest (c_X2_takeLatestN hp hx) rfl zl_X6_103 rfl rfl (by decide) (hp.2.1.2.1 1 (by decide)).1 (hp.2.1.2.1 1 (by decide)).2 (by decide) (Nat.le_of_ble_eq_true rfl) dX6_undo_4 ?_
  refine z_astore_nN 1 rfl (Nat.le_of_ble_eq_true rfl) rfl dX6_undo_7 ?_
  refine z_aload_nN 1 rfl rfl dX6_undo_8 ?_
  refine z_ifnonnullN dX6_undo_9 ?_
  refine z_bipush (-5) dX6_undo_12 (by decide) ?_
  exact z_iret dX6_undo_14 rfl rfl
set_option maxRecDepth 4000 in
theorem c_X6_undo {l : Launch} {G : zG} {Bs : Nat → Nat → Nat} {O : Nat → Nat} {m0 mm : zM} {π : Nat → Nat} {vs : Nat → Nat → Int32} {hk cn : Int32} {T g : Nat → Int32} (hp : zDk G Bs O m0 π vs hk cn T g mm) (hx : ¬ cn = 0) : zSem l G (yX6_undo, cX6_undo, 2, (some .int)) 4 [.ref (O 0)] mm (some (.int (cn - nI 1))) (fun m' => zDk G Bs O m0 (kUnr π) (zUs vs 0 (vs (π 0))) hk (cn - nI 1) T g m') := by
  have hpi := hp.2.2.2.2.1
  refine z_met [some (.ref (O 0)), none] rfl (zc1 (by rfl)) (Nat.le_of_ble_eq_true rfl) rfl ?_
  refine z_aload_n 0 rfl rfl dX6_undo_0 ?_
  refine zK6_3 hp rfl zf_X6_22 dX6_undo_1 ?_
  refine z_uV0 (ci := 2) zm_X2_takeLatest (c_X2_takeLatest hp hx) rfl zl_X6_103 rfl rfl (by decide) (hp.2.1.2.1 1 (by decide)).1 (hp.2.1.2.1 1 (by decide)).2 (by decide) (Nat.le_of_ble_eq_true rfl) dX6_undo_4 (fun mm hp => ?_)
  refine z_astore_n 1 rfl (Nat.le_of_ble_eq_true rfl) rfl dX6_undo_7 ?_
  refine z_aload_n 1 rfl rfl dX6_undo_8 ?_
  refine z_ifnonnull 15 dX6_undo_9 rfl ?_
  refine z_aload_n 0 rfl rfl dX6_undo_15 ?_
  refine zK6_0 hp rfl zf_X6_10 dX6_undo_16 ?_
  refine z_aload_n 1 rfl rfl dX6_undo_19 ?_
  refine z_vV1 (ci := 5) zm_X5_copyFrom (hp.copy (s := 0) (q := π 0) (by decide) (hpi 0 (by decide)).2 (by have := (hpi 0 (by decide)).1; omega)) rfl zl_X6_100 rfl rfl (by decide) ((hp.1 _ (by decide)).at (j := 0) (Or.inl (by decide))).1 ((hp.1 _ (by decide)).at (j := 0) (Or.inl (by decide))).2 (by decide) (Nat.le_of_ble_eq_true rfl) dX6_undo_20 (fun mm hp => ?_)
  refine z_aload_n 0 rfl rfl dX6_undo_23 ?_
  refine zK6_3 hp rfl zf_X6_22 dX6_undo_24 ?_
  refine zK2_1 hp rfl zf_X6_107 dX6_undo_27 ?_
  exact z_iret dX6_undo_30 rfl hp
