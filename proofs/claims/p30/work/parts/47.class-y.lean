theorem zUs_self {vs : Nat → Nat → Int32} {s : Nat} : zUs vs s (vs s) = vs := by
  funext a
  unfold zUs
  by_cases e : a = s
  · subst e; rw [if_pos rfl]
  · rw [if_neg e]
theorem zUs_uu {vs : Nat → Nat → Int32} {s : Nat} {v w : Nat → Int32} : zUs (zUs vs s v) s w = zUs vs s w := by
  funext a
  unfold zUs
  by_cases e : a = s
  · rw [if_pos e, if_pos e]
  · rw [if_neg e, if_neg e, if_neg e]
set_option maxRecDepth 4000 in
theorem c_X6_wouldCover {l : Launch} {G : zG} {Bs : Nat → Nat → Nat} {O : Nat → Nat} {m0 mm : zM} {π : Nat → Nat} {vs : Nat → Nat → Int32} {hk cn : Int32} {T g : Nat → Int32} (hp : zDk G Bs O m0 π vs hk cn T g mm) (x : Int32) (hH : zH (vs 0)) : zSem l G (yX6_wouldCover, cX6_wouldCover, 3, (some .int)) 6 [.ref (O 0), .int x] mm (some (.int (sWc (vs 0) x).1)) (fun m' => ∃ v', zDk G Bs O m0 π (zUs vs (π 4) v') hk cn T g m') := by
  have hq := hp.1 0 (by decide)
  refine z_met [some (.ref (O 0)), some (.int x), none] rfl (zc1 (by rfl)) (Nat.le_of_ble_eq_true rfl) rfl ?_
  refine z_aload_n 0 rfl rfl dX6_wouldCover_0 ?_
  refine zK6_0 hp rfl zf_X6_10 dX6_wouldCover_1 ?_
  refine z_iload_n 1 rfl rfl dX6_wouldCover_4 ?_
  by_cases cx : zIn x (nI 0) (vs 0 1 - nI 1) = true
  · obtain ⟨d, hd, rfl⟩ := zDt hH.1 cx
    have hd10 := hH.1.1.2
    have znd := zn_nI (show d < 2 ^ 31 by omega)
    refine z_pV1 (ci := 5) zm_X5_dateRow (c_X5_dateRow hq d hH.1.1 hd) rfl zl_X6_118 rfl rfl (by decide) ((hp.1 _ (by decide)).at (j := 0) (Or.inl (by decide))).1 ((hp.1 _ (by decide)).at (j := 0) (Or.inl (by decide))).2 (by decide) (Nat.le_of_ble_eq_true rfl) dX6_wouldCover_5 ?_
    refine z_astore_n 2 rfl (Nat.le_of_ble_eq_true rfl) rfl dX6_wouldCover_8 ?_
    refine z_aload_n 2 rfl rfl dX6_wouldCover_9 ?_
    refine z_ifnonnull 15 dX6_wouldCover_10 rfl ?_
    refine z_aload_n 0 rfl rfl dX6_wouldCover_15 ?_
    refine zK6_0 hp rfl zf_X6_10 dX6_wouldCover_16 ?_
    refine z_aload_n 2 rfl rfl dX6_wouldCover_19 ?_
    refine z_pV1 (ci := 5) zm_X5_daysLeft (c_X5_daysLeft hq d (by omega)) rfl zl_X6_149 rfl rfl (by decide) ((hp.1 _ (by decide)).at (j := 0) (Or.inl (by decide))).1 ((hp.1 _ (by decide)).at (j := 0) (Or.inl (by decide))).2 (by decide) (Nat.le_of_ble_eq_true rfl) dX6_wouldCover_20 ?_
    refine z_aload_n 0 rfl rfl dX6_wouldCover_23 ?_
    refine zK6_0 hp rfl zf_X6_10 dX6_wouldCover_24 ?_
    refine zC_S1 (hp.1 0 (by decide)) rfl zf_X6_159 dX6_wouldCover_27 ?_
    refine z_iconst (nI 0) dX6_wouldCover_30 rfl ?_
    refine zC_a1 (hp.1 0 (by decide)) (by decide) dX6_wouldCover_31 ?_
    refine z_icmp_gt 38 dX6_wouldCover_32 rfl (fun c32 => ?_) (fun c32 => ?_)
    · have e9 : (sWc (vs 0) (nI d)).1 = (sCov d (sOf (vs 0) d (nI 0) (nI 1)) (nI 0) (vs 0)).1 := by unfold sWc; rw [if_pos cx, znd, if_pos c32]
      refine z_aload_n 0 rfl rfl dX6_wouldCover_38 ?_
      refine zK6_3 hp rfl zf_X6_22 dX6_wouldCover_39 ?_
      refine z_aload_n 0 rfl rfl dX6_wouldCover_42 ?_
      refine zK6_0 hp rfl zf_X6_10 dX6_wouldCover_43 ?_
      refine z_vV1 (ci := 2) zm_X2_prepare (c_X2_prepare hp) rfl zl_X6_33 rfl rfl (by decide) (hp.2.1.2.1 1 (by decide)).1 (hp.2.1.2.1 1 (by decide)).2 (by decide) (Nat.le_of_ble_eq_true rfl) dX6_wouldCover_46 (fun mm hp => ?_)
      have e0 : zUs vs (π 4) (vs 0) 0 = vs 0 := zUs_o (by have := (hp.2.2.2.2.1 4 (by decide)).1; omega)
      have hq := hp.1 0 (by decide)
      rw [e0] at hq
      have hpi := hp.2.2.2.2.1 4 (by decide)
      have hq4 := hp.1 (π 4) hpi.2
      rw [zUs_s] at hq4
      have hw : zRw G (Bs (π 4)) mm (vs 0) (Bs 0 (10 + d)) d := Or.inr ⟨by omega, fun j hj => hp.2.1.1 0 (π 4) _ j (by decide) hpi.2 (by omega) (Or.inr (by omega)) hj, (hq.at (Or.inr (by omega))).1, (hq.at (Or.inr (by omega))).2.trans (zBsh_d (by omega)), hq.ct (zCt_d0 (by omega)), hq.int (zIx_d (by omega) (k := 2) (by decide)) (fun _ _ => by omega)⟩
      refine z_aload_n 0 rfl rfl dX6_wouldCover_49 ?_
      refine zK6_3 hp rfl zf_X6_22 dX6_wouldCover_50 ?_
      refine zK2_2 hp rfl zf_X6_97 dX6_wouldCover_53 ?_
      refine z_aload_n 2 rfl rfl dX6_wouldCover_56 ?_
      refine z_uV1 (ci := 5) zm_X5_coverRightsOf (c_X5_coverRightsOf hq4 _ d _ hH hw hd (Nat.le_refl _)) rfl zl_X6_163 rfl rfl (by decide) ((hp.1 _ (hp.2.2.2.2.1 4 (by decide)).2).at (j := 0) (Or.inl (by decide))).1 ((hp.1 _ (hp.2.2.2.2.1 4 (by decide)).2).at (j := 0) (Or.inl (by decide))).2 (by decide) (Nat.le_of_ble_eq_true rfl) dX6_wouldCover_57 (fun mm hp2 => ?_)
      have hp := hp.step (s := π 4) hpi.2 hp2
      rw [zUs_uu] at hp
      exact z_iret dX6_wouldCover_60 (by rw [e9]) (by first | exact ⟨_, hp⟩ | exact ⟨vs (π 4), by rw [zUs_self]; exact hp⟩)
    · have e9 : (sWc (vs 0) (nI d)).1 = -5 := by unfold sWc; rw [if_pos cx, znd, if_neg c32]
      refine z_bipush (-5) dX6_wouldCover_35 (by decide) ?_
      exact z_iret dX6_wouldCover_37 (by rw [e9]) (by first | exact ⟨_, hp⟩ | exact ⟨vs (π 4), by rw [zUs_self]; exact hp⟩)
  · have cyf : zIn x (nI 0) (vs 0 1 - nI 1) = false := by simpa using cx
    have e9 : (sWc (vs 0) x).1 = -1 := by unfold sWc; rw [if_neg cx]
    refine z_pV1 (ci := 5) zm_X5_dateRow (c_X5_dateRowN hq _ hH.1.1 cyf) rfl zl_X6_118 rfl rfl (by decide) ((hp.1 _ (by decide)).at (j := 0) (Or.inl (by decide))).1 ((hp.1 _ (by decide)).at (j := 0) (Or.inl (by decide))).2 (by decide) (Nat.le_of_ble_eq_true rfl) dX6_wouldCover_5 ?_
    refine z_astore_nN 2 rfl (Nat.le_of_ble_eq_true rfl) rfl dX6_wouldCover_8 ?_
    refine z_aload_nN 2 rfl rfl dX6_wouldCover_9 ?_
    refine z_ifnonnullN dX6_wouldCover_10 ?_
    refine z_iconst (-1) dX6_wouldCover_13 (by decide) ?_
    exact z_iret dX6_wouldCover_14 (by rw [e9]) (by first | exact ⟨_, hp⟩ | exact ⟨vs (π 4), by rw [zUs_self]; exact hp⟩)
