theorem zDk.copy {l : Launch} {G : zG} {Bs : Nat → Nat → Nat} {O : Nat → Nat} {m0 mm : zM} {π : Nat → Nat} {vs : Nat → Nat → Int32} {hk cn : Int32} {T g : Nat → Int32} (hp : zDk G Bs O m0 π vs hk cn T g mm) {s q : Nat} (hs : s < 7) (hq : q < 7) (hn : q ≠ s) : zSem l G (yX5_copyFrom, cX5_copyFrom, 3, none) 3 [.ref (Bs s 0), .ref (Bs q 0)] mm none (fun m' => zDk G Bs O m0 π (zUs vs s (vs q)) hk cn T g m') := by
  obtain ⟨ut, -, hct⟩ := hp.1 s hs
  obtain ⟨u0, hR0, hc0⟩ := hp.1 q hq
  exact (c_X5_copyFrom hct hc0 (fun i j hi hj => hp.2.1.1 q s i j hq hs hn hi hj)).imp (fun m' h => hp.step hs ⟨u0, hR0, h⟩)
def kRot (π : Nat → Nat) : Nat → Nat := fun i => if i = 0 then π 4 else if i < 4 then π (i - 1) else if i = 4 then π 3 else π i
theorem kRot_eq (π : Nat → Nat) : zru (zru (zru (zru (zru π 3 (π 2)) 2 (zru π 3 (π 2) 1)) 1 (zru (zru π 3 (π 2)) 2 (zru π 3 (π 2) 1) 0)) 0 (zru (zru (zru π 3 (π 2)) 2 (zru π 3 (π 2) 1)) 1 (zru (zru π 3 (π 2)) 2 (zru π 3 (π 2) 1) 0) 4)) 4 (π 3) = kRot π := by
  funext i
  unfold kRot zru
  rcases (by omega : i = 0 ∨ i = 1 ∨ i = 2 ∨ i = 3 ∨ i = 4 ∨ 4 < i) with rfl | rfl | rfl | rfl | rfl | q
  · rfl
  · rfl
  · rfl
  · rfl
  · rfl
  · rw [if_neg (by omega), if_neg (by omega), if_neg (by omega), if_neg (by omega), if_neg (by omega), if_neg (by omega), if_neg (by omega), if_neg (by omega)]
def kUnr (π : Nat → Nat) : Nat → Nat := fun i => if i < 3 then π (i + 1) else if i = 3 then π 0 else π i
theorem kUnr_eq (π : Nat → Nat) : zru (zru (zru (zru π 0 (π 1)) 1 (zru π 0 (π 1) 2)) 2 (zru (zru π 0 (π 1)) 1 (zru π 0 (π 1) 2) 3)) 3 (π 0) = kUnr π := by
  funext i
  unfold kUnr zru
  rcases (by omega : i = 0 ∨ i = 1 ∨ i = 2 ∨ i = 3 ∨ 3 < i) with rfl | rfl | rfl | rfl | q
  · rfl
  · rfl
  · rfl
  · rfl
  · rw [if_neg (by omega), if_neg (by omega), if_neg (by omega), if_neg (by omega), if_neg (by omega), if_neg (by omega)]
set_option maxRecDepth 4000 in
theorem c_X2_prepare {l : Launch} {G : zG} {Bs : Nat → Nat → Nat} {O : Nat → Nat} {m0 mm : zM} {π : Nat → Nat} {vs : Nat → Nat → Int32} {hk cn : Int32} {T g : Nat → Int32} (hp : zDk G Bs O m0 π vs hk cn T g mm) : zSem l G (yX2_prepare, cX2_prepare, 2, none) 4 [.ref (O 1), .ref (Bs 0 0)] mm none (fun m' => zDk G Bs O m0 π (zUs vs (π 4) (vs 0)) hk cn T g m') := by
  refine z_met [some (.ref (O 1)), some (.ref (Bs 0 0))] rfl (zc1 (by rfl)) (Nat.le_of_ble_eq_true rfl) rfl ?_
  refine z_aload_n 0 rfl rfl dX2_prepare_0 ?_
  refine zK2_2 hp rfl zf_X2_18 dX2_prepare_1 ?_
  refine z_aload_n 1 rfl rfl dX2_prepare_4 ?_
  refine z_vV1 (ci := 5) zm_X5_copyFrom (hp.copy (hp.2.2.2.2.1 4 (by decide)).2 (by decide) (by have := (hp.2.2.2.2.1 4 (by decide)).1; omega)) rfl zl_X2_22 rfl rfl (by decide) ((hp.1 _ (hp.2.2.2.2.1 4 (by decide)).2).at (j := 0) (Or.inl (by decide))).1 ((hp.1 _ (hp.2.2.2.2.1 4 (by decide)).2).at (j := 0) (Or.inl (by decide))).2 (by decide) (Nat.le_of_ble_eq_true rfl) dX2_prepare_5 (fun mm hp => ?_)
  exact z_vret dX2_prepare_8 rfl hp
set_option maxRecDepth 4000 in
theorem c_X2_settleN {l : Launch} {G : zG} {Bs : Nat → Nat → Nat} {O : Nat → Nat} {m0 mm : zM} {π : Nat → Nat} {vs : Nat → Nat → Int32} {hk cn : Int32} {T g : Nat → Int32} (hp : zDk G Bs O m0 π vs hk cn T g mm) (x : Int32) (hx : x < 0) : zSem l G (yX2_settle, cX2_settle, 4, (some .int)) 1 [.ref (O 1), .int x] mm (some (.int x)) (fun m' => m' = mm) := by
  refine z_met [some (.ref (O 1)), some (.int x), none, none] rfl (zc1 (by rfl)) (Nat.le_of_ble_eq_true rfl) rfl ?_
  refine z_iload_n 1 rfl rfl dX2_settle_0 ?_
  refine z_if_ge 6 dX2_settle_1 rfl (fun c1 => ?_) (fun c1 => ?_)
  · exact absurd hx (i_not_lt.mpr c1)
  · refine z_iload_n 1 rfl rfl dX2_settle_4 ?_
    exact z_iret dX2_settle_5 rfl rfl
set_option maxRecDepth 4000 in
theorem c_X2_settle {l : Launch} {G : zG} {Bs : Nat → Nat → Nat} {O : Nat → Nat} {m0 mm : zM} {π : Nat → Nat} {vs : Nat → Nat → Int32} {hk cn : Int32} {T g : Nat → Int32} (hp : zDk G Bs O m0 π vs hk cn T g mm) (x : Int32) (hx : 0 ≤ x) : zSem l G (yX2_settle, cX2_settle, 4, (some .int)) 1 [.ref (O 1), .int x] mm (some (.int x)) (fun m' => zDk G Bs O m0 (kRot π) vs hk (if nI 4 < cn + nI 1 then nI 4 else cn + nI 1) T g m') := by
  have hpi := hp.2.2.2.2.1
  refine z_met [some (.ref (O 1)), some (.int x), none, none] rfl (zc1 (by rfl)) (Nat.le_of_ble_eq_true rfl) rfl ?_
  refine z_iload_n 1 rfl rfl dX2_settle_0 ?_
  refine z_if_ge 6 dX2_settle_1 rfl (fun c1 => ?_) (fun c1 => ?_)
  · refine z_aload_n 0 rfl rfl dX2_settle_6 ?_
    refine zK2_0 hp rfl zf_X2_11 dX2_settle_7 ?_
    refine z_iconst (nI 3) dX2_settle_10 rfl ?_
    refine zK_ald hp (by decide) dX2_settle_11 ?_
    refine z_astore_n 2 rfl (Nat.le_of_ble_eq_true rfl) rfl dX2_settle_12 ?_
    refine z_iconst (nI 3) dX2_settle_13 rfl ?_
    refine z_istore_n 3 rfl (Nat.le_of_ble_eq_true rfl) rfl dX2_settle_14 ?_
    refine z_iload_n 3 rfl rfl dX2_settle_15 ?_
    refine z_if_le 39 dX2_settle_16 rfl (fun c16 => ?_) (fun c16 => ?_)
    · exact absurd c16 (by decide)
    · refine z_aload_n 0 rfl rfl dX2_settle_19 ?_
      refine zK2_0 hp rfl zf_X2_11 dX2_settle_20 ?_
      refine z_iload_n 3 rfl rfl dX2_settle_23 ?_
      refine z_aload_n 0 rfl rfl dX2_settle_24 ?_
      refine zK2_0 hp rfl zf_X2_11 dX2_settle_25 ?_
      refine z_iload_n 3 rfl rfl dX2_settle_28 ?_
      refine z_iconst (nI 1) dX2_settle_29 rfl ?_
      refine z_isubN (by decide) dX2_settle_30 ?_
      refine zK_ald hp (by decide) dX2_settle_31 ?_
      refine zK_ast hp (by decide) (hp.2.2.2.2.1 _ (by decide)) dX2_settle_32 (fun mm hp => ?_)
      refine z_iincD 3 (by omega) rfl rfl dX2_settle_33 ?_
      refine z_goto 15 dX2_settle_36 rfl ?_
      refine z_iload_n 3 rfl rfl dX2_settle_15 ?_
      refine z_if_le 39 dX2_settle_16 rfl (fun c16 => ?_) (fun c16 => ?_)
      · exact absurd c16 (by decide)
      · refine z_aload_n 0 rfl rfl dX2_settle_19 ?_
        refine zK2_0 hp rfl zf_X2_11 dX2_settle_20 ?_
        refine z_iload_n 3 rfl rfl dX2_settle_23 ?_
        refine z_aload_n 0 rfl rfl dX2_settle_24 ?_
        refine zK2_0 hp rfl zf_X2_11 dX2_settle_25 ?_
        refine z_iload_n 3 rfl rfl dX2_settle_28 ?_
        refine z_iconst (nI 1) dX2_settle_29 rfl ?_
        refine z_isubN (by decide) dX2_settle_30 ?_
        refine zK_ald hp (by decide) dX2_settle_31 ?_
        refine zK_ast hp (by decide) (hp.2.2.2.2.1 _ (by decide)) dX2_settle_32 (fun mm hp => ?_)
        refine z_iincD 3 (by omega) rfl rfl dX2_settle_33 ?_
        refine z_goto 15 dX2_settle_36 rfl ?_
        refine z_iload_n 3 rfl rfl dX2_settle_15 ?_
        refine z_if_le 39 dX2_settle_16 rfl (fun c16 => ?_) (fun c16 => ?_)
        · exact absurd c16 (by decide)
        · refine z_aload_n 0 rfl rfl dX2_settle_19 ?_
          refine zK2_0 hp rfl zf_X2_11 dX2_settle_20 ?_
          refine z_iload_n 3 rfl rfl dX2_settle_23 ?_
          refine z_aload_n 0 rfl rfl dX2_settle_24 ?_
          refine zK2_0 hp rfl zf_X2_11 dX2_settle_25 ?_
          refine z_iload_n 3 rfl rfl dX2_settle_28 ?_
          refine z_iconst (nI 1) dX2_settle_29 rfl ?_
          refine z_isubN (by decide) dX2_settle_30 ?_
          refine zK_ald hp (by decide) dX2_settle_31 ?_
          refine zK_ast hp (by decide) (hp.2.2.2.2.1 _ (by decide)) dX2_settle_32 (fun mm hp => ?_)
          refine z_iincD 3 (by omega) rfl rfl dX2_settle_33 ?_
          refine z_goto 15 dX2_settle_36 rfl ?_
          refine z_iload_n 3 rfl rfl dX2_settle_15 ?_
          refine z_if_le 39 dX2_settle_16 rfl (fun c16 => ?_) (fun c16 => ?_)
          · refine z_aload_n 0 rfl rfl dX2_settle_39 ?_
            refine zK2_0 hp rfl zf_X2_11 dX2_settle_40 ?_
            refine z_iconst (nI 0) dX2_settle_43 rfl ?_
            refine z_aload_n 0 rfl rfl dX2_settle_44 ?_
            refine zK2_2 hp rfl zf_X2_18 dX2_settle_45 ?_
            refine zK_ast hp (by decide) (hp.2.2.2.2.1 _ (by decide)) dX2_settle_48 (fun mm hp => ?_)
            refine z_aload_n 0 rfl rfl dX2_settle_49 ?_
            refine z_aload_n 2 rfl rfl dX2_settle_50 ?_
            refine zK2_p2 hp (hpi 3 (by decide)) rfl zf_X2_18 dX2_settle_51 (fun mm hp => ?_)
            refine z_aload_n 0 rfl rfl dX2_settle_54 ?_
            refine z_aload_n 0 rfl rfl dX2_settle_55 ?_
            refine zK2_1 hp rfl zf_X2_26 dX2_settle_56 ?_
            refine z_iconst (nI 1) dX2_settle_59 rfl ?_
            refine z_iadd dX2_settle_60 ?_
            refine z_iconst (nI 4) dX2_settle_61 rfl ?_
            refine z_min rfl zl_X2_30 (by decide) (Nat.le_of_ble_eq_true rfl) dX2_settle_62 ?_
            refine zK2_p1 hp rfl zf_X2_26 dX2_settle_65 (fun mm hp => ?_)
            refine z_iload_n 1 rfl rfl dX2_settle_68 ?_
            exact z_iret dX2_settle_69 rfl (by rw [kRot_eq] at hp; exact hp)
          · exact absurd c16 (by decide)
  · exact absurd hx (i_not_le.mpr (i_not_le.mp c1))
