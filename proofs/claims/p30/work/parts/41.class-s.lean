set_option maxRecDepth 4000 in
theorem c_X2_takeLatestN {l : Launch} {G : zG} {Bs : Nat → Nat → Nat} {O : Nat → Nat} {m0 mm : zM} {π : Nat → Nat} {vs : Nat → Nat → Int32} {hk cn : Int32} {T g : Nat → Int32} (hp : zDk G Bs O m0 π vs hk cn T g mm) (hx : cn = 0) : zSem l G (yX2_takeLatest, cX2_takeLatest, 3, (some (.object "RightsDesk$State"))) 1 [.ref (O 1)] mm (some .null) (fun m' => m' = mm) := by
  refine z_met [some (.ref (O 1)), none, none] rfl (zc1 (by rfl)) (Nat.le_of_ble_eq_true rfl) rfl ?_
  refine z_aload_n 0 rfl rfl dX2_takeLatest_0 ?_
  refine zK2_1 hp rfl zf_X2_26 dX2_takeLatest_1 ?_
  refine z_if_ne 9 dX2_takeLatest_4 rfl (fun c4 => ?_) (fun c4 => ?_)
  · exact absurd hx c4
  · refine z_null dX2_takeLatest_7 ?_
    exact z_aret dX2_takeLatest_8 (Or.inl rfl) rfl rfl
set_option maxRecDepth 4000 in
theorem c_X2_takeLatest {l : Launch} {G : zG} {Bs : Nat → Nat → Nat} {O : Nat → Nat} {m0 mm : zM} {π : Nat → Nat} {vs : Nat → Nat → Int32} {hk cn : Int32} {T g : Nat → Int32} (hp : zDk G Bs O m0 π vs hk cn T g mm) (hx : ¬ cn = 0) : zSem l G (yX2_takeLatest, cX2_takeLatest, 3, (some (.object "RightsDesk$State"))) 1 [.ref (O 1)] mm (some (.ref (Bs (π 0) 0))) (fun m' => zDk G Bs O m0 (kUnr π) vs hk (cn - nI 1) T g m') := by
  have hpi := hp.2.2.2.2.1
  refine z_met [some (.ref (O 1)), none, none] rfl (zc1 (by rfl)) (Nat.le_of_ble_eq_true rfl) rfl ?_
  refine z_aload_n 0 rfl rfl dX2_takeLatest_0 ?_
  refine zK2_1 hp rfl zf_X2_26 dX2_takeLatest_1 ?_
  refine z_if_ne 9 dX2_takeLatest_4 rfl (fun c4 => ?_) (fun c4 => ?_)
  · refine z_aload_n 0 rfl rfl dX2_takeLatest_9 ?_
    refine zK2_0 hp rfl zf_X2_11 dX2_takeLatest_10 ?_
    refine z_iconst (nI 0) dX2_takeLatest_13 rfl ?_
    refine zK_ald hp (by decide) dX2_takeLatest_14 ?_
    refine z_astore_n 1 rfl (Nat.le_of_ble_eq_true rfl) rfl dX2_takeLatest_15 ?_
    refine z_iconst (nI 0) dX2_takeLatest_16 rfl ?_
    refine z_istore_n 2 rfl (Nat.le_of_ble_eq_true rfl) rfl dX2_takeLatest_17 ?_
    refine z_iload_n 2 rfl rfl dX2_takeLatest_18 ?_
    refine z_iconst (nI 1) dX2_takeLatest_19 rfl ?_
    refine z_iaddN dX2_takeLatest_20 ?_
    refine z_iconst (nI 4) dX2_takeLatest_21 rfl ?_
    refine z_icmp_ge 45 dX2_takeLatest_22 rfl (fun c22 => ?_) (fun c22 => ?_)
    · exact absurd c22 (by decide)
    · refine z_aload_n 0 rfl rfl dX2_takeLatest_25 ?_
      refine zK2_0 hp rfl zf_X2_11 dX2_takeLatest_26 ?_
      refine z_iload_n 2 rfl rfl dX2_takeLatest_29 ?_
      refine z_aload_n 0 rfl rfl dX2_takeLatest_30 ?_
      refine zK2_0 hp rfl zf_X2_11 dX2_takeLatest_31 ?_
      refine z_iload_n 2 rfl rfl dX2_takeLatest_34 ?_
      refine z_iconst (nI 1) dX2_takeLatest_35 rfl ?_
      refine z_iaddN dX2_takeLatest_36 ?_
      refine zK_ald hp (by decide) dX2_takeLatest_37 ?_
      refine zK_ast hp (by decide) (hp.2.2.2.2.1 _ (by decide)) dX2_takeLatest_38 (fun mm hp => ?_)
      refine z_iincN (n := 1) 2 rfl rfl dX2_takeLatest_39 ?_
      refine z_goto 18 dX2_takeLatest_42 rfl ?_
      refine z_iload_n 2 rfl rfl dX2_takeLatest_18 ?_
      refine z_iconst (nI 1) dX2_takeLatest_19 rfl ?_
      refine z_iaddN dX2_takeLatest_20 ?_
      refine z_iconst (nI 4) dX2_takeLatest_21 rfl ?_
      refine z_icmp_ge 45 dX2_takeLatest_22 rfl (fun c22 => ?_) (fun c22 => ?_)
      · exact absurd c22 (by decide)
      · refine z_aload_n 0 rfl rfl dX2_takeLatest_25 ?_
        refine zK2_0 hp rfl zf_X2_11 dX2_takeLatest_26 ?_
        refine z_iload_n 2 rfl rfl dX2_takeLatest_29 ?_
        refine z_aload_n 0 rfl rfl dX2_takeLatest_30 ?_
        refine zK2_0 hp rfl zf_X2_11 dX2_takeLatest_31 ?_
        refine z_iload_n 2 rfl rfl dX2_takeLatest_34 ?_
        refine z_iconst (nI 1) dX2_takeLatest_35 rfl ?_
        refine z_iaddN dX2_takeLatest_36 ?_
        refine zK_ald hp (by decide) dX2_takeLatest_37 ?_
        refine zK_ast hp (by decide) (hp.2.2.2.2.1 _ (by decide)) dX2_takeLatest_38 (fun mm hp => ?_)
        refine z_iincN (n := 1) 2 rfl rfl dX2_takeLatest_39 ?_
        refine z_goto 18 dX2_takeLatest_42 rfl ?_
        refine z_iload_n 2 rfl rfl dX2_takeLatest_18 ?_
        refine z_iconst (nI 1) dX2_takeLatest_19 rfl ?_
        refine z_iaddN dX2_takeLatest_20 ?_
        refine z_iconst (nI 4) dX2_takeLatest_21 rfl ?_
        refine z_icmp_ge 45 dX2_takeLatest_22 rfl (fun c22 => ?_) (fun c22 => ?_)
        · exact absurd c22 (by decide)
        · refine z_aload_n 0 rfl rfl dX2_takeLatest_25 ?_
          refine zK2_0 hp rfl zf_X2_11 dX2_takeLatest_26 ?_
          refine z_iload_n 2 rfl rfl dX2_takeLatest_29 ?_
          refine z_aload_n 0 rfl rfl dX2_takeLatest_30 ?_
          refine zK2_0 hp rfl zf_X2_11 dX2_takeLatest_31 ?_
          refine z_iload_n 2 rfl rfl dX2_takeLatest_34 ?_
          refine z_iconst (nI 1) dX2_takeLatest_35 rfl ?_
          refine z_iaddN dX2_takeLatest_36 ?_
          refine zK_ald hp (by decide) dX2_takeLatest_37 ?_
          refine zK_ast hp (by decide) (hp.2.2.2.2.1 _ (by decide)) dX2_takeLatest_38 (fun mm hp => ?_)
          refine z_iincN (n := 1) 2 rfl rfl dX2_takeLatest_39 ?_
          refine z_goto 18 dX2_takeLatest_42 rfl ?_
          refine z_iload_n 2 rfl rfl dX2_takeLatest_18 ?_
          refine z_iconst (nI 1) dX2_takeLatest_19 rfl ?_
          refine z_iaddN dX2_takeLatest_20 ?_
          refine z_iconst (nI 4) dX2_takeLatest_21 rfl ?_
          refine z_icmp_ge 45 dX2_takeLatest_22 rfl (fun c22 => ?_) (fun c22 => ?_)
          · refine z_aload_n 0 rfl rfl dX2_takeLatest_45 ?_
            refine zK2_0 hp rfl zf_X2_11 dX2_takeLatest_46 ?_
            refine z_iconst (nI 3) dX2_takeLatest_49 rfl ?_
            refine z_aload_n 1 rfl rfl dX2_takeLatest_50 ?_
            refine zK_ast hp (by decide) (hpi 0 (by decide)) dX2_takeLatest_51 (fun mm hp => ?_)
            refine z_aload_n 0 rfl rfl dX2_takeLatest_52 ?_
            refine z_dup dX2_takeLatest_53 rfl ?_
            refine zK2_1 hp rfl zf_X2_26 dX2_takeLatest_54 ?_
            refine z_iconst (nI 1) dX2_takeLatest_57 rfl ?_
            refine z_isub dX2_takeLatest_58 ?_
            refine zK2_p1 hp rfl zf_X2_26 dX2_takeLatest_59 (fun mm hp => ?_)
            refine z_aload_n 1 rfl rfl dX2_takeLatest_62 ?_
            exact z_aret dX2_takeLatest_63 (Or.inr ⟨_, rfl⟩) rfl (by rw [kUnr_eq] at hp; exact hp)
          · exact absurd (by decide) c22
  · exact absurd c4 hx
