theorem zCV.ev {G : zG} {B : Nat → Nat} {m0 mm : zM} {v : Nat → Int32} (h : zCV G B m0 v mm) : ∃ σ : Nat → Nat, (∀ i, i < 10 → σ i < 10) ∧ ∀ i, i < 10 → mm (B 7) i = .ref (B (90 + σ i)) ∧ ∀ k, k < 4 → mm (B (90 + σ i)) k = .int (v (567 + 4 * i + k)) := by
  obtain ⟨u, hR, -, -, -, -, -, ⟨σ, s1, s2, s3⟩, -⟩ := h
  refine ⟨σ, s1, fun i hi => ⟨(s3 i hi).1, fun k hk => ?_⟩⟩
  rw [(s3 i hi).2 k hk, hR.1 _ (by omega) (fun r hr => by omega)]
set_option maxRecDepth 4000 in
theorem c_X5_eventRow {l : Launch} {G : zG} {B : Nat → Nat} {m0 mm : zM} {v : Nat → Int32} (hp : zCV G B m0 v mm) (x e : Nat) (he : e < 10) (hx : x < 10) (h8 : nI x < v 8) (h7 : mm (B 7) x = .ref (B (90 + e))) : zSem l G (yX5_eventRow, cX5_eventRow, 2, (some (.object "RightsDesk$EventRow"))) 1 [.ref (B 0), .int (nI x)] mm (some (.ref (B (90 + e)))) (fun m' => m' = mm) := by
  refine z_met [some (.ref (B 0)), some (.int (nI x))] rfl (zc1 (by rfl)) (Nat.le_of_ble_eq_true rfl) rfl ?_
  refine z_iload_n 1 rfl rfl dX5_eventRow_0 ?_
  refine z_if_lt 30 dX5_eventRow_1 rfl (fun c1 => ?_) (fun c1 => ?_)
  · exact absurd (nI_pos' (by omega)) (i_not_le.mpr c1)
  · refine z_iload_n 1 rfl rfl dX5_eventRow_4 ?_
    refine z_aload_n 0 rfl rfl dX5_eventRow_5 ?_
    refine zC_S10 hp rfl zf_X5_85 dX5_eventRow_6 ?_
    refine z_icmp_ge 30 dX5_eventRow_9 rfl (fun c9 => ?_) (fun c9 => ?_)
    · exact absurd h8 (i_not_lt.mpr c9)
    · refine z_iload_n 1 rfl rfl dX5_eventRow_12 ?_
      refine z_aload_n 0 rfl rfl dX5_eventRow_13 ?_
      refine zC_S11 hp rfl zf_X5_52 dX5_eventRow_14 ?_
      refine zC_a7l hp dX5_eventRow_17 ?_
      refine z_icmp_ge 30 dX5_eventRow_18 rfl (fun c18 => ?_) (fun c18 => ?_)
      · exact absurd ((nI_leI (by omega) (by omega)).mp c18) (by omega)
      · refine z_aload_n 0 rfl rfl dX5_eventRow_21 ?_
        refine zC_S11 hp rfl zf_X5_52 dX5_eventRow_22 ?_
        refine z_iload_n 1 rfl rfl dX5_eventRow_25 ?_
        refine z_aald (t0 := 3) (C := RX1) (hp.at (j := 7) (Or.inl (by decide))).1 (hp.at (j := 7) (Or.inl (by decide))).2 (by decide) rfl rfl hx (by decide) h7 dX5_eventRow_26 ?_
        refine z_goto 31 dX5_eventRow_27 rfl ?_
        exact z_aret dX5_eventRow_31 (Or.inr ⟨_, rfl⟩) rfl rfl
set_option maxRecDepth 4000 in
theorem c_X5_eventRowN {l : Launch} {G : zG} {B : Nat → Nat} {m0 mm : zM} {v : Nat → Int32} (hp : zCV G B m0 v mm) (x : Int32) (h8 : ¬ x < v 8) : zSem l G (yX5_eventRow, cX5_eventRow, 2, (some (.object "RightsDesk$EventRow"))) 1 [.ref (B 0), .int x] mm (some .null) (fun m' => m' = mm) := by
  refine z_met [some (.ref (B 0)), some (.int x)] rfl (zc1 (by rfl)) (Nat.le_of_ble_eq_true rfl) rfl ?_
  refine z_iload_n 1 rfl rfl dX5_eventRow_0 ?_
  refine z_if_lt 30 dX5_eventRow_1 rfl (fun c1 => ?_) (fun c1 => ?_)
  · refine z_null dX5_eventRow_30 ?_
    exact z_aret dX5_eventRow_31 (Or.inl rfl) rfl rfl
  · refine z_iload_n 1 rfl rfl dX5_eventRow_4 ?_
    refine z_aload_n 0 rfl rfl dX5_eventRow_5 ?_
    refine zC_S10 hp rfl zf_X5_85 dX5_eventRow_6 ?_
    refine z_icmp_ge 30 dX5_eventRow_9 rfl (fun c9 => ?_) (fun c9 => ?_)
    · refine z_null dX5_eventRow_30 ?_
      exact z_aret dX5_eventRow_31 (Or.inl rfl) rfl rfl
    · exact absurd (i_not_le.mp c9) h8
set_option maxRecDepth 4000 in
theorem c_X1_tell {l : Launch} {G : zG} {B : Nat → Nat} {m0 mm : zM} {v : Nat → Int32} (hp : zCV G B m0 v mm) (e : Nat) (f : Nat → Int32) (he : e < 10) (hk : ∀ k, k < 4 → mm (B (90 + e)) k = .int (f k)) (w : Int32) (hw : zIn w (nI 0) (nI 3) = true) : zSem l G (yX1_tell, cX1_tell, 2, (some .int)) 1 [.ref (B (90 + e)), .int w] mm (some (.int (f (zn w)))) (fun m' => m' = mm) := by
  refine z_met [some (.ref (B (90 + e))), some (.int w)] rfl (zc1 (by rfl)) (Nat.le_of_ble_eq_true rfl) rfl ?_
  refine z_iload_n 1 rfl rfl dX1_tell_0 ?_
  by_cases hx : zIn w (nI 0) (nI 2) = true
  · obtain ⟨j, hj, rfl⟩ := zIn_nI (by decide) hx
    rcases (by omega : j = 0 ∨ j = 1 ∨ j = 2) with rfl | rfl | rfl
    · refine z_tableIn 28 dX1_tell_1 (by decide) (by decide) rfl rfl ?_
      have e9 : f (zn (nI 0)) = f 0 := rfl
      refine z_aload_n 0 rfl rfl dX1_tell_28 ?_
      refine z_get (ci := 1) (k := 0) (own := RX1) zin1 rfl (by decide) (by decide) rfl rfl zf_X1_7 (hp.at (j := 90 + e) (Or.inr (by omega))).1 ((hp.at (j := 90 + e) (Or.inr (by omega))).2.trans (zBsh_e he)) (hk 0 (by decide)) dX1_tell_29 ?_
      exact z_iret dX1_tell_32 (by rw [e9]) rfl
    · refine z_tableIn 33 dX1_tell_1 (by decide) (by decide) rfl rfl ?_
      have e9 : f (zn (nI 1)) = f 1 := rfl
      refine z_aload_n 0 rfl rfl dX1_tell_33 ?_
      refine z_get (ci := 1) (k := 1) (own := RX1) zin1 rfl (by decide) (by decide) rfl rfl zf_X1_13 (hp.at (j := 90 + e) (Or.inr (by omega))).1 ((hp.at (j := 90 + e) (Or.inr (by omega))).2.trans (zBsh_e he)) (hk 1 (by decide)) dX1_tell_34 ?_
      exact z_iret dX1_tell_37 (by rw [e9]) rfl
    · refine z_tableIn 38 dX1_tell_1 (by decide) (by decide) rfl rfl ?_
      have e9 : f (zn (nI 2)) = f 2 := rfl
      refine z_aload_n 0 rfl rfl dX1_tell_38 ?_
      refine z_get (ci := 1) (k := 2) (own := RX1) zin1 rfl (by decide) (by decide) rfl rfl zf_X1_16 (hp.at (j := 90 + e) (Or.inr (by omega))).1 ((hp.at (j := 90 + e) (Or.inr (by omega))).2.trans (zBsh_e he)) (hk 2 (by decide)) dX1_tell_39 ?_
      exact z_iret dX1_tell_42 (by rw [e9]) rfl
  · refine z_tableOut 43 dX1_tell_1 (zIn_out (by decide) (by simpa using hx)) rfl ?_
    have e9 : f (zn w) = f 3 := by
      obtain ⟨j, hj, rfl⟩ := zIn_nI (by decide) hw
      have h3 : j = 3 := by
        rcases Nat.lt_or_ge 2 j with q | q
        · omega
        · exact absurd (zIn_le q (by decide)) hx
      subst h3
      rfl
    refine z_aload_n 0 rfl rfl dX1_tell_43 ?_
    refine z_get (ci := 1) (k := 3) (own := RX1) zin1 rfl (by decide) (by decide) rfl rfl zf_X1_19 (hp.at (j := 90 + e) (Or.inr (by omega))).1 ((hp.at (j := 90 + e) (Or.inr (by omega))).2.trans (zBsh_e he)) (hk 3 (by decide)) dX1_tell_44 ?_
    exact z_iret dX1_tell_47 (by rw [e9]) rfl
set_option maxRecDepth 4000 in
theorem c_X6_event {l : Launch} {G : zG} {Bs : Nat → Nat → Nat} {O : Nat → Nat} {m0 mm : zM} {π : Nat → Nat} {vs : Nat → Nat → Int32} {hk cn : Int32} {T g : Nat → Int32} (hp : zDk G Bs O m0 π vs hk cn T g mm) (x w : Int32) (hH : zH (vs 0)) : zSem l G (yX6_event, cX6_event, 4, (some .int)) 6 [.ref (O 0), .int x, .int w] mm (some (.int (sEv (vs 0) x w))) (fun m' => m' = mm) := by
  have hq := hp.1 0 (by decide)
  obtain ⟨σ, s1, s3⟩ := hq.ev
  refine z_met [some (.ref (O 0)), some (.int x), some (.int w), none] rfl (zc1 (by rfl)) (Nat.le_of_ble_eq_true rfl) rfl ?_
  refine z_iload_n 1 rfl rfl dX6_event_0 ?_
  refine z_if_lt 13 dX6_event_1 rfl (fun c1 => ?_) (fun c1 => ?_)
  · have e9 : sEv (vs 0) x w = -2 := if_pos c1
    refine z_bipush (-2) dX6_event_13 (by decide) ?_
    exact z_iret dX6_event_15 (by rw [e9]) rfl
  · refine z_iload_n 2 rfl rfl dX6_event_4 ?_
    refine z_if_lt 13 dX6_event_5 rfl (fun c5 => ?_) (fun c5 => ?_)
    · have e9 : sEv (vs 0) x w = -2 := by unfold sEv; rw [if_neg c1, zIn_neg c5]; rfl
      refine z_bipush (-2) dX6_event_13 (by decide) ?_
      exact z_iret dX6_event_15 (by rw [e9]) rfl
    · refine z_iload_n 2 rfl rfl dX6_event_8 ?_
      refine z_iconst (nI 3) dX6_event_9 rfl ?_
      refine z_icmp_le 16 dX6_event_10 rfl (fun c10 => ?_) (fun c10 => ?_)
      · have hw : zIn w (nI 0) (nI 3) = true := zIn_t (lo := nI 0) (i_not_lt.mp c5) c10
        refine z_aload_n 0 rfl rfl dX6_event_16 ?_
        refine zK6_0 hp rfl zf_X6_10 dX6_event_17 ?_
        refine z_iload_n 1 rfl rfl dX6_event_20 ?_
        by_cases c8 : x < vs 0 8
        · obtain ⟨k, hk31, rfl⟩ := nI_of c1
          obtain ⟨e8, he8, ee8⟩ := hH.2.2.2.2.2.2
          have hk : k < e8 := by rw [ee8] at c8; exact (nI_ltI (by omega) (by omega)).mp c8
          have e9 : sEv (vs 0) (nI k) w = vs 0 (567 + 4 * k + zn w) := by unfold sEv; rw [if_neg c1, if_pos hw, if_pos c8, zn_nI (by omega)]
          refine z_pV1 (ci := 5) zm_X5_eventRow (c_X5_eventRow hq k (σ k) (s1 k (by omega)) (by omega) c8 (s3 k (by omega)).1) rfl zl_X6_166 rfl rfl (by decide) ((hp.1 _ (by decide)).at (j := 0) (Or.inl (by decide))).1 ((hp.1 _ (by decide)).at (j := 0) (Or.inl (by decide))).2 (by decide) (Nat.le_of_ble_eq_true rfl) dX6_event_21 ?_
          refine z_astore_n 3 rfl (Nat.le_of_ble_eq_true rfl) rfl dX6_event_24 ?_
          refine z_aload_n 3 rfl rfl dX6_event_25 ?_
          refine z_ifnonnull 34 dX6_event_26 rfl ?_
          refine z_aload_n 3 rfl rfl dX6_event_34 ?_
          refine z_iload_n 2 rfl rfl dX6_event_35 ?_
          refine z_pV1 (ci := 1) zm_X1_tell (c_X1_tell hq (σ k) (fun j => vs 0 (567 + 4 * k + j)) (s1 k (by omega)) (s3 k (by omega)).2 w hw) rfl zl_X6_170 rfl rfl (by decide) (hq.at (j := 90 + σ k) (Or.inr (by have := s1 k (by omega); omega))).1 ((hq.at (j := 90 + σ k) (Or.inr (by have := s1 k (by omega); omega))).2.trans (zBsh_e (s1 k (by omega)))) (by decide) (Nat.le_of_ble_eq_true rfl) dX6_event_36 ?_
          exact z_iret dX6_event_39 (by rw [e9]) rfl
        · have e9 : sEv (vs 0) x w = -5 := by unfold sEv; rw [if_neg c1, if_pos hw, if_neg c8]
          refine z_pV1 (ci := 5) zm_X5_eventRow (c_X5_eventRowN hq x c8) rfl zl_X6_166 rfl rfl (by decide) ((hp.1 _ (by decide)).at (j := 0) (Or.inl (by decide))).1 ((hp.1 _ (by decide)).at (j := 0) (Or.inl (by decide))).2 (by decide) (Nat.le_of_ble_eq_true rfl) dX6_event_21 ?_
          refine z_astore_nN 3 rfl (Nat.le_of_ble_eq_true rfl) rfl dX6_event_24 ?_
          refine z_aload_nN 3 rfl rfl dX6_event_25 ?_
          refine z_ifnonnullN dX6_event_26 ?_
          refine z_bipush (-5) dX6_event_29 (by decide) ?_
          refine z_goto 39 dX6_event_31 rfl ?_
          exact z_iret dX6_event_39 (by rw [e9]) rfl
      · have e9 : sEv (vs 0) x w = -2 := by unfold sEv; rw [if_neg c1, zIn_f2 (i_not_le.mp c10)]; rfl
        refine z_bipush (-2) dX6_event_13 (by decide) ?_
        exact z_iret dX6_event_15 (by rw [e9]) rfl
