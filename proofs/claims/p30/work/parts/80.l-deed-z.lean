/-! what a call keeps: the day, how many dates there are -/
def kp (v u : Nat → Int32) : Prop := u 0 = v 0 ∧ u 1 = v 1
theorem kp.rf (v : Nat → Int32) : kp v v := ⟨rfl, rfl⟩
theorem kp.sells {v : Nat → Int32} {d h : Nat} (hh : h < 10) : kp v (sSells v h d) := ⟨sSells_at (by omega) (by omega) (by omega) (by omega) (by omega), sSells_at (by omega) (by omega) (by omega) (by omega) (by omega)⟩
theorem kp.off {v : Nat → Int32} {r h g : Nat} (hr : r < 60) (hh : h < 10) (hg : g < 10) : kp v (sOff v r h g) := ⟨sOff_at hh hg (by omega) (by omega) (by omega) (by omega) (by omega), sOff_at hh hg (by omega) (by omega) (by omega) (by omega) (by omega)⟩
theorem kp.can {v : Nat → Int32} {r d g n : Nat} (hI : zI v) (hr : r < nR v) (hd : d < nD v) (hg : g < 10) (e5 : v (27 + 12 * d + 5) = nI n) (hn : n ≤ 6) : kp v (sLB d n (sCan1 v r d g)) := by
  have h60 := hI.1.1.2.1.2
  have h10 := hI.1.1.1.2
  have i1 : zI (sCan1 v r d g) := ((hI.pays (c := -sRef v r d) hg).bec (r := r) (q := 3) (by omega) (by omega) (Or.inl (by decide))).log
  have a0 : sCan1 v r d g 0 = v 0 := by unfold sCan1; rw [sLog_at (by omega) (by omega), sBec_at (by omega) (by omega), sPays_at (by omega) (by omega)]
  have a1 : sCan1 v r d g 1 = v 1 := by unfold sCan1; rw [sLog_at (by omega) (by omega), sBec_at (by omega) (by omega), sPays_at (by omega) (by omega)]
  have a5 : sCan1 v r d g (27 + 12 * d + 5) = nI n := by unfold sCan1; rw [sLog_at (by omega) (by omega), sBec_at (by omega) (by omega), sPays_at (by omega) (by omega)]; exact e5
  obtain ⟨-, -, z3, -⟩ := sLB_H n _ i1.1 (by rw [nD_of a1]; exact hd) a5 hn
  obtain ⟨-, z2⟩ := sLB_nn n _ i1.1.1 (by rw [nD_of a1]; exact hd) a5 hn
  exact ⟨z3.trans a0, z2.trans a1⟩
theorem kp.nd {v u : Nat → Int32} (h : kp v u) : nD u = nD v := nD_of h.2
set_option maxRecDepth 4000 in
set_option maxHeartbeats 4000000 in
theorem l_deed_h0 {l : Launch} {G : zG} {Bs : Nat → Nat → Nat} {O : Nat → Nat} {v u w : Nat → Int32} {hk : Int32} {mm : zM} (hO : O 0 ∈ zL G ∧ zsh G (O 0) = (6, 5)) (hA : zAll v) (hp : lT G Bs O v w hk mm) {Q : Nat} (hQ : Q < 2 ^ 31) (hR : nR v = 0) (hz : zIn (nI 0) (nI 0) (v 2 - nI 1) = false) (K : ∀ mm, lT G Bs O v w hk mm → zV l G (yL_deed, cL_deed, 16, (some .boolean)) 8 (some (.int (zB true))) (lT G Bs O u w hk) 59 [some (.ref (O 0)), some (.int (nI Q)), some (.int (nI 0)), some (.int (nI 0)), some (.int (-1)), some (.int (v (17 + 0))), none, none, none, none, none, none, none, none, none, none] [.int (nI (Q % 4))] mm) : zSem l G (yL_deed, cL_deed, 16, (some .boolean)) 8 [.ref (O 0), .int (nI Q)] mm (some (.int (zB true))) (lT G Bs O u w hk) := by
  have e2 : sCountW v (fun _ _ => 0) 2 = nI 0 := by show v 2 = nI 0; rw [hA.1.1.1.1.2.1.1, hR]
  refine z_met [some (.ref (O 0)), some (.int (nI Q)), none, none, none, none, none, none, none, none, none, none, none, none, none, none] rfl (zc1 (by rfl)) (Nat.le_of_ble_eq_true rfl) rfl ?_
  refine z_aload_n 0 rfl rfl dL_deed_0 ?_
  refine z_iconst (nI 2) dL_deed_1 rfl ?_
  refine z_uV1 (ci := 6) zm_X6_count (q_count hp hA (by omega) e2) rfl zl_L_16 rfl rfl (by decide) hO.1 hO.2 (by decide) (Nat.le_of_ble_eq_true rfl) dL_deed_2 (fun mm hp => ?_)
  refine z_if_ne 12 dL_deed_5 rfl (fun c5 => ?_) (fun c5 => ?_)
  · exact absurd c5 (by decide)
  · refine z_iconst (nI 0) dL_deed_8 rfl ?_
    refine z_goto 21 dL_deed_9 rfl ?_
    refine z_istore_n 2 rfl (Nat.le_of_ble_eq_true rfl) rfl dL_deed_21 ?_
    refine z_aload_n 0 rfl rfl dL_deed_22 ?_
    refine z_iconst (nI 2) dL_deed_23 rfl ?_
    refine z_uV1 (ci := 6) zm_X6_count (q_count hp hA (by omega) e2) rfl zl_L_16 rfl rfl (by decide) hO.1 hO.2 (by decide) (Nat.le_of_ble_eq_true rfl) dL_deed_24 (fun mm hp => ?_)
    refine z_if_ne 34 dL_deed_27 rfl (fun c27 => ?_) (fun c27 => ?_)
    · exact absurd c27 (by decide)
    · refine z_iconst (nI 0) dL_deed_30 rfl ?_
      refine z_goto 40 dL_deed_31 rfl ?_
      refine z_istore_n 3 rfl (Nat.le_of_ble_eq_true rfl) rfl dL_deed_40 ?_
      refine z_aload_n 0 rfl rfl dL_deed_41 ?_
      refine z_iload_n 2 rfl rfl dL_deed_42 ?_
      refine z_iconst (nI 3) dL_deed_43 rfl ?_
      refine z_uV2 (ci := 6) zm_X6_right (q_right hp hA (e_rightN hz)) rfl zl_L_29 rfl rfl (by decide) hO.1 hO.2 (by decide) (Nat.le_of_ble_eq_true rfl) dL_deed_44 (fun mm hp => ?_)
      refine z_istore 4 (Nat.le_of_ble_eq_true rfl) rfl dL_deed_47 ?_
      refine z_aload_n 0 rfl rfl dL_deed_49 ?_
      refine z_iload_n 3 rfl rfl dL_deed_50 ?_
      refine z_uS2 zm_L_account (c_L_account hO hA hp (by omega) rfl) rfl zl_L_20 (by decide) (Nat.le_of_ble_eq_true rfl) dL_deed_51 (fun mm hp => ?_)
      refine z_istore 5 (Nat.le_of_ble_eq_true rfl) rfl dL_deed_54 ?_
      refine z_iload_n 1 rfl rfl dL_deed_56 ?_
      refine z_iconst (nI 3) dL_deed_57 rfl ?_
      refine z_iandN 3 2 4 (by decide) (by decide) dL_deed_58 (by omega) ?_
      exact K mm hp
set_option maxRecDepth 4000 in
set_option maxHeartbeats 4000000 in
theorem l_deed_h1 {l : Launch} {G : zG} {Bs : Nat → Nat → Nat} {O : Nat → Nat} {v u w : Nat → Int32} {hk : Int32} {mm : zM} (hO : O 0 ∈ zL G ∧ zsh G (O 0) = (6, 5)) (hA : zAll v) (hp : lT G Bs O v w hk mm) {Q : Nat} (hQ : Q < 2 ^ 31) {g s : Nat} (hR : 0 < nR v) (hg : g < 10) (e1 : v (147 + 7 * (Q / 4 % nR v) + 1) = nI g) (e3 : v (147 + 7 * (Q / 4 % nR v) + 3) = nI s) (K : ∀ mm, lT G Bs O v w hk mm → zV l G (yL_deed, cL_deed, 16, (some .boolean)) 8 (some (.int (zB true))) (lT G Bs O u w hk) 59 [some (.ref (O 0)), some (.int (nI Q)), some (.int (nI (Q / 4 % nR v))), some (.int (nI g)), some (.int (nI s)), some (.int (v (17 + g))), none, none, none, none, none, none, none, none, none, none] [.int (nI (Q % 4))] mm) : zSem l G (yL_deed, cL_deed, 16, (some .boolean)) 8 [.ref (O 0), .int (nI Q)] mm (some (.int (zB true))) (lT G Bs O u w hk) := by
  have e2 : sCountW v (fun _ _ => 0) 2 = nI (nR v) := hA.1.1.1.1.2.1.1
  have h60 := hA.1.1.1.1.2.1.2
  have hr : Q / 4 % nR v < nR v := Nat.mod_lt _ hR
  refine z_met [some (.ref (O 0)), some (.int (nI Q)), none, none, none, none, none, none, none, none, none, none, none, none, none, none] rfl (zc1 (by rfl)) (Nat.le_of_ble_eq_true rfl) rfl ?_
  refine z_aload_n 0 rfl rfl dL_deed_0 ?_
  refine z_iconst (nI 2) dL_deed_1 rfl ?_
  refine z_uV1 (ci := 6) zm_X6_count (q_count hp hA (by omega) e2) rfl zl_L_16 rfl rfl (by decide) hO.1 hO.2 (by decide) (Nat.le_of_ble_eq_true rfl) dL_deed_2 (fun mm hp => ?_)
  refine z_if_ne 12 dL_deed_5 rfl (fun c5 => ?_) (fun c5 => ?_)
  · refine z_iload_n 1 rfl rfl dL_deed_12 ?_
    refine z_iconst (nI 2) dL_deed_13 rfl ?_
    refine z_ishrN 4 (by decide) dL_deed_14 (by omega) (by decide) ?_
    refine z_aload_n 0 rfl rfl dL_deed_15 ?_
    refine z_iconst (nI 2) dL_deed_16 rfl ?_
    refine z_uV1 (ci := 6) zm_X6_count (q_count hp hA (by omega) e2) rfl zl_L_16 rfl rfl (by decide) hO.1 hO.2 (by decide) (Nat.le_of_ble_eq_true rfl) dL_deed_17 (fun mm hp => ?_)
    refine z_iremN dL_deed_20 (by omega) (by omega) (by omega) ?_
    refine z_istore_n 2 rfl (Nat.le_of_ble_eq_true rfl) rfl dL_deed_21 ?_
    refine z_aload_n 0 rfl rfl dL_deed_22 ?_
    refine z_iconst (nI 2) dL_deed_23 rfl ?_
    refine z_uV1 (ci := 6) zm_X6_count (q_count hp hA (by omega) e2) rfl zl_L_16 rfl rfl (by decide) hO.1 hO.2 (by decide) (Nat.le_of_ble_eq_true rfl) dL_deed_24 (fun mm hp => ?_)
    refine z_if_ne 34 dL_deed_27 rfl (fun c27 => ?_) (fun c27 => ?_)
    · refine z_aload_n 0 rfl rfl dL_deed_34 ?_
      refine z_iload_n 2 rfl rfl dL_deed_35 ?_
      refine z_iconst (nI 1) dL_deed_36 rfl ?_
      refine z_uV2 (ci := 6) zm_X6_right (q_rightW hp hA hr (by omega) e1) rfl zl_L_29 rfl rfl (by decide) hO.1 hO.2 (by decide) (Nat.le_of_ble_eq_true rfl) dL_deed_37 (fun mm hp => ?_)
      refine z_istore_n 3 rfl (Nat.le_of_ble_eq_true rfl) rfl dL_deed_40 ?_
      refine z_aload_n 0 rfl rfl dL_deed_41 ?_
      refine z_iload_n 2 rfl rfl dL_deed_42 ?_
      refine z_iconst (nI 3) dL_deed_43 rfl ?_
      refine z_uV2 (ci := 6) zm_X6_right (q_rightW hp hA hr (by omega) e3) rfl zl_L_29 rfl rfl (by decide) hO.1 hO.2 (by decide) (Nat.le_of_ble_eq_true rfl) dL_deed_44 (fun mm hp => ?_)
      refine z_istore 4 (Nat.le_of_ble_eq_true rfl) rfl dL_deed_47 ?_
      refine z_aload_n 0 rfl rfl dL_deed_49 ?_
      refine z_iload_n 3 rfl rfl dL_deed_50 ?_
      refine z_uS2 zm_L_account (c_L_account hO hA hp hg rfl) rfl zl_L_20 (by decide) (Nat.le_of_ble_eq_true rfl) dL_deed_51 (fun mm hp => ?_)
      refine z_istore 5 (Nat.le_of_ble_eq_true rfl) rfl dL_deed_54 ?_
      refine z_iload_n 1 rfl rfl dL_deed_56 ?_
      refine z_iconst (nI 3) dL_deed_57 rfl ?_
      refine z_iandN 3 2 4 (by decide) (by decide) dL_deed_58 (by omega) ?_
      exact K mm hp
    · exact absurd c27 (nI_ne0 hR (by omega))
  · exact absurd c5 (nI_ne0 hR (by omega))
set_option maxRecDepth 4000 in
set_option maxHeartbeats 4000000 in
theorem c_L_deed {l : Launch} {G : zG} {Bs : Nat → Nat → Nat} {O : Nat → Nat} {v w : Nat → Int32} {hk : Int32} (hO : O 0 ∈ zL G ∧ zsh G (O 0) = (6, 5)) (hA : zAll v) {Q : Nat} (hQ : Q < 2 ^ 31) : ∃ u, zAll u ∧ kp v u ∧ ∀ mm, lT G Bs O v w hk mm → zSem l G (yL_deed, cL_deed, 16, (some .boolean)) 8 [.ref (O 0), .int (nI Q)] mm (some (.int (zB true))) (lT G Bs O u w hk) := by
  have hJ := hA.1.1.1.1.2.1
  have h10 := hA.1.1.1.1.1.2
  have h60 := hJ.2
  by_cases hR0 : nR v = 0
  · have hz : zIn (nI 0) (nI 0) (v 2 - nI 1) = false := by rw [hJ.1, hR0]; exact zIn_ge (by omega) (by omega)
    refine ⟨v, hA, kp.rf v, fun mm hp => l_deed_h0 hO hA hp hQ hR0 hz (fun mm hp => ?_)⟩
    rcases (by omega : Q % 4 = 0 ∨ Q % 4 = 1 ∨ Q % 4 = 2 ∨ Q % 4 = 3) with ej | ej | ej | ej <;> rw [ej]
    · refine z_tableIn 84 dL_deed_59 (by decide) (by decide) rfl rfl ?_
      exact l_deed_N0 hO hA hz hQ mm hp
    · refine z_tableIn 180 dL_deed_59 (by decide) (by decide) rfl rfl ?_
      exact l_deed_N1 hO hA hz hQ mm hp
    · refine z_tableIn 299 dL_deed_59 (by decide) (by decide) rfl rfl ?_
      exact l_deed_N2 hO hA hz hQ mm hp
    · refine z_tableOut 467 dL_deed_59 (Or.inr (by decide)) rfl ?_
      exact l_deed_N3 hO hA hz hQ mm hp
  · have hR : 0 < nR v := Nat.pos_of_ne_zero hR0
    have hr : Q / 4 % nR v < nR v := Nat.mod_lt _ hR
    obtain ⟨⟨d, hd, e0⟩, g, hg, e1⟩ := hA.1.1.1.1.2.2.2.2 _ hr
    obtain ⟨s, c, k, hs, e3, hc, e2, f2, f7, f4, f1⟩ := r_facts hA hd hr e0
    rcases (by omega : Q % 4 = 0 ∨ Q % 4 = 1 ∨ Q % 4 = 2 ∨ Q % 4 = 3) with ej | ej | ej | ej
    · by_cases h2 : s < 2
      · obtain ⟨hk7, e7, -⟩ := f2 h2
        obtain ⟨n, hn, e5, -⟩ := hA.1.1.1.1.2.2.1 d (by omega)
        have er : sRef v (Q / 4 % nR v) d = nI k := by
          have z := e_right7 (v := v) hJ hr (by omega) e0
          rw [e7, e3, if_pos (nI_lt h2 (by omega))] at z
          exact z.symm
        have ec := a_can hJ hr e3 h2 (by omega) e0 hg e1 hn e5
        have hB : zAll (sLB d n (sCan1 v (Q / 4 % nR v) d g)) := by have z := hA.can (nI (Q / 4 % nR v)); rw [ec] at z; exact z
        obtain ⟨q1, q2, q3⟩ := can_facts hA.1.1 hr hd hg e5 hn
        rw [er] at ec q3
        refine ⟨_, hB, kp.can hA.1.1 hr hd hg e5 hn, ?_⟩
        rcases q3 with q | ⟨q, q8⟩
        · exact fun mm hp => l_deed_h1 hO hA hp hQ hR hg e1 e3 (fun mm hp => by
        rw [ej]
        refine z_tableIn 84 dL_deed_59 (by decide) (by decide) rfl rfl ?_
        exact l_deed_A0c hO hA hQ hr hg hs h2 e7 hB (by omega) ec q2 q mm hp)
        · have ee : sEv (sLB d n (sCan1 v (Q / 4 % nR v) d g)) (nI 0) (nI 0) = nI 0 := (e_ev (w := 0) (by omega) q8 hB.1.1.1.2.2.2.2.2.2).trans q
          exact fun mm hp => l_deed_h1 hO hA hp hQ hR hg e1 e3 (fun mm hp => by
        rw [ej]
        refine z_tableIn 84 dL_deed_59 (by decide) (by decide) rfl rfl ?_
        exact l_deed_A0d hO hA hQ hr hg hs h2 e7 hB (by omega) ec q2 ee mm hp)
      · refine ⟨v, hA, kp.rf v, ?_⟩
        exact fun mm hp => l_deed_h1 hO hA hp hQ hR hg e1 e3 (fun mm hp => by
        rw [ej]
        refine z_tableIn 84 dL_deed_59 (by decide) (by decide) rfl rfl ?_
        exact l_deed_A0p hO hA hQ hr hg hs (by omega) (f7 (by omega)) (a_canP hJ hr e3 hs (by omega)) mm hp)
    · have e8 := e_right8 (v := v) hJ hr (by omega) e0
      cases hx : sEx v (Q / 4 % nR v) d with
      | true =>
        rw [hx] at e8
        have e30 := (sEx_st hx).1
        have ec := a_ex hJ hr (by omega) e0 hg e1 hx
        have hB : zAll (sEx1 v (Q / 4 % nR v) g) := by have z := hA.ex (nI (Q / 4 % nR v)); rw [ec] at z; exact z
        have k0 : sEx1 v (Q / 4 % nR v) g 0 = v 0 := sEx1_at hg (by omega) (by omega) (by omega) (by omega) (by omega) (by omega)
        have k1 : sEx1 v (Q / 4 % nR v) g 1 = v 1 := sEx1_at hg (by omega) (by omega) (by omega) (by omega) (by omega) (by omega)
        have k2 : sEx1 v (Q / 4 % nR v) g 2 = v 2 := sEx1_at hg (by omega) (by omega) (by omega) (by omega) (by omega) (by omega)
        have k6 : sEx1 v (Q / 4 % nR v) g 6 = v 6 := sEx1_at hg (by omega) (by omega) (by omega) (by omega) (by omega) (by omega)
        refine ⟨_, hB, ⟨k0, k1⟩, ?_⟩
        have hs0 : s = 0 := (nI_eq (by omega) (by omega)).mp (e3.symm.trans e30)
        subst hs0
        exact fun mm hp => l_deed_h1 hO hA hp hQ hR hg e1 e3 (fun mm hp => by
        rw [ej]
        refine z_tableIn 180 dL_deed_59 (by decide) (by decide) rfl rfl ?_
        exact l_deed_A1t hO hA hQ hr hg hd e0 e8 (X := sOf v d (nI 2) (nI 2)) rfl (Nat.le_trans sCnt_le h60) hB (by rw [nR_of k2]; exact hr) ec (sEx1_acc hg (by omega)) k6 (sEx1_3 (by omega)) mm hp)
      | false =>
        rw [hx] at e8
        refine ⟨v, hA, kp.rf v, ?_⟩
        exact fun mm hp => l_deed_h1 hO hA hp hQ hR hg e1 e3 (fun mm hp => by
        rw [ej]
        refine z_tableIn 180 dL_deed_59 (by decide) (by decide) rfl rfl ?_
        exact l_deed_A1f hO hA hQ hr hg hs hd e0 e8 (X := sOf v d (nI 2) (nI 2)) rfl (a_exP hJ hr (by omega) e0 hx) mm hp)
    · obtain ⟨-, -, -, ⟨b, hb1, hb, eb⟩, -⟩ := hA.1.1.1.2.2.2.1 d hd
      have hml : Q / 256 % (2 * b + 2) < 2 * b + 2 := Nat.mod_lt _ (by omega)
      by_cases h2 : s < 2
      · by_cases hP : 2 * b < 1 + Q / 256 % (2 * b + 2)
        · refine ⟨v, hA, kp.rf v, ?_⟩
          exact fun mm hp => l_deed_h1 hO hA hp hQ hR hg e1 e3 (fun mm hp => by
        rw [ej]
        refine z_tableIn 299 dL_deed_59 (by decide) (by decide) rfl rfl ?_
        exact l_deed_A2b hO hA hQ hr hg hs hd e0 hb1 hb eb h2 rfl hP (a_ofrB hJ hr e3 h2 (by omega) e0 hb eb hP (by omega)) mm hp)
        · have hP2 : 1 + Q / 256 % (2 * b + 2) ≤ 2 * b := by omega
          by_cases e4 : v (147 + 7 * (Q / 4 % nR v) + 4) = nI (1 + Q / 256 % (2 * b + 2))
          · refine ⟨v, hA, kp.rf v, ?_⟩
            exact fun mm hp => l_deed_h1 hO hA hp hQ hR hg e1 e3 (fun mm hp => by
        rw [ej]
        refine z_tableIn 299 dL_deed_59 (by decide) (by decide) rfl rfl ?_
        exact l_deed_A2s hO hA hQ hr hg hs hd e0 hb1 hb eb h2 e4 hP2 (a_ofrS hJ hr e3 h2 (by omega) e0 hb eb hP2 (by omega) e4) mm hp)
          · have ec := a_ofr hJ hr e3 h2 (by omega) e0 hb eb hP2 (by omega) e4
            have hB : zAll (sLog (sSta v (Q / 4 % nR v) (nI 1) (nI (1 + Q / 256 % (2 * b + 2)))) (nI 2) (nI (Q / 4 % nR v)) (nI (1 + Q / 256 % (2 * b + 2)))) := by have z := hA.ofr (nI (Q / 4 % nR v)) (nI (1 + Q / 256 % (2 * b + 2))); rw [ec] at z; exact z
            generalize hu : sLog (sSta v (Q / 4 % nR v) (nI 1) (nI (1 + Q / 256 % (2 * b + 2)))) (nI 2) (nI (Q / 4 % nR v)) (nI (1 + Q / 256 % (2 * b + 2))) = u at ec hB
            have k0 : u 0 = v 0 := by rw [← hu, sLog_at (by omega) (by omega), sSta_at (by omega) (by omega)]
            have k1 : u 1 = v 1 := by rw [← hu, sLog_at (by omega) (by omega), sSta_at (by omega) (by omega)]
            have k2 : u 2 = v 2 := by rw [← hu, sLog_at (by omega) (by omega), sSta_at (by omega) (by omega)]
            have k4 : u (147 + 7 * (Q / 4 % nR v) + 4) = nI (1 + Q / 256 % (2 * b + 2)) := by rw [← hu, sLog_at (by omega) (by omega), sSta_4]
            have hru : Q / 4 % nR v < nR u := by rw [nR_of k2]; exact hr
            refine ⟨u, hB, ⟨k0, k1⟩, ?_⟩
            by_cases h1 : s = 1
            · obtain ⟨E, b2, hE1, hE2, eE, -⟩ := f1 h1
              rw [eE, if_pos (nI_nneg (by omega))] at ec
              exact fun mm hp => l_deed_h1 hO hA hp hQ hR hg e1 e3 (fun mm hp => by
        rw [ej]
        refine z_tableIn 299 dL_deed_59 (by decide) (by decide) rfl rfl ?_
        exact l_deed_A2o hO hA hQ hr hg hs hd e0 hb1 hb eb hE2 h2 eE (fun z => e4 (by rw [eE, z])) hP2 hB hru k4 ec mm hp)
            · have e5 := f4 h1
              rw [e5, if_neg (by decide)] at ec
              exact fun mm hp => l_deed_h1 hO hA hp hQ hR hg e1 e3 (fun mm hp => by
        rw [ej]
        refine z_tableIn 299 dL_deed_59 (by decide) (by decide) rfl rfl ?_
        exact l_deed_A2n hO hA hQ hr hg hs hd e0 hb1 hb eb h2 e5 hP2 hB hru k4 ec mm hp)
      · refine ⟨v, hA, kp.rf v, ?_⟩
        exact fun mm hp => l_deed_h1 hO hA hp hQ hR hg e1 e3 (fun mm hp => by
        rw [ej]
        refine z_tableIn 299 dL_deed_59 (by decide) (by decide) rfl rfl ?_
        exact l_deed_A2p hO hA hQ hr hg hs hd e0 hb1 hb eb (by omega) rfl (a_ofrP hJ hr e3 hs (by omega)) mm hp)
    · by_cases h1 : s = 1
      · subst h1
        have ec := a_tk hJ hr e3
        have hB : zAll (sBec v (Q / 4 % nR v) (nI 0)) := by have z := hA.tk (nI (Q / 4 % nR v)); rw [ec] at z; exact z
        have k0 : sBec v (Q / 4 % nR v) (nI 0) 0 = v 0 := sBec_at (by omega) (by omega)
        have k1 : sBec v (Q / 4 % nR v) (nI 0) 1 = v 1 := sBec_at (by omega) (by omega)
        have k2 : sBec v (Q / 4 % nR v) (nI 0) 2 = v 2 := sBec_at (by omega) (by omega)
        refine ⟨_, hB, ⟨k0, k1⟩, ?_⟩
        exact fun mm hp => l_deed_h1 hO hA hp hQ hR hg e1 e3 (fun mm hp => by
        rw [ej]
        refine z_tableOut 467 dL_deed_59 (Or.inr (by decide)) rfl ?_
        exact l_deed_A3t hO hA hQ hr hg rfl hB (by rw [nR_of k2]; exact hr) ec (by rw [sBec_sta, sSta_3]) mm hp)
      · refine ⟨v, hA, kp.rf v, ?_⟩
        exact fun mm hp => l_deed_h1 hO hA hp hQ hR hg e1 e3 (fun mm hp => by
        rw [ej]
        refine z_tableOut 467 dL_deed_59 (Or.inr (by decide)) rfl ?_
        exact l_deed_A3p hO hA hQ hr hg hs h1 rfl (a_tkP hJ hr e3 hs h1) mm hp)
