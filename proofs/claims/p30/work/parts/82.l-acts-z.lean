theorem sCs_le {v : Nat → Int32} {x : Int32} : ∀ {n : Nat}, sCs v x n ≤ n
  | 0 => Nat.le_refl _
  | n + 1 => by
    have := sCs_le (v := v) (x := x) (n := n)
    rw [sCs_s]
    split <;> omega
set_option maxRecDepth 4000 in
set_option maxHeartbeats 4000000 in
theorem l_acts_h {l : Launch} {G : zG} {Bs : Nat → Nat → Nat} {O : Nat → Nat} {v u w : Nat → Int32} {hk : Int32} {mm : zM} (hO : O 0 ∈ zL G ∧ zsh G (O 0) = (6, 5)) (hA : zAll v) (hp : lT G Bs O v w hk mm) {Y : Nat} (hY : Y < 2 ^ 31) (hD : 0 < nD v) (K : ∀ mm, lT G Bs O v w hk mm → zV l G (yL_acts, cL_acts, 17, (some .boolean)) 9 (some (.int (zB true))) (lT G Bs O (u) w hk) 32 [some (.ref (O 0)), some (.int (nI Y)), some (.int (nI (Y / 8))), some (.int (nI (Y / 8 % nD v))), some (.int (nI (Y / 8 / 16 % 10))), some (.int (v (17 + (Y / 8 / 16 % 10)))), none, none, none, none, none, none, none, none, none, none, none] [.int (nI (Y % 8))] mm) : zSem l G (yL_acts, cL_acts, 17, (some .boolean)) 9 [.ref (O 0), .int (nI Y)] mm (some (.int (zB true))) (lT G Bs O u w hk) := by
  have h10 := hA.1.1.1.1.1.2
  refine z_met [some (.ref (O 0)), some (.int (nI Y)), none, none, none, none, none, none, none, none, none, none, none, none, none, none, none] rfl (zc1 (by rfl)) (Nat.le_of_ble_eq_true rfl) rfl ?_
  refine z_iload_n 1 rfl rfl dL_acts_0 ?_
  refine z_iconst (nI 3) dL_acts_1 rfl ?_
  refine z_ishrN 8 (by decide) dL_acts_2 (by omega) (by decide) ?_
  refine z_istore_n 2 rfl (Nat.le_of_ble_eq_true rfl) rfl dL_acts_3 ?_
  refine z_iload_n 2 rfl rfl dL_acts_4 ?_
  refine z_aload_n 0 rfl rfl dL_acts_5 ?_
  refine z_iconst (nI 1) dL_acts_6 rfl ?_
  refine z_uV1 (ci := 6) zm_X6_count (q_count hp hA (by omega) (x := nI (nD v)) hA.1.1.1.1.1.1) rfl zl_L_16 rfl rfl (by decide) hO.1 hO.2 (by decide) (Nat.le_of_ble_eq_true rfl) dL_acts_7 (fun mm hp => ?_)
  refine z_iremN dL_acts_10 (by omega) (by omega) (by omega) ?_
  refine z_istore_n 3 rfl (Nat.le_of_ble_eq_true rfl) rfl dL_acts_11 ?_
  refine z_iload_n 2 rfl rfl dL_acts_12 ?_
  refine z_iconst (nI 4) dL_acts_13 rfl ?_
  refine z_ishrN 16 (by decide) dL_acts_14 (by omega) (by decide) ?_
  refine z_bipush (nI 10) dL_acts_15 rfl ?_
  refine z_iremN dL_acts_17 (by omega) (by omega) (by omega) ?_
  refine z_istore 4 (Nat.le_of_ble_eq_true rfl) rfl dL_acts_18 ?_
  refine z_aload_n 0 rfl rfl dL_acts_20 ?_
  refine z_iload 4 rfl dL_acts_21 ?_
  refine z_uS2 zm_L_account (c_L_account hO hA hp (Nat.mod_lt _ (by omega)) rfl) rfl zl_L_20 (by decide) (Nat.le_of_ble_eq_true rfl) dL_acts_23 (fun mm hp => ?_)
  refine z_istore 5 (Nat.le_of_ble_eq_true rfl) rfl dL_acts_26 ?_
  refine z_iload_n 1 rfl rfl dL_acts_28 ?_
  refine z_bipush (nI 7) dL_acts_29 rfl ?_
  refine z_iandN 7 3 8 (by decide) (by decide) dL_acts_31 (by omega) ?_
  exact K mm hp
set_option maxRecDepth 4000 in
set_option maxHeartbeats 8000000 in
theorem c_L_acts {l : Launch} {G : zG} {Bs : Nat → Nat → Nat} {O : Nat → Nat} {v w : Nat → Int32} {hk : Int32} (hO : O 0 ∈ zL G ∧ zsh G (O 0) = (6, 5)) (hA : zAll v) {Y t : Nat} (hY : Y < 2 ^ 31) (hD : 0 < nD v) (e0 : v 0 = nI t) (ht : t ≤ 9000) : ∃ u, zAll u ∧ nD u = nD v ∧ (∃ t', t' ≤ t + 4 ∧ u 0 = nI t') ∧ ∀ mm, lT G Bs O v w hk mm → zSem l G (yL_acts, cL_acts, 17, (some .boolean)) 9 [.ref (O 0), .int (nI Y)] mm (some (.int (zB true))) (lT G Bs O u w hk) := by
  have hJ1 := hA.1.1.1.1.1
  have hJ2 := hA.1.1.1.1.2.1
  have h10 := hJ1.2
  have h60 := hJ2.2
  have hd : (Y / 8 % nD v) < nD v := Nat.mod_lt _ hD
  have hh : (Y / 8 / 16 % 10) < 10 := Nat.mod_lt _ (by omega)
  have hZ : Y / 8 < 2 ^ 31 := by omega
  rcases (by omega : Y % 8 = 0 ∨ Y % 8 = 1 ∨ Y % 8 = 2 ∨ Y % 8 = 3 ∨ Y % 8 = 4 ∨ Y % 8 = 5 ∨ Y % 8 = 6 ∨ Y % 8 = 7) with ej | ej | ej | ej | ej | ej | ej | ej
  · obtain ⟨L, p, su, bs, W, cd, F⟩ := d_facts hA hd
    obtain ⟨hL, eL, -, -, -, -, -, g1, g0⟩ := F
    by_cases hL0 : L = 0
    · subst hL0
      exact ⟨v, hA, rfl, ⟨t, by omega, e0⟩, fun mm hp => l_acts_h hO hA hp hY hD (fun mm hp => by
        rw [ej]
        refine z_tableIn 76 dL_acts_32 (by decide) (by decide) rfl rfl ?_
        exact l_acts_BN hO hA hZ hd hh rfl eL (a_buyN hJ1 hh hd (g0 rfl).1) mm hp)⟩
    · have hLp : 0 < L := Nat.pos_of_ne_zero hL0
      obtain ⟨o1, o2, o3⟩ := g1 hLp
      by_cases hc : sCan v (Y / 8 % nD v) = 0
      · exact ⟨v, hA, rfl, ⟨t, by omega, e0⟩, fun mm hp => l_acts_h hO hA hp hY hD (fun mm hp => by
          rw [ej]
          refine z_tableIn 76 dL_acts_32 (by decide) (by decide) rfl rfl ?_
          exact l_acts_BF hO hA hZ hd hh rfl hLp hL eL hc (a_buyF hJ1 hh hd o1 hc) mm hp)⟩
      · have ec := a_buy hJ1 hh hd o1 hc
        obtain ⟨hR, -⟩ := sCan_pos hJ2 (sCan_ne hc)
        have hB : zAll (sSells v (Y / 8 / 16 % 10) (Y / 8 % nD v)) := by have z := hA.buy (nI (Y / 8 / 16 % 10)) (nI (Y / 8 % nD v)); rw [ec] at z; exact z
        have kk : kp v (sSells v (Y / 8 / 16 % 10) (Y / 8 % nD v)) := kp.sells hh
        have hru := sSells_R (d := (Y / 8 % nD v)) hA.1.1.1.1 hR hd hh
        obtain ⟨f2, f5, fa, fe, f7, f8⟩ := sSells_facts (d := (Y / 8 % nD v)) hR hh hA.1.1.1.2.2.2.2.2.2
        have edu : sSells v (Y / 8 / 16 % 10) (Y / 8 % nD v) (27 + 12 * (Y / 8 % nD v) + 0) = v (27 + 12 * (Y / 8 % nD v) + 0) := sSells_at (by omega) (by omega) (by omega) (by omega) (by omega)
        have hdu : (Y / 8 % nD v) < nD (sSells v (Y / 8 / 16 % 10) (Y / 8 % nD v)) := by rw [kk.nd]; exact hd
        obtain ⟨L2, p2, su2, bs2, W2, cd2, F2⟩ := d_facts hB hdu
        obtain ⟨hL2, eL2, -, -, -, -, -, -, g2⟩ := F2
        have hL2p : 0 < L2 := Nat.pos_of_ne_zero (fun z => (g2 z).2.2 (by rw [kk.1, edu]; exact o3))
        exact ⟨_, hB, kk.nd, ⟨t, by omega, kk.1.trans e0⟩, fun mm hp => l_acts_h hO hA hp hY hD (fun mm hp => by
          rw [ej]
          refine z_tableIn 76 dL_acts_32 (by decide) (by decide) rfl rfl ?_
          exact l_acts_BC hO hA hZ hd hh rfl hL2p hL2 rfl hc hB hdu (by omega) eL2 ec f2 f5 kk.1 fa ((e_ev (w := 2) (by omega) f8 hB.1.1.1.2.2.2.2.2.2).trans fe) mm hp)⟩
  · obtain ⟨L, p, su, bs, W, cd, F⟩ := d_facts hA hd
    obtain ⟨hL, eL, -, -, -, -, -, g1, g0⟩ := F
    by_cases hL0 : L = 0
    · subst hL0
      exact ⟨v, hA, rfl, ⟨t, by omega, e0⟩, fun mm hp => l_acts_h hO hA hp hY hD (fun mm hp => by
        rw [ej]
        refine z_tableIn 76 dL_acts_32 (by decide) (by decide) rfl rfl ?_
        exact l_acts_BN hO hA hZ hd hh rfl eL (a_buyN hJ1 hh hd (g0 rfl).1) mm hp)⟩
    · have hLp : 0 < L := Nat.pos_of_ne_zero hL0
      obtain ⟨o1, o2, o3⟩ := g1 hLp
      by_cases hc : sCan v (Y / 8 % nD v) = 0
      · exact ⟨v, hA, rfl, ⟨t, by omega, e0⟩, fun mm hp => l_acts_h hO hA hp hY hD (fun mm hp => by
          rw [ej]
          refine z_tableIn 76 dL_acts_32 (by decide) (by decide) rfl rfl ?_
          exact l_acts_BF hO hA hZ hd hh rfl hLp hL eL hc (a_buyF hJ1 hh hd o1 hc) mm hp)⟩
      · have ec := a_buy hJ1 hh hd o1 hc
        obtain ⟨hR, -⟩ := sCan_pos hJ2 (sCan_ne hc)
        have hB : zAll (sSells v (Y / 8 / 16 % 10) (Y / 8 % nD v)) := by have z := hA.buy (nI (Y / 8 / 16 % 10)) (nI (Y / 8 % nD v)); rw [ec] at z; exact z
        have kk : kp v (sSells v (Y / 8 / 16 % 10) (Y / 8 % nD v)) := kp.sells hh
        have hru := sSells_R (d := (Y / 8 % nD v)) hA.1.1.1.1 hR hd hh
        obtain ⟨f2, f5, fa, fe, f7, f8⟩ := sSells_facts (d := (Y / 8 % nD v)) hR hh hA.1.1.1.2.2.2.2.2.2
        have edu : sSells v (Y / 8 / 16 % 10) (Y / 8 % nD v) (27 + 12 * (Y / 8 % nD v) + 0) = v (27 + 12 * (Y / 8 % nD v) + 0) := sSells_at (by omega) (by omega) (by omega) (by omega) (by omega)
        have hdu : (Y / 8 % nD v) < nD (sSells v (Y / 8 / 16 % 10) (Y / 8 % nD v)) := by rw [kk.nd]; exact hd
        obtain ⟨L2, p2, su2, bs2, W2, cd2, F2⟩ := d_facts hB hdu
        obtain ⟨hL2, eL2, -, -, -, -, -, -, g2⟩ := F2
        have hL2p : 0 < L2 := Nat.pos_of_ne_zero (fun z => (g2 z).2.2 (by rw [kk.1, edu]; exact o3))
        exact ⟨_, hB, kk.nd, ⟨t, by omega, kk.1.trans e0⟩, fun mm hp => l_acts_h hO hA hp hY hD (fun mm hp => by
          rw [ej]
          refine z_tableIn 76 dL_acts_32 (by decide) (by decide) rfl rfl ?_
          exact l_acts_BC hO hA hZ hd hh rfl hL2p hL2 rfl hc hB hdu (by omega) eL2 ec f2 f5 kk.1 fa ((e_ev (w := 2) (by omega) f8 hB.1.1.1.2.2.2.2.2.2).trans fe) mm hp)⟩
  · cases hL : sLow v (Y / 8 % nD v) (nI 1) 4 (nR v) with
    | none => exact ⟨v, hA, rfl, ⟨t, by omega, e0⟩, fun mm hp => l_acts_h hO hA hp hY hD (fun mm hp => by
        rw [ej]
        refine z_tableIn 219 dL_acts_32 (by decide) (by decide) rfl rfl ?_
        exact l_acts_ON hO hA hZ hd hh rfl (a_offN hJ1 hh hd (Or.inl hL)) mm hp)⟩
    | some r =>
      obtain ⟨hr, r0, r3⟩ := sLow_spec hL
      obtain ⟨-, g, hg, e1⟩ := hA.1.1.1.1.2.2.2.2 r hr
      by_cases hgh : g = (Y / 8 / 16 % 10)
      · exact ⟨v, hA, rfl, ⟨t, by omega, e0⟩, fun mm hp => l_acts_h hO hA hp hY hD (fun mm hp => by
          rw [ej]
          refine z_tableIn 219 dL_acts_32 (by decide) (by decide) rfl rfl ?_
          exact l_acts_ON hO hA hZ hd hh rfl (a_offN hJ1 hh hd (Or.inr ⟨r, hL, by rw [e1, hgh]⟩)) mm hp)⟩
      · obtain ⟨A, hA1, hA2, eA⟩ := (hA.1.1.1.2.2.2.2.1 r hr).2.2.1 r3
        have ec := a_off hJ1 hh hd hL hg e1 hgh
        have hB : zAll (sOff v r (Y / 8 / 16 % 10) g) := by have z := hA.off (nI (Y / 8 / 16 % 10)) (nI (Y / 8 % nD v)); rw [ec] at z; exact z
        have kk : kp v (sOff v r (Y / 8 / 16 % 10) g) := kp.off (by omega) hh hg
        obtain ⟨f1, f3, fa, f7⟩ := sOff_facts (v := v) (r := r) (by omega) hh hg hgh
        rw [eA] at fa f7
        have f4 : sOff v r (Y / 8 / 16 % 10) g 4 = v 4 := sOff_at hh hg (by omega) (by omega) (by omega) (by omega) (by omega)
        have fr : sOff v r (Y / 8 / 16 % 10) g 2 = v 2 := sOff_at hh hg (by omega) (by omega) (by omega) (by omega) (by omega)
        have e13 : sDateW v (Y / 8 % nD v) 13 = nI A := by
          show (match sLow v (Y / 8 % nD v) (nI 1) 4 (nR v) with | none => -5 | some r => v (147 + 7 * r + 4)) = nI A
          rw [hL]; exact eA
        have f9 : sCountW (sOff v r (Y / 8 / 16 % 10) g) (fun _ _ => 0) 9 = sCountW v (fun _ _ => 0) 9 + nI A * v 4 / nI 100 := by
          show sOff v r (Y / 8 / 16 % 10) g 7 + 1000000000 = v 7 + 1000000000 + nI A * v 4 / nI 100
          rw [f7]; ac_rfl
        exact ⟨_, hB, kk.nd, ⟨t, by omega, kk.1.trans e0⟩, fun mm hp => l_acts_h hO hA hp hY hD (fun mm hp => by
          rw [ej]
          refine z_tableIn 219 dL_acts_32 (by decide) (by decide) rfl rfl ?_
          exact l_acts_OC hO hA hZ hd hh hA1 hA2 (by omega) e13 rfl hB (by rw [nR_of fr]; exact hr) ec f1 f3 fa f4 f9 mm hp)⟩
  · obtain ⟨u, hB, kk, hK⟩ := c_L_deed (l := l) (G := G) (Bs := Bs) (w := w) (hk := hk) hO hA (Q := Y / 8 / 2) (by omega)
    exact ⟨u, hB, kk.nd, ⟨t, by omega, kk.1.trans e0⟩, fun mm hp => l_acts_h hO hA hp hY hD (fun mm hp => by
      rw [ej]
      refine z_tableIn 343 dL_acts_32 (by decide) (by decide) rfl rfl ?_
      exact l_acts_DD hO hA hZ hd hh hK mm hp)⟩
  · obtain ⟨u, hB, kk, hK⟩ := c_L_deed (l := l) (G := G) (Bs := Bs) (w := w) (hk := hk) hO hA (Q := Y / 8 / 2) (by omega)
    exact ⟨u, hB, kk.nd, ⟨t, by omega, kk.1.trans e0⟩, fun mm hp => l_acts_h hO hA hp hY hD (fun mm hp => by
      rw [ej]
      refine z_tableIn 343 dL_acts_32 (by decide) (by decide) rfl rfl ?_
      exact l_acts_DD hO hA hZ hd hh hK mm hp)⟩
  · obtain ⟨N, hN, e5, -⟩ := hA.1.1.1.1.2.2.1 (Y / 8 % nD v) (by omega)
    have e12 : sDateW v (Y / 8 % nD v) 12 = nI N := e5
    by_cases hok : sOpen v (Y / 8 % nD v) = true ∧ sPl v (Y / 8 % nD v) (nI (Y / 8 / 16 % 10)) N < 0
    · by_cases hN6 : N = 6
      · subst hN6
        exact ⟨v, hA, rfl, ⟨t, by omega, e0⟩, fun mm hp => l_acts_h hO hA hp hY hD (fun mm hp => by
          rw [ej]
          refine z_tableIn 351 dL_acts_32 (by decide) (by decide) rfl rfl ?_
          exact l_acts_AF hO hA hZ hd hh e12 (a_awF hJ1 hh hd e5 hok) mm hp)⟩
      · have hN7 : N < 6 := by omega
        have ec := a_aw hJ1 hh hd hN7 e5 hok
        have hB1 : zAll (sAw1 v (Y / 8 % nD v) N (nI (Y / 8 / 16 % 10))) := by have z := hA.aw (nI (Y / 8 / 16 % 10)) (nI (Y / 8 % nD v)); rw [ec] at z; exact z
        have k0 : sAw1 v (Y / 8 % nD v) N (nI (Y / 8 / 16 % 10)) 0 = v 0 := sAw1_at (by omega) (by omega)
        have k1 : sAw1 v (Y / 8 % nD v) N (nI (Y / 8 / 16 % 10)) 1 = v 1 := sAw1_at (by omega) (by omega)
        have hd1 : (Y / 8 % nD v) < nD (sAw1 v (Y / 8 % nD v) N (nI (Y / 8 / 16 % 10))) := by rw [nD_of k1]; exact hd
        have ew : sWait (sAw1 v (Y / 8 % nD v) N (nI (Y / 8 / 16 % 10))) (nI (Y / 8 % nD v)) (nI N) = nI (Y / 8 / 16 % 10) := by rw [e_wait hB1.1.1.1.1.1 hd1 sAw1_5 (by omega) (by omega), if_pos (by omega)]; exact sAw1_n
        by_cases hz : Y / 8 / 512 % 4 = 0
        · obtain ⟨p1, p2⟩ := aw_last (v := v) (d := (Y / 8 % nD v)) hN7 hok.2
          have ec2 := a_lv hB1.1.1.1.1.1 hh hd1 (by omega) (by omega) sAw1_5 p1
          have hB2 : zAll (sDrop (sAw1 v (Y / 8 % nD v) N (nI (Y / 8 / 16 % 10))) (Y / 8 % nD v) N (N + 1)) := by have z := hB1.lv (nI (Y / 8 / 16 % 10)) (nI (Y / 8 % nD v)); rw [ec2] at z; exact z
          have m0 : sDrop (sAw1 v (Y / 8 % nD v) N (nI (Y / 8 / 16 % 10))) (Y / 8 % nD v) N (N + 1) 0 = v 0 := (sDrop_at (by omega) (by omega) (by omega)).trans k0
          have m1 : sDrop (sAw1 v (Y / 8 % nD v) N (nI (Y / 8 / 16 % 10))) (Y / 8 % nD v) N (N + 1) 1 = v 1 := (sDrop_at (by omega) (by omega) (by omega)).trans k1
          have ec3 := a_lvN hB2.1.1.1.1.1 hh (by rw [nD_of m1]; exact hd) hN (sDrop_5 (by omega) sAw1_5) p2
          exact ⟨_, hB2, nD_of m1, ⟨t, by omega, m0.trans e0⟩, fun mm hp => l_acts_h hO hA hp hY hD (fun mm hp => by
            rw [ej]
            refine z_tableIn 351 dL_acts_32 (by decide) (by decide) rfl rfl ?_
            exact l_acts_AC2 hO hA hZ hd hh hN7 e12 hB1 ec ew hz hB2 ec2 ec3 mm hp)⟩
        · exact ⟨_, hB1, nD_of k1, ⟨t, by omega, k0.trans e0⟩, fun mm hp => l_acts_h hO hA hp hY hD (fun mm hp => by
            rw [ej]
            refine z_tableIn 351 dL_acts_32 (by decide) (by decide) rfl rfl ?_
            exact l_acts_AC1 hO hA hZ hd hh hN7 e12 hB1 ec ew (Nat.pos_of_ne_zero hz) mm hp)⟩
    · exact ⟨v, hA, rfl, ⟨t, by omega, e0⟩, fun mm hp => l_acts_h hO hA hp hY hD (fun mm hp => by
        rw [ej]
        refine z_tableIn 351 dL_acts_32 (by decide) (by decide) rfl rfl ?_
        exact l_acts_AN hO hA hZ hd hh hN e12 (a_awN hJ1 hh hd hN e5 hok) mm hp)⟩
  · have ec := a_pass e0 (k := 1 + Y / 8 % 4) (by omega) (by omega) (by omega)
    have hB : zAll (sDays v (1 + Y / 8 % 4)).2 := by have z := hA.pass (nI (1 + Y / 8 % 4)); rw [ec] at z; exact z
    obtain ⟨x1, x2⟩ := c5_days hA.1.1.1 hA.1.1.2 e0 (1 + Y / 8 % 4) _ _ (by omega) rfl
    obtain ⟨-, -, x3⟩ := sDays_H hA.1.1.1 hA.1.1.2 e0 (1 + Y / 8 % 4) _ _ (by omega) rfl
    have x4 := sDays_bd hA.1.1.1.1 (1 + Y / 8 % 4) _ _ rfl
    have x5 : c5 v ≤ 60 := Nat.le_trans sCs_le h60
    exact ⟨_, hB, x2, ⟨t + (1 + Y / 8 % 4), by omega, x3⟩, fun mm hp => l_acts_h hO hA hp hY hD (fun mm hp => by
      rw [ej]
      refine z_tableIn 450 dL_acts_32 (by decide) (by decide) rfl rfl ?_
      exact l_acts_P hO hA hZ hd hh ht e0 (by omega) hB ec x1 (by rw [x3]; congr 1; omega) x5 mm hp)⟩
  · rcases (by omega : Y / 8 % 4 = 0 ∨ Y / 8 % 4 = 1 ∨ 2 ≤ Y / 8 % 4) with hz | hz | hz
    · exact ⟨_, hA.set _ _, (kp.set _ _).nd, ⟨t, by omega, (kp.set _ _).1.trans e0⟩, fun mm hp => l_acts_h hO hA hp hY hD (fun mm hp => by
        rw [ej]
        refine z_tableOut 508 dL_acts_32 (Or.inr (by decide)) rfl ?_
        exact l_acts_D0 hO hA hZ hd hh hz mm hp)⟩
    · exact ⟨_, hA.set _ _, (kp.set _ _).nd, ⟨t, by omega, (kp.set _ _).1.trans e0⟩, fun mm hp => l_acts_h hO hA hp hY hD (fun mm hp => by
        rw [ej]
        refine z_tableOut 508 dL_acts_32 (Or.inr (by decide)) rfl ?_
        exact l_acts_D1 hO hA hZ hd hh hz mm hp)⟩
    · exact ⟨_, hA.st _ _ _, (kp.st _ _ _).nd, ⟨t, by omega, (kp.st _ _ _).1.trans e0⟩, fun mm hp => l_acts_h hO hA hp hY hD (fun mm hp => by
        rw [ej]
        refine z_tableOut 508 dL_acts_32 (Or.inr (by decide)) rfl ?_
        exact l_acts_D2 hO hA hZ hd hh hz mm hp)⟩
