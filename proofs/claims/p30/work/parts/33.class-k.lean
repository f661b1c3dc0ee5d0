def kCpy (u w : Nat → Int32) (ι : Nat → Nat) : Nat → (Nat → Int32)
  | 0 => u
  | n + 1 => upd (kCpy u w ι n) (ι n) (w (ι n))
theorem kCpy_u {u w : Nat → Int32} {ι : Nat → Nat} {i : Nat} (h : u i = w i) : ∀ n, kCpy u w ι n i = w i
  | 0 => h
  | n + 1 => zWu (kCpy_u h n)
theorem kCpy_s {u w : Nat → Int32} {ι : Nat → Nat} {k : Nat} : ∀ n, k < n → kCpy u w ι n (ι k) = w (ι k)
  | 0, h => by omega
  | n + 1, h => by
    by_cases e : k = n
    · subst e; exact zWs
    · exact zWu (kCpy_s n (by omega))
set_option maxRecDepth 4000 in
theorem l_X6_copyAll {l : Launch} {G : zG} {B C : Nat → Nat} {m0 m1 : zM} {w : Nat → Int32} {σ ρ : Nat → Nat} {f : Nat → Nat → Int32} {u : Nat → Int32} (hs : zCP G C m1 w m0) (hD : ∀ i j, zBd i → zBd j → C i ≠ B j) (j N : Nat) (ι : Nat → Nat) (hj : zBd j) (hN : N ≤ 10) (hsh : zBsh j = (9, N)) (hι : ∀ k, k < N → zIx j k = some (ι k)) : ∀ i, i ≤ N → ∀ mm, zCPe G B m0 (kCpy u w ι i) σ ρ f mm → zV l G (yX6_copyAll, cX6_copyAll, 3, none) 1 none (fun m' => zCPe G B m0 (kCpy u w ι N) σ ρ f m') 2 [some (.ref (C j)), some (.ref (B j)), some (.int (nI i))] [] mm := by
  refine z_loop N (fun i hi ih mm hp => ?_)
  refine z_iload_n 2 rfl rfl dX6_copyAll_2 ?_
  refine z_aload_n 0 rfl rfl dX6_copyAll_3 ?_
  refine z_alen (t0 := 1) (nI N) (hs.1 _ hj) ((hs.2.1 _ hj).trans hsh) (by decide) rfl rfl dX6_copyAll_4 ?_
  refine z_icmp_ge 26 dX6_copyAll_5 rfl (fun c5 => ?_) (fun c5 => ?_)
  · have e : i = N := by have := (nI_leI (by omega) (by omega)).mp c5; omega
    subst e
    exact z_vret dX6_copyAll_26 rfl hp
  · have hl : i < N := Nat.lt_of_not_le (fun q => c5 ((nI_leI (by omega) (by omega)).mpr q))
    refine z_iload_n 2 rfl rfl dX6_copyAll_8 ?_
    refine z_aload_n 1 rfl rfl dX6_copyAll_9 ?_
    refine z_alen (t0 := 1) (nI N) (hp.1 _ hj) ((hp.2.1 _ hj).trans hsh) (by decide) rfl rfl dX6_copyAll_10 ?_
    refine z_icmp_ge 26 dX6_copyAll_11 rfl (fun c11 => ?_) (fun c11 => ?_)
    · exact absurd ((nI_leI (by omega) (by omega)).mp c11) (by omega)
    · refine z_aload_n 1 rfl rfl dX6_copyAll_14 ?_
      refine z_iload_n 2 rfl rfl dX6_copyAll_15 ?_
      refine z_aload_n 0 rfl rfl dX6_copyAll_16 ?_
      refine z_iload_n 2 rfl rfl dX6_copyAll_17 ?_
      refine z_iald (n := i) (hs.1 _ hj) ((hs.2.1 _ hj).trans hsh) rfl (by omega) (by omega) (zSrc hp hD hj (hs.2.2.2.2.1 _ _ _ (hι i (by omega)))) dX6_copyAll_18 ?_
      refine z_iast (n := i) (hp.1 _ hj) ((hp.2.1 _ hj).trans hsh) rfl (by omega) (by omega) dX6_copyAll_19 ?_
      have hp := hp.seti (hι i (by omega)) (w (ι i))
      refine z_iincN (n := 1) 2 rfl rfl dX6_copyAll_20 ?_
      refine z_goto 2 dX6_copyAll_23 rfl ?_
      exact ih hl _ hp
theorem c_X6_copyAll {l : Launch} {G : zG} {B C : Nat → Nat} {m0 m1 mm : zM} {u w : Nat → Int32} {σ ρ : Nat → Nat} {f : Nat → Nat → Int32} (hp : zCPe G B m0 u σ ρ f mm) (hs : zCP G C m1 w m0) (hD : ∀ i j, zBd i → zBd j → C i ≠ B j) (j N : Nat) (ι : Nat → Nat) (hj : zBd j) (hN : N ≤ 10) (hsh : zBsh j = (9, N)) (hι : ∀ k, k < N → zIx j k = some (ι k)) : zSem l G (yX6_copyAll, cX6_copyAll, 3, none) 1 [.ref (C j), .ref (B j)] mm none (fun m' => zCPe G B m0 (kCpy u w ι N) σ ρ f m') := by
  refine z_met [some (.ref (C j)), some (.ref (B j)), none] rfl (zc1 (by rfl)) (Nat.le_of_ble_eq_true rfl) rfl ?_
  refine z_iconst (nI 0) dX6_copyAll_0 rfl ?_
  refine z_istore_n 2 rfl (Nat.le_of_ble_eq_true rfl) rfl dX6_copyAll_1 ?_
  exact l_X6_copyAll hs hD j N ι hj hN hsh hι 0 (Nat.zero_le _) mm hp
set_option maxRecDepth 4000 in
theorem c_X4_copyFrom {l : Launch} {G : zG} {B C : Nat → Nat} {m0 m1 mm : zM} {u w : Nat → Int32} {σ ρ : Nat → Nat} {f : Nat → Nat → Int32} (hp : zCPe G B m0 u σ ρ f mm) (hs : zCP G C m1 w m0) (hD : ∀ i j, zBd i → zBd j → C i ≠ B j) (r : Nat) (hr : r < 60) : zSem l G (yX4_copyFrom, cX4_copyFrom, 2, none) 1 [.ref (B (30 + r)), .ref (C (30 + r))] mm none (fun m' => ∃ u2, zCPe G B m0 u2 σ ρ f m' ∧ (∀ i, u i = w i → u2 i = w i) ∧ ∀ k, k < 7 → u2 (147 + 7 * r + k) = w (147 + 7 * r + k)) := by
  refine z_met [some (.ref (B (30 + r))), some (.ref (C (30 + r)))] rfl (zc1 (by rfl)) (Nat.le_of_ble_eq_true rfl) rfl ?_
  refine z_aload_n 0 rfl rfl dX4_copyFrom_0 ?_
  refine z_aload_n 1 rfl rfl dX4_copyFrom_1 ?_
  refine zX_R1 hp hs hD (by omega) rfl zf_X4_15 dX4_copyFrom_2 ?_
  refine zE_Rp1 hp (by omega) rfl zf_X4_15 dX4_copyFrom_5 (fun mm hp => ?_)
  refine z_aload_n 0 rfl rfl dX4_copyFrom_8 ?_
  refine z_aload_n 1 rfl rfl dX4_copyFrom_9 ?_
  refine zX_R2 hp hs hD (by omega) rfl zf_X4_18 dX4_copyFrom_10 ?_
  refine zE_Rp2 hp (by omega) rfl zf_X4_18 dX4_copyFrom_13 (fun mm hp => ?_)
  refine z_aload_n 0 rfl rfl dX4_copyFrom_16 ?_
  refine z_aload_n 1 rfl rfl dX4_copyFrom_17 ?_
  refine zX_R3 hp hs hD (by omega) rfl zf_X4_21 dX4_copyFrom_18 ?_
  refine zE_Rp3 hp (by omega) rfl zf_X4_21 dX4_copyFrom_21 (fun mm hp => ?_)
  refine z_aload_n 0 rfl rfl dX4_copyFrom_24 ?_
  refine z_aload_n 1 rfl rfl dX4_copyFrom_25 ?_
  refine zX_R4 hp hs hD (by omega) rfl zf_X4_24 dX4_copyFrom_26 ?_
  refine zE_Rp4 hp (by omega) rfl zf_X4_24 dX4_copyFrom_29 (fun mm hp => ?_)
  refine z_aload_n 0 rfl rfl dX4_copyFrom_32 ?_
  refine z_aload_n 1 rfl rfl dX4_copyFrom_33 ?_
  refine zX_R5 hp hs hD (by omega) rfl zf_X4_27 dX4_copyFrom_34 ?_
  refine zE_Rp5 hp (by omega) rfl zf_X4_27 dX4_copyFrom_37 (fun mm hp => ?_)
  refine z_aload_n 0 rfl rfl dX4_copyFrom_40 ?_
  refine z_aload_n 1 rfl rfl dX4_copyFrom_41 ?_
  refine zX_R6 hp hs hD (by omega) rfl zf_X4_30 dX4_copyFrom_42 ?_
  refine zE_Rp6 hp (by omega) rfl zf_X4_30 dX4_copyFrom_45 (fun mm hp => ?_)
  refine z_aload_n 0 rfl rfl dX4_copyFrom_48 ?_
  refine z_aload_n 1 rfl rfl dX4_copyFrom_49 ?_
  refine zX_R7 hp hs hD (by omega) rfl zf_X4_33 dX4_copyFrom_50 ?_
  refine zE_Rp7 hp (by omega) rfl zf_X4_33 dX4_copyFrom_53 (fun mm hp => ?_)
  exact z_vret dX4_copyFrom_56 rfl ⟨_, hp, fun i hi => by repeat first | exact hi | refine zWu ?_, fun k hk => by rcases (by omega : k = 0 ∨ k = 1 ∨ k = 2 ∨ k = 3 ∨ k = 4 ∨ k = 5 ∨ k = 6) with rfl | rfl | rfl | rfl | rfl | rfl | rfl <;> (repeat first | exact zWs | refine zWu ?_)⟩
set_option maxRecDepth 4000 in
theorem c_X0_copyFrom {l : Launch} {G : zG} {B C : Nat → Nat} {m0 m1 mm : zM} {u w : Nat → Int32} {σ ρ : Nat → Nat} {f : Nat → Nat → Int32} (hp : zCPe G B m0 u σ ρ f mm) (hs : zCP G C m1 w m0) (hD : ∀ i j, zBd i → zBd j → C i ≠ B j) (d : Nat) (hd : d < 10) : zSem l G (yX0_copyFrom, cX0_copyFrom, 2, none) 2 [.ref (B (10 + d)), .ref (C (10 + d))] mm none (fun m' => ∃ u2, zCPe G B m0 u2 σ ρ f m' ∧ (∀ i, u i = w i → u2 i = w i) ∧ ∀ k, k < 12 → u2 (27 + 12 * d + k) = w (27 + 12 * d + k)) := by
  refine z_met [some (.ref (B (10 + d))), some (.ref (C (10 + d)))] rfl (zc1 (by rfl)) (Nat.le_of_ble_eq_true rfl) rfl ?_
  refine z_aload_n 0 rfl rfl dX0_copyFrom_0 ?_
  refine z_aload_n 1 rfl rfl dX0_copyFrom_1 ?_
  refine zX_D1 hp hs hD (by omega) rfl zf_X0_19 dX0_copyFrom_2 ?_
  refine zE_Dp1 hp (by omega) rfl zf_X0_19 dX0_copyFrom_5 (fun mm hp => ?_)
  refine z_aload_n 0 rfl rfl dX0_copyFrom_8 ?_
  refine z_aload_n 1 rfl rfl dX0_copyFrom_9 ?_
  refine zX_D2 hp hs hD (by omega) rfl zf_X0_22 dX0_copyFrom_10 ?_
  refine zE_Dp2 hp (by omega) rfl zf_X0_22 dX0_copyFrom_13 (fun mm hp => ?_)
  refine z_aload_n 0 rfl rfl dX0_copyFrom_16 ?_
  refine z_aload_n 1 rfl rfl dX0_copyFrom_17 ?_
  refine zX_D3 hp hs hD (by omega) rfl zf_X0_25 dX0_copyFrom_18 ?_
  refine zE_Dp3 hp (by omega) rfl zf_X0_25 dX0_copyFrom_21 (fun mm hp => ?_)
  refine z_aload_n 0 rfl rfl dX0_copyFrom_24 ?_
  refine z_aload_n 1 rfl rfl dX0_copyFrom_25 ?_
  refine zX_D4 hp hs hD (by omega) rfl zf_X0_28 dX0_copyFrom_26 ?_
  refine zE_Dp4 hp (by omega) rfl zf_X0_28 dX0_copyFrom_29 (fun mm hp => ?_)
  refine z_aload_n 0 rfl rfl dX0_copyFrom_32 ?_
  refine z_aload_n 1 rfl rfl dX0_copyFrom_33 ?_
  refine zX_D5 hp hs hD (by omega) rfl zf_X0_31 dX0_copyFrom_34 ?_
  refine zE_Dp5 hp (by omega) rfl zf_X0_31 dX0_copyFrom_37 (fun mm hp => ?_)
  refine z_aload_n 1 rfl rfl dX0_copyFrom_40 ?_
  refine zX_D6 hp hs hD (by omega) rfl zf_X0_9 dX0_copyFrom_41 ?_
  refine z_aload_n 0 rfl rfl dX0_copyFrom_44 ?_
  refine zE_D6 hp (by omega) rfl zf_X0_9 dX0_copyFrom_45 ?_
  refine z_vN2 zm_X6_copyAll (c_X6_copyAll hp hs hD (20 + d) 6 (fun k => 27 + 12 * d + (6 + k)) (Or.inr (by omega)) (by omega) (zBsh_l hd) (fun k hk => zIx_l hd hk)) rfl zl_X0_34 (by decide) (Nat.le_of_ble_eq_true rfl) dX0_copyFrom_48 (fun mm hp => ?_)
  refine z_aload_n 0 rfl rfl dX0_copyFrom_51 ?_
  refine z_aload_n 1 rfl rfl dX0_copyFrom_52 ?_
  refine zX_D7 hp hs hD (by omega) rfl zf_X0_38 dX0_copyFrom_53 ?_
  refine zE_Dp7 hp (by omega) rfl zf_X0_38 dX0_copyFrom_56 (fun mm hp => ?_)
  exact z_vret dX0_copyFrom_59 rfl ⟨_, hp, fun i hi => zWu (kCpy_u (zWu (zWu (zWu (zWu (zWu hi))))) _), fun k hk => by
    rcases (by omega : k = 0 ∨ k = 1 ∨ k = 2 ∨ k = 3 ∨ k = 4 ∨ k = 5 ∨ 6 ≤ k) with rfl | rfl | rfl | rfl | rfl | rfl | q
    · exact zWu (kCpy_u (zWu (zWu (zWu (zWu zWs)))) _)
    · exact zWu (kCpy_u (zWu (zWu (zWu zWs))) _)
    · exact zWu (kCpy_u (zWu (zWu zWs)) _)
    · exact zWu (kCpy_u (zWu zWs) _)
    · exact zWu (kCpy_u zWs _)
    · exact zWs
    · refine zWu ?_
      have := kCpy_s (u := upd (upd (upd (upd (upd u (27 + 12 * d + 0) (w (27 + 12 * d + 0))) (27 + 12 * d + 1) (w (27 + 12 * d + 1))) (27 + 12 * d + 2) (w (27 + 12 * d + 2))) (27 + 12 * d + 3) (w (27 + 12 * d + 3))) (27 + 12 * d + 4) (w (27 + 12 * d + 4))) (w := w) (ι := fun k => 27 + 12 * d + (6 + k)) (k := k - 6) 6 (by omega)
      have e : 6 + (k - 6) = k := by omega
      simp only [e] at this
      exact this⟩
set_option maxRecDepth 4000 in
theorem c_X1_copyFrom {l : Launch} {G : zG} {B C : Nat → Nat} {m0 m1 mm : zM} {u w : Nat → Int32} {σ ρ : Nat → Nat} {f : Nat → Nat → Int32} (hp : zCPe G B m0 u σ ρ f mm) (hs : zCP G C m1 w m0) (hD : ∀ i j, zBd i → zBd j → C i ≠ B j) (i e : Nat) (g : Nat → Int32) (hi : i < 10) (he : e < 10) (hx : ∀ k, k < 4 → m0 (C (90 + e)) k = .int (g k)) : zSem l G (yX1_copyFrom, cX1_copyFrom, 2, none) 1 [.ref (B (90 + σ i)), .ref (C (90 + e))] mm none (fun m' => ∃ f2, zCPe G B m0 u σ ρ f2 m' ∧ (∀ a k, a ≠ i → f2 a k = f a k) ∧ ∀ k, k < 4 → f2 i k = g k) := by
  refine z_met [some (.ref (B (90 + σ i))), some (.ref (C (90 + e)))] rfl (zc1 (by rfl)) (Nat.le_of_ble_eq_true rfl) rfl ?_
  refine z_aload_n 0 rfl rfl dX1_copyFrom_0 ?_
  refine z_aload_n 1 rfl rfl dX1_copyFrom_1 ?_
  refine zX_E0 hp hs hD (by omega) (hx 0 (by decide)) rfl zf_X1_7 dX1_copyFrom_2 ?_
  refine zE_p0 hp (by omega) rfl zf_X1_7 dX1_copyFrom_5 (fun mm hp => ?_)
  refine z_aload_n 0 rfl rfl dX1_copyFrom_8 ?_
  refine z_aload_n 1 rfl rfl dX1_copyFrom_9 ?_
  refine zX_E1 hp hs hD (by omega) (hx 1 (by decide)) rfl zf_X1_13 dX1_copyFrom_10 ?_
  refine zE_p1 hp (by omega) rfl zf_X1_13 dX1_copyFrom_13 (fun mm hp => ?_)
  refine z_aload_n 0 rfl rfl dX1_copyFrom_16 ?_
  refine z_aload_n 1 rfl rfl dX1_copyFrom_17 ?_
  refine zX_E2 hp hs hD (by omega) (hx 2 (by decide)) rfl zf_X1_16 dX1_copyFrom_18 ?_
  refine zE_p2 hp (by omega) rfl zf_X1_16 dX1_copyFrom_21 (fun mm hp => ?_)
  refine z_aload_n 0 rfl rfl dX1_copyFrom_24 ?_
  refine z_aload_n 1 rfl rfl dX1_copyFrom_25 ?_
  refine zX_E3 hp hs hD (by omega) (hx 3 (by decide)) rfl zf_X1_19 dX1_copyFrom_26 ?_
  refine zE_p3 hp (by omega) rfl zf_X1_19 dX1_copyFrom_29 (fun mm hp => ?_)
  exact z_vret dX1_copyFrom_32 rfl ⟨_, hp, fun a k ha => by unfold zfu; rw [if_neg (fun z => ha z.1), if_neg (fun z => ha z.1), if_neg (fun z => ha z.1), if_neg (fun z => ha z.1)], fun k hk => by rcases (by omega : k = 0 ∨ k = 1 ∨ k = 2 ∨ k = 3) with rfl | rfl | rfl | rfl <;> (unfold zfu; simp)⟩
